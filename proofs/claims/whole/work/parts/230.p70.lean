theorem rput {W : bsX} {k K i : Nat} {w te ts kd nm er ep mr v a b c : Int32} {Y : pY} (h : ∀ (X : bsX) (Y : pY) (a b c v : Int32), fX9_puts (nI k) w v (ro X (row Y a b c)) = some (ro X (row (wr Y K k i v) a b c))) :
    fX9_puts (nI k) w v (rst W te ts kd nm er ep mr (row Y a b c)) = some (rst W te ts kd nm er ep mr (row (wr Y K k i v) a b c)) := by
  have := h (rst W te ts kd nm er ep mr (row Y a b c)) Y a b c v
  rw [rro, rro] at this
  exact this
theorem sImgL_eq {k : Nat} {v1 v2 v3 : Int32} {b b' : Bool} {Y : pY} (h4 : Y 5 k 4 = 0) : wr (wr (wr (wr (wr (wr (wr (wr Y 6 k 0 1) 5 k 2 1) 5 k 3 1) 6 k 1 v1) 6 k 2 v2) 6 k 3 v3) 6 k 4 (b2 b)) 6 k 5 (b2 b') = sImgL k v1 v2 v3 b b' Y := by
  funext K j i
  unfold sImgL
  simp only [wr_rd]
  by_cases h6 : K = 6 ∧ j = k
  · obtain ⟨rfl, rfl⟩ := h6
    by_cases hi : i ≤ 5
    · have : i = 0 ∨ i = 1 ∨ i = 2 ∨ i = 3 ∨ i = 4 ∨ i = 5 := by omega
      rcases this with rfl | rfl | rfl | rfl | rfl | rfl <;> simp [b2_t, b2_f, up_at, up_up, up_id]
    · repeat rw [if_neg (by omega)]
  · by_cases h5 : K = 5 ∧ j = k
    · obtain ⟨rfl, rfl⟩ := h5
      by_cases i2 : i = 2
      · subst i2; simp [b2_t, b2_f, up_at, up_up, up_id]
      · by_cases i3 : i = 3
        · subst i3; simp [b2_t, b2_f, up_at, up_up, up_id]
        · by_cases i4 : i = 4
          · subst i4; simp [b2_t, b2_f, up_at, up_up, up_id, h4]
          · simp [b2_t, b2_f, up_at, up_up, up_id, i2, i3, i4]
    · repeat rw [if_neg (by omega)]
theorem enc_imgL {k : Nat} {v1 v2 v3 : Int32} {b b' : Bool} {Y : pY} : row (sImgL k v1 v2 v3 b b' Y) (sSt Y) (Y 0 0 11) (Y 0 0 12) = enc (sImgL k v1 v2 v3 b b' Y) := by
  unfold enc sSt sImgL
  simp [b2_t, b2_f, up_at, up_up, up_id, wr_rd]
theorem MR_img {n k : Nat} {v1 v2 v3 : Int32} {b b' : Bool} {Y : pY} (h : MR n Y) (hk : k < n) (h1 : rng v1 0 99) (h2 : rng v2 0 99) (h3 : rng v3 0 99) : MR n (sImgL k v1 v2 v3 b b' Y) := by
  obtain ⟨m1, m2, m3, m4⟩ := h
  have h6 := m1.hn
  have r0 : ∀ K j i, K ≠ 5 → K ≠ 6 → sImgL k v1 v2 v3 b b' Y K j i = Y K j i := by
    intro K j i p q; unfold sImgL; simp [b2_t, b2_f, up_at, up_up, up_id, wr_rd, p, q]
  have r5 : ∀ q i, sImgL k v1 v2 v3 b b' Y 5 q i = if q = k ∧ i = 4 then 0 else if q = k ∧ i = 3 then 1 else if q = k ∧ i = 2 then 1 else Y 5 q i := by
    intro q i; unfold sImgL; simp [b2_t, b2_f, up_at, up_up, up_id, wr_rd]
  have r6 : ∀ q i, sImgL k v1 v2 v3 b b' Y 6 q i = if q = k ∧ i = 5 then b2 b' else if q = k ∧ i = 4 then b2 b else if q = k ∧ i = 5 then 0 else if q = k ∧ i = 4 then 0 else if q = k ∧ i = 3 then v3 else if q = k ∧ i = 2 then v2 else if q = k ∧ i = 1 then v1 else if q = k ∧ i = 0 then 1 else Y 6 q i := by
    intro q i; unfold sImgL; simp only [wr_rd]; simp [b2_t, b2_f, up_at, up_up, up_id]
  have hk6 : ¬ 6 = k := by omega
  have p6 : ∀ i, sImgL k v1 v2 v3 b b' Y 6 6 i = Y 6 6 i := by intro i; rw [r6]; simp [b2_t, b2_f, up_at, up_up, up_id, hk6]
  have e1 : rng 1 0 15 := ⟨1, by omega, by omega, rfl⟩
  have e2 : rng 1 0 7 := ⟨1, by omega, by omega, rfl⟩
  refine ⟨⟨h6, ?_, ?_, ?_, ?_, ?_, ?_, ?_, ?_, ?_, ?_, ?_, ?_, ?_, ?_, ?_⟩, by rw [r0 _ _ _ (by decide) (by decide)]; exact m2, by rw [r0 _ _ _ (by decide) (by decide)]; exact m3, by rw [r0 _ _ _ (by decide) (by decide)]; exact m4⟩
  · rw [r0 _ _ _ (by decide) (by decide)]; exact m1.sz
  · intro q hq
    have hs := m1.sl q hq
    unfold wS at hs ⊢
    by_cases e : q = k
    · subst e
      simp only [r5, r6]
      simp [b2_t, b2_f, up_at, up_up, up_id, h1, h2, h3, e1, e2, is01, b2_01]
    · simp only [r5, r6]
      simpa [b2_t, b2_f, up_at, up_up, up_id, e] using hs
  · intro q q1 q2
    have e : q ≠ k := by omega
    have := m1.hi q q1 q2
    simp only [r5, r6]
    simpa [b2_t, b2_f, up_at, up_up, up_id, e] using this
  · rw [r0 _ _ _ (by decide) (by decide)]; exact m1.on
  · rw [r0 _ _ _ (by decide) (by decide)]; exact Or.inl m3
  · rw [r0 _ _ _ (by decide) (by decide)]; exact m1.wat
  · rw [r0 _ _ _ (by decide) (by decide)]; exact m1.lim
  · rw [r0 _ _ _ (by decide) (by decide)]; exact m1.ret
  · rw [r0 _ _ _ (by decide) (by decide)]; exact m1.flo
  · rw [r0 _ _ _ (by decide) (by decide)]; exact m1.tim
  · rw [r0 _ _ _ (by decide) (by decide)]; exact m1.age
  · rw [r0 _ _ _ (by decide) (by decide)]; exact m1.tot
  · rw [p6, p6, p6]; exact m1.pim
  · rw [r0 _ _ _ (by decide) (by decide)]; exact Or.inl m4
  · intro q hq
    rw [r0 _ _ _ (by decide) (by decide), r0 _ _ _ (by decide) (by decide), r0 _ _ _ (by decide) (by decide)]
    exact m1.log q hq
theorem rng_of {v lo hi : Int32} {a b : Nat} (ha : a < 1000) (hb : b < 1000) (e1 : lo = nI a) (e2 : hi = nI b) (h1 : lo ≤ v) (h2 : v ≤ hi) : rng v a b := by
  subst e1; subst e2
  have h0 : (0 : Int32) ≤ v := Int32.le_trans ((pu_le 0 a (by omega) (by decide)).mpr (Nat.zero_le _)) h1
  obtain ⟨z, z1, rfl⟩ := pu_of h0
  exact ⟨z, (pu_le a z z1 (by omega)).mp h1, (pu_le z b (by omega) z1).mp h2, rfl⟩
theorem imgC_ex {X W : bsX} {e q r r0 k n m : Nat} {kd kr nm ep v1 v2 v3 : Int32} {mk : Nat → Int32} {Y : pY} (hX : PX X e) (hW : PW X W e) (hT : Tk X e kd kr q r nm) (hM : MR n Y) (hK : MK mk m) (hk : k < n) (h0 : Y 6 k 0 = 0)
    (h1 : rng v1 0 99) (h2 : rng v2 0 99) (h3 : rng v3 0 99) (hr0 : r0 ≤ q) :
    JR X W e r0 ep (imgC k v1 v2 v3 (cst X kd (nI q) (nI r) 0 ep mk Y)) (rimgC (nI k) v1 v2 v3 (rst W (nI r) (nI q) kr nm 0 ep (nI m) (enc Y))) := by
  have h6 := hM.1.hn
  have hk6 : k < 6 := by omega
  have hb := (hM.1.sl k hk6).2.2.2.2.2.2.2.2.2 h0
  obtain ⟨b, kd1, kr1, q1, r1, nm1, a1, a2, a3, a4⟩ := tell_ex (t := 3) (ep := ep) (mr := nI m) (mk := mk) (Y := wr (wr (wr (wr (wr (wr Y 6 k 0 1) 6 k 1 v1) 6 k 2 v2) 6 k 3 v3) 6 k 4 0) 6 k 5 0) (R := row (wr (wr (wr (wr (wr (wr Y 6 k 0 1) 5 k 2 1) 5 k 3 1) 6 k 1 v1) 6 k 2 v2) 6 k 3 v3) (sSt Y) (Y 0 0 11) (Y 0 0 12)) hX hW hT
  obtain ⟨b', kd2', kr2, q2, r2, nm2, b1, b2', b3, b4⟩ := tell_ex (t := 4) (ep := ep) (mr := nI m) (mk := mk) (Y := wr (wr (wr (wr (wr (wr (wr Y 6 k 0 1) 6 k 1 v1) 6 k 2 v2) 6 k 3 v3) 6 k 4 0) 6 k 5 0) 6 k 4 (b2 b)) (R := row (wr (wr (wr (wr (wr (wr (wr Y 6 k 0 1) 5 k 2 1) 5 k 3 1) 6 k 1 v1) 6 k 2 v2) 6 k 3 v3) 6 k 4 (b2 b)) (sSt Y) (Y 0 0 11) (Y 0 0 12)) hX hW a3
  left
  refine ⟨kd2', kr2, q2, r2, nm2, n, sImgL k v1 v2 v3 b b' Y, mk, m, ?_, ?_, b3, MR_img hM hk h1 h2 h3, hK, by omega⟩
  · unfold imgC
    rw [set_c, Option.bind_some, a1, Option.bind_some, if_pos (b2_01 b)]
    dsimp only
    rw [cw1, b1, Option.bind_some, if_pos (b2_01 b')]
    dsimp only
    rw [cw1]
    have := mark_c (X := X) (k := k) (kd := kd2') (ts := nI q2) (te := nI r2) (er := 0) (ep := ep) (p := 1) (t := 1) (b := false) (mk := mk) (Y := wr (wr (wr (wr (wr (wr (wr (wr Y 6 k 0 1) 6 k 1 v1) 6 k 2 v2) 6 k 3 v3) 6 k 4 0) 6 k 5 0) 6 k 4 (b2 b)) 6 k 5 (b2 b'))
    rw [b2_f] at this
    rw [this, Option.bind_some]
    rfl
  · unfold rimgC
    rw [r15, if_pos rfl]
    have e0 : fX9_puts (nI k) 0 1 (rst W (nI r) (nI q) kr nm 0 ep (nI m) (enc Y)) = some (rst W (nI r) (nI q) kr nm 0 ep (nI m) (row (wr Y 6 k 0 1) (sSt Y) (Y 0 0 11) (Y 0 0 12))) := rput (q9_pu0 hk6)
    rw [e0, Option.bind_some, rput (q9_pu1 hk6), Option.bind_some, rput (q9_pu2 hk6), Option.bind_some, rput (q9_pu8 hk6), Option.bind_some, rput (q9_pu9 hk6), Option.bind_some, rput (q9_pu10 hk6), Option.bind_some, a2, Option.bind_some]
    dsimp only
    rw [rput (q9_pu11 hk6), Option.bind_some, b2', Option.bind_some]
    dsimp only
    rw [rput (q9_pu12 hk6), Option.bind_some, sImgL_eq hb.2.2.1, enc_imgL]
theorem img49_ex {X W : bsX} {e q r k n m : Nat} {kd kr nm ep : Int32} {mk : Nat → Int32} {Y : pY} (hX : PX X e) (hW : PW X W e) (hT : Tk X e kd kr q r nm) (hM : MR n Y) (hK : MK mk m) (hk : k < n) (h0 : Y 6 k 0 = 0) :
    JR X W e r ep (fX4_readImageLine_49 1 k (cst X kd (nI q) (nI r) 0 ep mk Y)) (fX9_imageLine_39 (nI k) 0 (rst W (nI r) (nI q) kr nm 0 ep (nI m) (enc Y))) := by
  obtain ⟨kd0, kr0, q0, r0, a1, a2, a3, a4, a5, a6, a7, a8⟩ := tok_ex hX hW hT.2.1
  obtain ⟨nm0, b1, b2'⟩ := a8 (nI q) kr nm 0 ep (nI m) (enc Y)
  have hT0 : Tk X e kd0 kr0 q0 r0 nm0 := ⟨a2, a3, a4, a5, fun z => ⟨a6 z, b2' z⟩⟩
  have hfi : fX9_failsIf 0 3 (rst W (nI r) (nI q) kr nm 0 ep (nI m) (enc Y)) = some (rst W (nI r) (nI q) kr nm 0 ep (nI m) (enc Y)) := by unfold fX9_failsIf; rw [if_pos rfl]
  rw [img49, rimg39, a7, Option.bind_some, hfi, Option.bind_some, go0, b1, Option.bind_some]
  rcases take_ex (lo := 0) (hi := 99) (ep := ep) (mr := nI m) (mk := mk) (Y := Y) (R := enc Y) hX hW hT0 with ⟨v1, kd1, kr1, q1, r1, nm1, u1, u2, u3, u4, u5, u6⟩ | ⟨c, x, y, kd1, q1, r1, k0, k1, k2, k3⟩
  · rw [u3, u4, Option.bind_some, Option.bind_some]
    unfold imgA rimgA
    dsimp only
    rcases take_ex (lo := 1) (hi := 99) (ep := ep) (mr := nI m) (mk := mk) (Y := Y) (R := enc Y) hX hW u5 with ⟨v2, kd2', kr2, q2, r2, nm2, w1, w2, w3, w4, w5, w6⟩ | ⟨c, x, y, kd2', q2, r2, k0, k1, k2, k3⟩
    · rw [w3, w4, Option.bind_some, Option.bind_some]
      unfold imgB rimgB
      dsimp only
      rcases take_ex (lo := 0) (hi := 99) (ep := ep) (mr := nI m) (mk := mk) (Y := Y) (R := enc Y) hX hW w5 with ⟨v3, kd3', kr3, q3, r3, nm3, x1, x2, x3, x4, x5, x6⟩ | ⟨c, x, y, kd3', q3, r3, k0, k1, k2, k3⟩
      · rw [x3, x4, Option.bind_some, Option.bind_some]
        have := hT0.1
        have := u5.1
        have := w5.1
        exact imgC_ex hX hW x5 hM hK hk h0 (rng_of (a := 0) (b := 99) (by decide) (by decide) rfl rfl u1 u2) ((rng_of (a := 1) (b := 99) (by decide) (by decide) rfl rfl w1 w2).le (by omega) (by omega)) (rng_of (a := 0) (b := 99) (by decide) (by decide) rfl rfl x1 x2) (by omega)
      · rw [k1, k3, Option.bind_some, Option.bind_some]
        dsimp only
        obtain ⟨kd', q', r', Y', hh⟩ := e_imgC (k := k) (er := c) (ep := nI q2) (v1 := v1) (v2 := v2) (v3 := x) (mk := mk) (Y := Y) hX hW k2
        right
        exact ⟨c, nI q2, kd', q', r', mk, Y', nI r2, nI q2, kr2, nm2, nI m, enc Y, k0, enc_160 _, hh, e_rimgC k0⟩
    · rw [k1, k3, Option.bind_some, Option.bind_some]
      dsimp only
      obtain ⟨kd', q', r', Y', hh⟩ := e_imgB (k := k) (er := c) (ep := nI q1) (v1 := v1) (v2 := x) (mk := mk) (Y := Y) hX hW k2 k0
      right
      exact ⟨c, nI q1, kd', q', r', mk, Y', nI r1, nI q1, kr1, nm1, nI m, enc Y, k0, enc_160 _, hh, e_rimgB k0⟩
  · rw [k1, k3, Option.bind_some, Option.bind_some]
    dsimp only
    obtain ⟨kd', q', r', Y', hh⟩ := e_imgA (k := k) (er := c) (ep := nI q0) (v1 := x) (mk := mk) (Y := Y) hX hW k2 k0
    right
    exact ⟨c, nI q0, kd', q', r', mk, Y', nI r0, nI q0, kr0, nm0, nI m, enc Y, k0, enc_160 _, hh, e_rimgA k0⟩
theorem has_r {W : bsX} {k : Nat} {te ts kd nm er ep mr : Int32} {Y : pY} (hk : k < 6) (h : is01 (Y 6 k 0)) : fX9_has (nI k) (rst W te ts kd nm er ep mr (enc Y)) = some (b2 (decide (Y 6 k 0 ≠ 0)), rst W te ts kd nm er ep mr (enc Y)) := by
  have : fX9_has (nI k) (ro (rst W te ts kd nm er ep mr (enc Y)) (enc Y)) = some (b2 (decide (Y 6 k 0 ≠ 0)), ro (rst W te ts kd nm er ep mr (enc Y)) (enc Y)) := q9_has hk h
  rw [rro] at this
  exact this
/-- a slot's number: below the size -/
theorem slot_lt {v : Int32} {n : Nat} (hn : n ≤ 6) (h1 : (0 : Int32) ≤ v) (h2 : v ≤ nI n - 1) : ∃ k, k < n ∧ v = nI k := by
  obtain ⟨k, hk, rfl⟩ := pu_of h1
  by_cases h0 : n = 0
  · subst h0
    have e0 : nI 0 - (1 : Int32) = -1 := by decide
    rw [e0] at h2
    exact absurd (Int32.le_trans h1 h2) (by decide)
  · have hs : nI n - (1 : Int32) = nI (n - 1) := by rw [show (1 : Int32) = nI 1 from rfl, pu_sub _ _ (by omega)]
    rw [hs] at h2
    have := (pu_le k (n - 1) (by omega) hk).mp h2
    exact ⟨k, by omega, rfl⟩
theorem imageLine_ex {X W : bsX} {e q r n m : Nat} {kd kr nm ep : Int32} {mk : Nat → Int32} {Y : pY} (hX : PX X e) (hW : PW X W e) (hT : Tk X e kd kr q r nm) (hM : MR n Y) (hK : MK mk m) :
    JR X W e r ep (fX4_readImageLine 1 (cst X kd (nI q) (nI r) 0 ep mk Y)) (fX9_imageLine (rst W (nI r) (nI q) kr nm 0 ep (nI m) (enc Y))) := by
  have c10 : ¬ (1 : Int32) = 0 := by decide
  have c30 : ¬ (3 : Int32) = 0 := by decide
  have h6 := hM.1.hn
  have hsz : Y 0 0 4 = nI n := hM.1.sz
  obtain ⟨kd0, kr0, q0, r0, a1, a2, a3, a4, a5, a6, a7, a8⟩ := tok_ex hX hW hT.2.1
  obtain ⟨nm0, b1, b2'⟩ := a8 (nI q) kr nm 0 ep (nI m) (enc Y)
  have hT0 : Tk X e kd0 kr0 q0 r0 nm0 := ⟨a2, a3, a4, a5, fun z => ⟨a6 z, b2' z⟩⟩
  have row0' : rst W (nI r0) (nI q0) kr0 nm0 0 ep (nI m) (enc Y) 14 1 0 0 = nI n := by rw [rR]; exact hsz
  unfold fX4_readImageLine fX9_imageLine
  rw [a7, Option.bind_some, go0, b1, Option.bind_some, cY, hsz, if_pos (show bsIn (0 : Int32) 160 by decide), bx_0, row0']
  rcases look_ex (lo := 0) (hi := nI n - 1) (ep := ep) (mr := nI m) (mk := mk) (Y := Y) (R := enc Y) hX hW hT0 with ⟨v, v1, v2, _, v3, v4⟩ | ⟨c, k0, k1, k2⟩
  · obtain ⟨k, hk, rfl⟩ := slot_lt h6 v1 v2
    have hk6 : k < 6 := by omega
    have hs := hM.1.sl k hk6
    rw [v3, v4, Option.bind_some, Option.bind_some]
    simp only [pu_neg k (show k < 2147483648 by omega), if_false, pu_lt6 hk6, if_true, pu_inT hk6 (show (6 : Nat) < 2147483648 by decide), pu_ix6 hk6, cY, r15]
    rw [has_r hk6 hs.1, Option.bind_some]
    by_cases h0 : Y 6 k 0 = 0
    · rw [if_pos h0, decide_eq_false (fun z => z h0), b2_f, if_pos rfl]
      show JR X W e r ep (fX4_readImageLine_49 1 k (cst X kd0 (nI q0) (nI r0) 0 ep mk Y)) (fX9_imageLine_39 (nI k) 0 (rst W (nI r0) (nI q0) kr0 nm0 0 ep (nI m) (enc Y)))
      have := img49_ex (ep := ep) hX hW hT0 hM hK hk h0
      have hr := hT0.1
      rcases this with ⟨kd1, kr1, q1, r1, nm1, n1, Y1, mk1, m1, s1, s2, s3, s4, s5, s6⟩ | s
      · left; exact ⟨kd1, kr1, q1, r1, nm1, n1, Y1, mk1, m1, s1, s2, s3, s4, s5, by omega⟩
      · right; exact s
    · rw [if_neg h0, decide_eq_true (show Y 6 k 0 ≠ 0 from h0), b2_t, if_neg c10]
      obtain ⟨kd', q', r', Y', hh⟩ := e_img49 (k := k) (er := 3) (ep := nI q0) (mk := mk) (Y := Y) hX hW hT0.tc c30
      have h39 : fX9_imageLine_39 (nI k) 1 (rst W (nI r0) (nI q0) kr0 nm0 0 ep (nI m) (enc Y)) = fX9_imageLine_39 (nI k) 0 (rst W (nI r0) (nI q0) kr0 nm0 3 (nI q0) (nI m) (enc Y)) := by
        rw [rimg39, rimg39]
        unfold fX9_failsIf
        rw [if_neg c10, if_pos rfl, fail_r0, Option.bind_some]
      right
      refine ⟨3, nI q0, kd', q', r', mk, Y', nI r0, nI q0, kr0, nm0, nI m, enc Y, c30, enc_160 _, ?_, ?_⟩
      · rw [fail_c0, Option.bind_some]; exact hh
      · exact h39.trans (e_rimg39 c30)
  · rw [k1, k2, Option.bind_some, Option.bind_some]
    simp only [r15, k0, if_false, show ((-1 : Int32) < 0) = True from eq_true (by decide), if_true]
    right
    exact ⟨c, nI q0, kd0, nI q0, nI r0, mk, Y, nI r0, nI q0, kr0, nm0, nI m, enc Y, k0, enc_160 _, rfl, e_rimg39 k0⟩
