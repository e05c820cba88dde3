/-! A MARK'S LINE -/
def mrkC (k : Nat) (p t : Int32) (X : bsX) : Option bsX := (fX4_takeIfWord 6 X).bind fun r11 => (fX5_setMark 1 k p t r11.1 r11.2).bind fun r13 => some r13
def mrkB (k : Nat) (p : Int32) (X : bsX) : Option bsX := (fX4_takeNumber (0 : Int32) (7 : Int32) X).bind fun r9 => mrkC k p r9.1 r9.2
def mrkA (k : Nat) (X : bsX) : Option bsX := (fX4_takeNumber (0 : Int32) (15 : Int32) X).bind fun r7 => mrkB k r7.1 r7.2
theorem mrk63 (k : Nat) (x2 : Int32) (X : bsX) : fX4_readMarkLine_63 1 x2 k X = if bsIn x2 6 then ((fX4_readToken (bsWr X 13 7 0 (bsIx x2) (vp_nar .boolean (1 : Int32)))).bind fun r5 => mrkA k r5) else none := rfl
theorem e_mrkC {X W : bsX} {e q r k : Nat} {kd er ep p t : Int32} {mk : Nat → Int32} {Y : pY} (hX : PX X e) (hW : PW X W e) (hT : Tc e kd q r) : ∃ kd' q' r' Y', mrkC k p t (cst X kd (nI q) (nI r) er ep mk Y) = some (cst X kd' q' r' er ep mk Y') := by
  unfold mrkC
  obtain ⟨b, kd1, q1, r1, h1, t1⟩ := e_word (t := 6) (er := er) (ep := ep) (mk := mk) (Y := Y) hX hW hT
  rw [h1, Option.bind_some]
  dsimp only
  rw [mark_c, Option.bind_some]
  exact ⟨_, _, _, _, rfl⟩
theorem e_mrkB {X W : bsX} {e q r k : Nat} {kd er ep p : Int32} {mk : Nat → Int32} {Y : pY} (hX : PX X e) (hW : PW X W e) (hT : Tc e kd q r) (he : er ≠ 0) : ∃ kd' q' r' Y', mrkB k p (cst X kd (nI q) (nI r) er ep mk Y) = some (cst X kd' q' r' er ep mk Y') := by
  obtain ⟨x, kd', q', r', h1, h2⟩ := e_take (lo := 0) (hi := 7) (ep := ep) (mk := mk) (Y := Y) hX hW hT he
  unfold mrkB
  rw [h1, Option.bind_some]
  exact e_mrkC hX hW h2
theorem e_mrkA {X W : bsX} {e q r k : Nat} {kd er ep : Int32} {mk : Nat → Int32} {Y : pY} (hX : PX X e) (hW : PW X W e) (hT : Tc e kd q r) (he : er ≠ 0) : ∃ kd' q' r' Y', mrkA k (cst X kd (nI q) (nI r) er ep mk Y) = some (cst X kd' q' r' er ep mk Y') := by
  obtain ⟨x, kd', q', r', h1, h2⟩ := e_take (lo := 0) (hi := 15) (ep := ep) (mk := mk) (Y := Y) hX hW hT he
  unfold mrkA
  rw [h1, Option.bind_some]
  exact e_mrkB hX hW h2 he
theorem nar_b1 : vp_nar .boolean (1 : Int32) = 1 := by decide
theorem e_mrk63 {X W : bsX} {e q r k : Nat} {kd er ep : Int32} {mk : Nat → Int32} {Y : pY} (hX : PX X e) (hW : PW X W e) (hT : Tc e kd q r) (he : er ≠ 0) (hk : k < 6) : ∃ kd' q' r' Y', fX4_readMarkLine_63 1 (nI k) k (cst X kd (nI q) (nI r) er ep mk Y) = some (cst X kd' q' r' er ep (pt mk k 1) Y') := by
  rw [mrk63, if_pos ((pu_in k 6 (by omega)).mpr hk), pu_ix k (by omega), nar_b1, cwM hk]
  obtain ⟨kd1, q1, r1, h1, t1⟩ := e_tok (er := er) (ep := ep) (mk := pt mk k 1) (Y := Y) hX hW hT
  rw [h1, Option.bind_some]
  exact e_mrkA hX hW t1 he
def rmrkC (x1 p t : Int32) (X : bsX) : Option bsX := if (X 14 0 0 15) = 0 then ((fX9_puts x1 (1 : Int32) p (bsWr X 14 0 0 18 ((X 14 0 0 18) ||| ((1 : Int32) <<< (x1 &&& 31))))).bind fun r15 => (fX9_puts x1 (2 : Int32) t r15).bind fun r17 => (fX9_told 6 r17).bind fun r19 => (fX9_puts x1 (3 : Int32) r19.1 r19.2).bind fun r21 => some r21) else (some X)
def rmrkB (x1 p : Int32) (X : bsX) : Option bsX := (fX9_takes (0 : Int32) (7 : Int32) X).bind fun r13 => rmrkC x1 p r13.1 r13.2
def rmrkA (x1 : Int32) (X : bsX) : Option bsX := (fX9_takes (0 : Int32) (15 : Int32) X).bind fun r11 => rmrkB x1 r11.1 r11.2
theorem rmrk68 (x1 y1 : Int32) (X : bsX) : fX9_markLine_68 x1 y1 X = (fX9_failsIf y1 (4 : Int32) X).bind fun r7 => (fX9_goesOn r7).bind fun r9 => rmrkA x1 r9 := rfl
theorem e_rmrkC {W : bsX} {te ts kd nm er ep mr x1 p t : Int32} {R : Nat → Int32} (he : er ≠ 0) : rmrkC x1 p t (rst W te ts kd nm er ep mr R) = some (rst W te ts kd nm er ep mr R) := by
  unfold rmrkC; rw [r15, if_neg he]
theorem e_rmrkB {W : bsX} {te ts kd nm er ep mr x1 p : Int32} {R : Nat → Int32} (he : er ≠ 0) : rmrkB x1 p (rst W te ts kd nm er ep mr R) = some (rst W te ts kd nm er ep mr R) := by
  obtain ⟨y, h⟩ := e_takes (W := W) (te := te) (ts := ts) (kd := kd) (nm := nm) (ep := ep) (mr := mr) (lo := 0) (hi := 7) (R := R) he
  unfold rmrkB; rw [h, Option.bind_some]; exact e_rmrkC he
theorem e_rmrkA {W : bsX} {te ts kd nm er ep mr x1 : Int32} {R : Nat → Int32} (he : er ≠ 0) : rmrkA x1 (rst W te ts kd nm er ep mr R) = some (rst W te ts kd nm er ep mr R) := by
  obtain ⟨y, h⟩ := e_takes (W := W) (te := te) (ts := ts) (kd := kd) (nm := nm) (ep := ep) (mr := mr) (lo := 0) (hi := 15) (R := R) he
  unfold rmrkA; rw [h, Option.bind_some]; exact e_rmrkB he
theorem e_if {W : bsX} {te ts kd nm er ep mr y c : Int32} {R : Nat → Int32} (he : er ≠ 0) : fX9_failsIf y c (rst W te ts kd nm er ep mr R) = some (rst W te ts kd nm er ep mr R) := by
  unfold fX9_failsIf
  by_cases z : y = 0
  · rw [if_pos z]
  · rw [if_neg z, fail_r1 he, Option.bind_some]
theorem if_0 {Z : bsX} {c : Int32} : fX9_failsIf 0 c Z = some Z := by unfold fX9_failsIf; rw [if_pos rfl]
theorem if_1 {W : bsX} {te ts kd nm ep mr c : Int32} {R : Nat → Int32} : fX9_failsIf 1 c (rst W te ts kd nm 0 ep mr R) = some (rst W te ts kd nm c ts mr R) := by
  unfold fX9_failsIf; rw [if_neg (by decide), fail_r0, Option.bind_some]
theorem e_rmrk68 {W : bsX} {te ts kd nm er ep mr x1 y1 : Int32} {R : Nat → Int32} (he : er ≠ 0) : fX9_markLine_68 x1 y1 (rst W te ts kd nm er ep mr R) = some (rst W te ts kd nm er ep mr R) := by
  rw [rmrk68, e_if he, Option.bind_some, go1 he, Option.bind_some]
  exact e_rmrkA he
theorem e_r43 {W : bsX} {te ts kd nm er ep mr x1 y1 : Int32} {R : Nat → Int32} (he : er ≠ 0) : fX9_markLine_43 x1 y1 (rst W te ts kd nm er ep mr R) = some (rst W te ts kd nm er ep mr R) := by
  unfold fX9_markLine_43
  rw [e_if he, Option.bind_some, r15, if_neg he]
  exact e_rmrk68 he
theorem MR_mark {n k : Nat} {p t : Int32} {b : Bool} {Y : pY} (h : MR n Y) (hk : k < n) (hp : Y 6 k 0 ≠ 0) (h1 : rng p 0 15) (h2 : rng t 0 7) : MR n (wr (wr (wr Y 5 k 2 p) 5 k 3 t) 5 k 4 (b2 b)) := by
  obtain ⟨m1, m2, m3, m4⟩ := h
  have h6 := m1.hn
  have hb := b2_01 b
  refine ⟨m1.of (by simp [b2_t, b2_f, up_at, up_up, up_id, wr_rd]) (by simpa [b2_t, b2_f, up_at, up_up, up_id, wr_rd] using m1.flo) (by simpa [b2_t, b2_f, up_at, up_up, up_id, wr_rd] using m1.tim) (by simpa [b2_t, b2_f, up_at, up_up, up_id, wr_rd] using m1.age) (by simpa [b2_t, b2_f, up_at, up_up, up_id, wr_rd] using m1.tot) (by simp [b2_t, b2_f, up_at, up_up, up_id, wr_rd]) ?_ (by simp [b2_t, b2_f, up_at, up_up, up_id, wr_rd]) (fun q h1 h2 => by have e : q ≠ k := (by omega); simpa [b2_t, b2_f, up_at, up_up, up_id, wr_rd, e] using (m1.hi q h1 h2).2) (by simp [b2_t, b2_f, up_at, up_up, up_id, wr_rd]) (Nat.le_refl _), by simpa [b2_t, b2_f, up_at, up_up, up_id, wr_rd] using m2, by simpa [b2_t, b2_f, up_at, up_up, up_id, wr_rd] using m3, by simpa [b2_t, b2_f, up_at, up_up, up_id, wr_rd] using m4⟩
  intro q hq
  have hs := m1.sl q hq
  by_cases e : q = k
  · subst e
    have hb' : is01 (b2 b) := b2_01 b
    simp_all [wS, wr_rd]
  · simpa [b2_t, b2_f, up_at, up_up, up_id, wS, wr_rd, e] using hs
theorem mrkC_ex {X W : bsX} {e q r r0 k n m : Nat} {kd kr nm ep p t : Int32} {mk : Nat → Int32} {Y : pY} (hX : PX X e) (hW : PW X W e) (hT : Tk X e kd kr q r nm) (hM : MR n Y) (hK : MK mk m) (hk : k < n) (h0 : Y 6 k 0 ≠ 0)
    (h1 : rng p 0 15) (h2 : rng t 0 7) (hr0 : r0 ≤ q) :
    JR X W e r0 ep (mrkC k p t (cst X kd (nI q) (nI r) 0 ep (pt mk k 1) Y)) (rmrkC (nI k) p t (rst W (nI r) (nI q) kr nm 0 ep (nI m) (enc Y))) := by
  have h6 := hM.1.hn
  have hk6 : k < 6 := by omega
  have hbit := (mk_bits m hK.1 k hk6).1
  obtain ⟨b, kd1, kr1, q1, r1, nm1, a1, a2, a3, a4⟩ := tell_ex (t := 6) (ep := ep) (mr := nI (m ||| 1 <<< k)) (mk := pt mk k 1) (Y := Y) (R := row (wr (wr Y 5 k 2 p) 5 k 3 t) (sSt Y) (Y 0 0 11) (Y 0 0 12)) hX hW hT
  left
  refine ⟨kd1, kr1, q1, r1, nm1, n, wr (wr (wr Y 5 k 2 p) 5 k 3 t) 5 k 4 (b2 b), pt mk k 1, m ||| 1 <<< k, ?_, ?_, a3, MR_mark hM hk h0 h1 h2, hK.set hk6, by omega⟩
  · unfold mrkC
    rw [a1, Option.bind_some]
    dsimp only
    rw [mark_c, Option.bind_some]
  · unfold rmrkC
    rw [r15, if_pos rfl, r18, hbit, rw18]
    have e0 : fX9_puts (nI k) 1 p (rst W (nI r) (nI q) kr nm 0 ep (nI (m ||| 1 <<< k)) (enc Y)) = some (rst W (nI r) (nI q) kr nm 0 ep (nI (m ||| 1 <<< k)) (row (wr Y 5 k 2 p) (sSt Y) (Y 0 0 11) (Y 0 0 12))) := rput (q9_pu1 hk6)
    have ee : row (wr (wr (wr Y 5 k 2 p) 5 k 3 t) 5 k 4 (b2 b)) (sSt Y) (Y 0 0 11) (Y 0 0 12) = enc (wr (wr (wr Y 5 k 2 p) 5 k 3 t) 5 k 4 (b2 b)) := by
      unfold enc sSt; simp [b2_t, b2_f, up_at, up_up, up_id, wr_rd]
    rw [e0, Option.bind_some, rput (q9_pu2 hk6), Option.bind_some, a2, Option.bind_some]
    dsimp only
    rw [rput (q9_pu3 hk6), Option.bind_some, ee]
theorem mrk63_ex {X W : bsX} {e q r k n m : Nat} {kd kr nm ep : Int32} {mk : Nat → Int32} {Y : pY} (hX : PX X e) (hW : PW X W e) (hT : Tk X e kd kr q r nm) (hM : MR n Y) (hK : MK mk m) (hk : k < n) (h0 : Y 6 k 0 ≠ 0) :
    JR X W e r ep (fX4_readMarkLine_63 1 (nI k) k (cst X kd (nI q) (nI r) 0 ep mk Y)) (fX9_markLine_68 (nI k) 0 (rst W (nI r) (nI q) kr nm 0 ep (nI m) (enc Y))) := by
  have h6 := hM.1.hn
  have hk6 : k < 6 := by omega
  obtain ⟨kd0, kr0, q0, r0, a1, a2, a3, a4, a5, a6, a7, a8⟩ := tok_ex hX hW hT.2.1
  obtain ⟨nm0, b1, b2'⟩ := a8 (nI q) kr nm 0 ep (nI m) (enc Y)
  have hT0 : Tk X e kd0 kr0 q0 r0 nm0 := ⟨a2, a3, a4, a5, fun z => ⟨a6 z, b2' z⟩⟩
  rw [mrk63, if_pos ((pu_in k 6 (by omega)).mpr hk6), pu_ix k (by omega), nar_b1, cwM hk6, a7, Option.bind_some, rmrk68, if_0, Option.bind_some, go0, b1, Option.bind_some]
  unfold mrkA rmrkA
  rcases take_ex (lo := 0) (hi := 15) (ep := ep) (mr := nI m) (mk := pt mk k 1) (Y := Y) (R := enc Y) hX hW hT0 with ⟨v1, kd1, kr1, q1, r1, nm1, u1, u2, u3, u4, u5, u6⟩ | ⟨c, x, y, kd1, q1, r1, k0, k1, k2, k3⟩
  · rw [u3, u4, Option.bind_some, Option.bind_some]
    unfold mrkB rmrkB
    dsimp only
    rcases take_ex (lo := 0) (hi := 7) (ep := ep) (mr := nI m) (mk := pt mk k 1) (Y := Y) (R := enc Y) hX hW u5 with ⟨v2, kd2', kr2, q2, r2, nm2, w1, w2, w3, w4, w5, w6⟩ | ⟨c, x, y, kd2', q2, r2, k0, k1, k2, k3⟩
    · rw [w3, w4, Option.bind_some, Option.bind_some]
      have := hT0.1
      have := u5.1
      exact mrkC_ex hX hW w5 hM hK hk h0 (rng_of (a := 0) (b := 15) (by decide) (by decide) rfl rfl u1 u2) (rng_of (a := 0) (b := 7) (by decide) (by decide) rfl rfl w1 w2) (by omega)
    · rw [k1, k3, Option.bind_some, Option.bind_some]
      dsimp only
      obtain ⟨kd', q', r', Y', hh⟩ := e_mrkC (k := k) (er := c) (ep := nI q1) (p := v1) (t := x) (mk := pt mk k 1) (Y := Y) hX hW k2
      right
      exact ⟨c, nI q1, kd', q', r', pt mk k 1, Y', nI r1, nI q1, kr1, nm1, nI m, enc Y, k0, enc_160 _, hh, e_rmrkC k0⟩
  · rw [k1, k3, Option.bind_some, Option.bind_some]
    dsimp only
    obtain ⟨kd', q', r', Y', hh⟩ := e_mrkB (k := k) (er := c) (ep := nI q0) (p := x) (mk := pt mk k 1) (Y := Y) hX hW k2 k0
    right
    exact ⟨c, nI q0, kd', q', r', pt mk k 1, Y', nI r0, nI q0, kr0, nm0, nI m, enc Y, k0, enc_160 _, hh, e_rmrkB k0⟩
theorem JR.le {X W : bsX} {e r r' : Nat} {ep : Int32} {C D : Option bsX} (h : JR X W e r' ep C D) (hr : r ≤ r') : JR X W e r ep C D := by
  rcases h with ⟨kd1, kr1, q1, r1, nm1, n1, Y1, mk1, m1, s1, s2, s3, s4, s5, s6⟩ | s
  · left; exact ⟨kd1, kr1, q1, r1, nm1, n1, Y1, mk1, m1, s1, s2, s3, s4, s5, by omega⟩
  · right; exact s
theorem markLine_ex {X W : bsX} {e q r n m : Nat} {kd kr nm ep : Int32} {mk : Nat → Int32} {Y : pY} (hX : PX X e) (hW : PW X W e) (hT : Tk X e kd kr q r nm) (hM : MR n Y) (hK : MK mk m) :
    JR X W e r ep (fX4_readMarkLine 1 (cst X kd (nI q) (nI r) 0 ep mk Y)) (fX9_markLine (rst W (nI r) (nI q) kr nm 0 ep (nI m) (enc Y))) := by
  have c10 : ¬ (1 : Int32) = 0 := by decide
  have c30 : ¬ (3 : Int32) = 0 := by decide
  have c40 : ¬ (4 : Int32) = 0 := by decide
  have h6 := hM.1.hn
  have hsz : Y 0 0 4 = nI n := hM.1.sz
  obtain ⟨kd0, kr0, q0, r0, a1, a2, a3, a4, a5, a6, a7, a8⟩ := tok_ex hX hW hT.2.1
  obtain ⟨nm0, b1, b2'⟩ := a8 (nI q) kr nm 0 ep (nI m) (enc Y)
  have hT0 : Tk X e kd0 kr0 q0 r0 nm0 := ⟨a2, a3, a4, a5, fun z => ⟨a6 z, b2' z⟩⟩
  have row0' : rst W (nI r0) (nI q0) kr0 nm0 0 ep (nI m) (enc Y) 14 1 0 0 = nI n := by rw [rR]; exact hsz
  unfold fX4_readMarkLine fX9_markLine
  rw [a7, Option.bind_some, go0, b1, Option.bind_some, cY, hsz, if_pos (show bsIn (0 : Int32) 160 by decide), bx_0, row0']
  rcases look_ex (lo := 0) (hi := nI n - 1) (ep := ep) (mr := nI m) (mk := mk) (Y := Y) (R := enc Y) hX hW hT0 with ⟨v, v1, v2, _, v3, v4⟩ | ⟨c, k0, k1, k2⟩
  · obtain ⟨k, hk, rfl⟩ := slot_lt h6 v1 v2
    have hk6 : k < 6 := by omega
    have hs := hM.1.sl k hk6
    have hbit := hK.2 k hk6
    rw [v3, v4, Option.bind_some, Option.bind_some]
    simp only [pu_neg k (show k < 2147483648 by omega), if_false, pu_lt6 hk6, if_true, pu_inT hk6 (show (6 : Nat) < 2147483648 by decide), pu_ix6 hk6, cM hk6, r15, r18]
    by_cases hm : mk k = 0
    · rw [if_pos hm, if_neg (fun z => (hbit.mp z) hm)]
      unfold fX4_readMarkLine_48 fX9_markLine_42 fX9_markLine_43
      rw [cY, if_0, Option.bind_some, r15, if_pos rfl, has_r hk6 hs.1, Option.bind_some]
      by_cases h0 : Y 6 k 0 = 0
      · rw [if_pos h0, decide_eq_false (fun z => z h0), b2_f, if_pos rfl, fail_c0, Option.bind_some]
        dsimp only
        obtain ⟨kd', q', r', Y', hh⟩ := e_mrk63 (k := k) (er := 4) (ep := nI q0) (mk := mk) (Y := Y) hX hW hT0.tc c40 hk6
        have h39 : fX9_markLine_68 (nI k) 1 (rst W (nI r0) (nI q0) kr0 nm0 0 ep (nI m) (enc Y)) = some (rst W (nI r0) (nI q0) kr0 nm0 4 (nI q0) (nI m) (enc Y)) := by
          rw [rmrk68, if_1, Option.bind_some, go1 c40, Option.bind_some]; exact e_rmrkA c40
        right
        exact ⟨4, nI q0, kd', q', r', pt mk k 1, Y', nI r0, nI q0, kr0, nm0, nI m, enc Y, c40, enc_160 _, hh, h39⟩
      · rw [if_neg h0, decide_eq_true (show Y 6 k 0 ≠ 0 from h0), b2_t, if_neg c10]
        have hr := hT0.1
        exact (mrk63_ex (ep := ep) hX hW hT0 hM hK hk h0).le (by omega)
    · rw [if_neg hm, if_pos (hbit.mpr hm), fail_c0, Option.bind_some]
      have h48 : ∃ kd' q' r' Y', fX4_readMarkLine_48 1 (nI k) k (cst X kd0 (nI q0) (nI r0) 3 (nI q0) mk Y) = some (cst X kd' q' r' 3 (nI q0) (pt mk k 1) Y') := by
        unfold fX4_readMarkLine_48
        rw [cY, fail_c1 c30, Option.bind_some, ite_self]
        exact e_mrk63 hX hW hT0.tc c30 hk6
      obtain ⟨kd', q', r', Y', hh⟩ := h48
      have h43 : fX9_markLine_43 (nI k) 1 (rst W (nI r0) (nI q0) kr0 nm0 0 ep (nI m) (enc Y)) = some (rst W (nI r0) (nI q0) kr0 nm0 3 (nI q0) (nI m) (enc Y)) := by
        unfold fX9_markLine_43
        rw [if_1, Option.bind_some, r15, if_neg c30]
        exact e_rmrk68 c30
      right
      exact ⟨3, nI q0, kd', q', r', pt mk k 1, Y', nI r0, nI q0, kr0, nm0, nI m, enc Y, c30, enc_160 _, hh, h43⟩
  · rw [k1, k2, Option.bind_some, Option.bind_some]
    simp only [r15, k0, if_false, show ((-1 : Int32) < 0) = True from eq_true (by decide), if_true]
    right
    exact ⟨c, nI q0, kd0, nI q0, nI r0, mk, Y, nI r0, nI q0, kr0, nm0, nI m, enc Y, k0, enc_160 _, rfl, e_r43 k0⟩
theorem line_ex {X W : bsX} {e q r n m : Nat} {kr nm ep : Int32} {mk : Nat → Int32} {Y : pY} (hX : PX X e) (hW : PW X W e) (hT : Tk X e 4 kr q r nm) (hM : MR n Y) (hK : MK mk m) :
    JR X W e r ep (fX4_readLine 1 (cst X 4 (nI q) (nI r) 0 ep mk Y)) ((fX9_token (rst W (nI r) (nI q) kr nm 0 ep (nI m) (enc Y))).bind fun r28 => fX9_line r28) := by
  have c10 : ¬ (1 : Int32) = 0 := by decide
  obtain ⟨kd0, kr0, q0, r0, a1, a2, a3, a4, a5, a6, a7, a8⟩ := tok_ex hX hW hT.2.1
  obtain ⟨nm0, b1, b2'⟩ := a8 (nI q) kr nm 0 ep (nI m) (enc Y)
  have hT0 : Tk X e kd0 kr0 q0 r0 nm0 := ⟨a2, a3, a4, a5, fun z => ⟨a6 z, b2' z⟩⟩
  have hr := hT0.1
  have wc := fun t => word_c (t := t) (kd := kd0) (er := 0) (ep := ep) (mk := mk) (Y := Y) hX hT0.1 hT0.2.1
  have wr' := fun t => word_r (t := t) (kr := kr0) (nm := nm0) (ep := ep) (mr := nI m) (R := enc Y) hX hW hT0.1 hT0.2.1 hT0.2.2.1
  have un : ∀ Z : Option bsX, (Z.bind fun r9 => some r9) = Z := by intro Z; cases Z <;> rfl
  unfold fX4_readLine fX9_line
  rw [c5, if_pos rfl, a7, Option.bind_some, b1, Option.bind_some, wc, wr', Option.bind_some, Option.bind_some]
  cases h1 : isW X e q0 r0 1 kd0
  · rw [b2_f, if_pos rfl, if_pos rfl]
    dsimp only
    rw [wc, wr', Option.bind_some, Option.bind_some]
    cases h2 : isW X e q0 r0 2 kd0
    · rw [b2_f, if_pos rfl, if_pos rfl]
      dsimp only
      rw [wc, wr', Option.bind_some, Option.bind_some]
      cases h3 : isW X e q0 r0 5 kd0
      · rw [b2_f, if_pos rfl, if_pos rfl]
        dsimp only
        rw [fail_c0, fail_r0, Option.bind_some, Option.bind_some]
        right
        exact ⟨1, nI q0, kd0, nI q0, nI r0, mk, Y, nI r0, nI q0, kr0, nm0, nI m, enc Y, c10, enc_160 _, rfl, rfl⟩
      · rw [b2_t, if_neg c10, if_neg c10, un, un]
        exact (markLine_ex hX hW hT0 hM hK).le (by omega)
    · rw [b2_t, if_neg c10, if_neg c10, un, un]
      exact (imageLine_ex hX hW hT0 hM hK).le (by omega)
  · rw [b2_t, if_neg c10, if_neg c10, un, un]
    exact (slotLine_ex hX hW hT0 hM hK).le (by omega)
