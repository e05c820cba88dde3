/-! LINES -/
def MR (n : Nat) (Y : pY) : Prop := wm 0 n 0 Y ∧ Y 0 0 10 = 0 ∧ Y 0 0 11 = -1 ∧ Y 2 0 1 = -1
def MK (mk : Nat → Int32) (m : Nat) : Prop := m < 64 ∧ ∀ i, i < 6 → (((nI m >>> (nI i &&& 31)) &&& 1 = 1) ↔ mk i ≠ 0)
theorem mk_bits : ∀ m, m < 64 → ∀ k, k < 6 → (nI m ||| ((1 : Int32) <<< (nI k &&& 31))) = nI (m ||| 1 <<< k) ∧ (m ||| 1 <<< k) < 64 ∧ ∀ i, i < 6 → (((nI (m ||| 1 <<< k) >>> (nI i &&& 31)) &&& 1 = 1) ↔ (i = k ∨ ((nI m >>> (nI i &&& 31)) &&& 1 = 1))) := by decide +kernel
theorem MK.set {mk : Nat → Int32} {m k : Nat} (h : MK mk m) (hk : k < 6) : MK (pt mk k 1) (m ||| 1 <<< k) := by
  obtain ⟨b1, b2, b3⟩ := mk_bits m h.1 k hk
  refine ⟨b2, fun i hi => ?_⟩
  rw [b3 i hi]
  unfold pt
  by_cases e : i = k
  · rw [if_pos e]; exact ⟨fun _ => by decide, fun _ => Or.inl e⟩
  · rw [if_neg e, ← h.2 i hi]; exact ⟨fun z => z.resolve_left e, Or.inr⟩
/-- what a line leaves on both sides -/
def JR (X W : bsX) (e r : Nat) (ep : Int32) (C D : Option bsX) : Prop :=
  (∃ kd kr q r' nm n Y mk m, C = some (cst X kd (nI q) (nI r') 0 ep mk Y) ∧ D = some (rst W (nI r') (nI q) kr nm 0 ep (nI m) (enc Y)) ∧ Tk X e kd kr q r' nm ∧ MR n Y ∧ MK mk m ∧ r ≤ q) ∨
  (∃ c p kd q r' mk Y te ts kr nm mr R, c ≠ 0 ∧ r160 R ∧ C = some (cst X kd q r' c p mk Y) ∧ D = some (rst W te ts kr nm c p mr R))
theorem rw_wr0 (X : bsX) (Y : pY) (a b c v : Int32) : bsWr (ro X (row Y a b c)) 14 1 0 0 v = ro X (row (wr Y 0 0 4 v) a b c) := by
  rw [ro_wr]
  congr 1
  refine rw_num (K := 0) (i := 4) (by decide) (by decide) (by decide) ?_
  intro d
  refine eN_cases (P := fun d => eN (wr Y 0 0 4 v) d = if d = 0 then v else eN Y d) (fun m hm => by rw [eN_big hm, eN_big hm, if_neg (by omega)]) ?_ ?_ ?_ ?_ ?_ ?_ ?_ ?_ ?_ ?_ ?_ ?_ ?_ ?_ ?_ ?_ ?_ ?_ ?_ ?_ ?_ ?_ ?_ ?_ ?_ ?_ ?_ ?_ ?_ d <;> simp [b2_t, b2_f, up_at, up_up, up_id, eN, wr_rd]
theorem rr0 {W : bsX} {te ts kd nm er ep mr v : Int32} {Y : pY} : bsWr (rst W te ts kd nm er ep mr (enc Y)) 14 1 0 0 v = rst W te ts kd nm er ep mr (enc (wr Y 0 0 4 v)) := by
  have h := rw_wr0 (rst W te ts kd nm er ep mr (enc Y)) Y (sSt Y) (Y 0 0 11) (Y 0 0 12) v
  have e : enc (wr Y 0 0 4 v) = row (wr Y 0 0 4 v) (sSt Y) (Y 0 0 11) (Y 0 0 12) := by
    unfold enc sSt; simp [b2_t, b2_f, up_at, up_up, up_id, wr_rd]
  rw [rro, rro, ← e] at h
  exact h
theorem wm_size {n : Nat} {Y : pY} (h : wm 0 n 0 Y) (hn : n < 6) (h11 : Y 0 0 11 = -1) (h21 : Y 2 0 1 = -1) : wm 0 (n + 1) 0 (wr Y 0 0 4 (nI (n + 1))) := by
  have r : ∀ q, q ≠ 4 → wr Y 0 0 4 (nI (n + 1)) 0 0 q = Y 0 0 q := by intro q e; rw [wr_rd, if_neg (by omega)]
  have r2 : ∀ K j q, K ≠ 0 → wr Y 0 0 4 (nI (n + 1)) K j q = Y K j q := by intro K j q e; rw [wr_rd, if_neg (by omega)]
  refine ⟨by omega, by simp [b2_t, b2_f, up_at, up_up, up_id, wr_rd], ?_, ?_, ?_, ?_, ?_, ?_, ?_, ?_, ?_, ?_, ?_, ?_, ?_, ?_⟩
  · intro q hq
    have hs := h.sl q hq
    unfold wS at hs ⊢
    simp only [r2 _ _ _ (show (6 : Nat) ≠ 0 by decide), r2 _ _ _ (show (5 : Nat) ≠ 0 by decide)]
    exact hs
  · intro q q1 q2
    have := h.hi q (by omega) q2
    simp only [r2 _ _ _ (show (6 : Nat) ≠ 0 by decide), r2 _ _ _ (show (5 : Nat) ≠ 0 by decide)]
    exact this
  · rw [r 10 (by decide)]; exact h.on
  · rw [r 11 (by decide)]; exact Or.inl h11
  · rw [r 5 (by decide)]; exact h.wat
  · rw [r 6 (by decide)]; exact h.lim
  · rw [r 7 (by decide)]; exact h.ret
  · rw [r 8 (by decide)]; exact h.flo
  · rw [r 9 (by decide)]; exact h.tim
  · rw [r 12 (by decide)]; exact h.age
  · rw [r2 _ _ _ (by decide)]; exact h.tot
  · simp only [r2 _ _ _ (show (6 : Nat) ≠ 0 by decide)]; exact h.pim
  · rw [r2 _ _ _ (by decide)]; exact Or.inl h21
  · intro q hq
    rw [r2 _ _ _ (by decide), r2 _ _ _ (by decide), r2 _ _ _ (by decide)]
    exact h.log q hq
theorem slotLine_ex {X W : bsX} {e q r n m : Nat} {kd kr nm ep : Int32} {mk : Nat → Int32} {Y : pY} (hX : PX X e) (hW : PW X W e) (hT : Tk X e kd kr q r nm) (hM : MR n Y) (hK : MK mk m) :
    JR X W e r ep (fX4_readSlotLine 1 (cst X kd (nI q) (nI r) 0 ep mk Y)) (fX9_slotLine (rst W (nI r) (nI q) kr nm 0 ep (nI m) (enc Y))) := by
  have c10 : ¬ (1 : Int32) = 0 := by decide
  have c50 : ¬ (5 : Int32) = 0 := by decide
  obtain ⟨m1, m2, m3, m4⟩ := hM
  have h6 := m1.hn
  have hsz : Y 0 0 4 = nI n := m1.sz
  have row0' : ∀ (er ep' : Int32), rst W (nI r) (nI q) kr nm er ep' (nI m) (enc Y) 14 1 0 0 = nI n := by
    intro er ep'; rw [rR]; exact hsz
  unfold fX4_readSlotLine fX9_slotLine
  rw [cY, hsz, if_pos (show bsIn (0 : Int32) 160 by decide), bx_0, row0']
  by_cases h : n < 6
  · have hl : nI n < (6 : Int32) := (pu_lt n 6 (by decide) (by omega)).mpr h
    have hne : ¬ nI n = (6 : Int32) := fun z => by have := (pu_eq n 6 (by decide) (by omega)).mp z; omega
    left
    obtain ⟨kd', kr', q', r', a1, a2, a3, a4, a5, a6, a7, a8⟩ := tok_ex hX hW hT.2.1
    obtain ⟨nm', b1, b2⟩ := a8 (nI q) kr nm 0 ep (nI m) (enc (wr Y 0 0 4 (nI (n + 1))))
    refine ⟨kd', kr', q', r', nm', n + 1, wr Y 0 0 4 (nI (n + 1)), mk, m, ?_, ?_, ⟨a2, a3, a4, a5, fun z => ⟨a6 z, b2 z⟩⟩, ⟨wm_size m1 h m3 m4, by simpa [b2_t, b2_f, up_at, up_up, up_id, wr_rd] using m2, by simpa [b2_t, b2_f, up_at, up_up, up_id, wr_rd] using m3, by simpa [b2_t, b2_f, up_at, up_up, up_id, wr_rd] using m4⟩, hK, a1⟩
    · rw [if_pos hl, pu_succ, cw1, a7, Option.bind_some]
    · rw [if_neg hne]
      unfold fX9_slotLine_19 fX9_slotLine_40 fX9_failsIf
      rw [if_pos rfl, Option.bind_some, r15, if_pos rfl, if_pos (show bsIn (0 : Int32) 160 by decide), bx_0, row0', pu_succ, rr0, go0, b1, Option.bind_some]
  · have hl : ¬ nI n < (6 : Int32) := fun z => h ((pu_lt n 6 (by decide) (by omega)).mp z)
    have he6 : nI n = (6 : Int32) := (pu_eq n 6 (by decide) (by omega)).mpr (by omega)
    right
    refine ⟨5, nI q, kd, nI q, nI r, mk, Y, nI r, nI q, kr, nm, nI m, enc Y, c50, enc_160 _, ?_, ?_⟩
    · rw [if_neg hl, fail_c0, Option.bind_some]
    · rw [if_pos he6]
      unfold fX9_slotLine_19 fX9_slotLine_40 fX9_failsIf
      rw [if_neg c10, fail_r0, Option.bind_some, Option.bind_some, r15, if_neg c50, go1 c50, Option.bind_some]
/-! words that may stand -/
theorem tell_ex {X W : bsX} {e q r t : Nat} {kd kr nm ep mr : Int32} {mk : Nat → Int32} {Y : pY} {R : Nat → Int32} (hX : PX X e) (hW : PW X W e) (hT : Tk X e kd kr q r nm) :
    ∃ b kd' kr' q' r' nm', fX4_takeIfWord t (cst X kd (nI q) (nI r) 0 ep mk Y) = some (b2 b, cst X kd' (nI q') (nI r') 0 ep mk Y) ∧ fX9_told t (rst W (nI r) (nI q) kr nm 0 ep mr R) = some (b2 b, rst W (nI r') (nI q') kr' nm' 0 ep mr R) ∧ Tk X e kd' kr' q' r' nm' ∧ q ≤ q' := by
  have c10 : ¬ (1 : Int32) = 0 := by decide
  have hc := word_c (t := t) (kd := kd) (er := 0) (ep := ep) (mk := mk) (Y := Y) hX hT.1 hT.2.1
  have hr := word_r (t := t) (kr := kr) (nm := nm) (ep := ep) (mr := mr) (R := R) hX hW hT.1 hT.2.1 hT.2.2.1
  cases h : isW X e q r t kd
  · rw [h, b2_f] at hc hr
    refine ⟨false, kd, kr, q, r, nm, ?_, ?_, hT, Nat.le_refl q⟩
    · unfold fX4_takeIfWord
      rw [hc, Option.bind_some, if_pos rfl, if_pos (Or.inl rfl)]; rfl
    · unfold fX9_told fX9_told_14 fX9_flag
      rw [hr, Option.bind_some, if_pos rfl, if_pos rfl, Option.bind_some]; rfl
  · rw [h, b2_t] at hc hr
    obtain ⟨kd', kr', q', r', a1, a2, a3, a4, a5, a6, a7, a8⟩ := tok_ex hX hW hT.2.1
    obtain ⟨nm', b1, b2'⟩ := a8 (nI q) kr nm 0 ep mr R
    have := hT.1
    refine ⟨true, kd', kr', q', r', nm', ?_, ?_, ⟨a2, a3, a4, a5, fun z => ⟨a6 z, b2' z⟩⟩, by omega⟩
    · unfold fX4_takeIfWord
      rw [hc, Option.bind_some, if_neg c10]
      dsimp only
      rw [a7, Option.bind_some, if_pos (Or.inr rfl)]; rfl
    · unfold fX9_told fX9_told_14 fX9_flag
      rw [hr, Option.bind_some, if_neg c10]
      dsimp only
      rw [b1, Option.bind_some, if_neg c10, Option.bind_some]; rfl
/-! an image's line, in pieces -/
def imgC (k : Nat) (v1 v2 v3 : Int32) (X : bsX) : Option bsX := (fX1_set 1 k v1 v2 v3 X).bind fun r9 => (fX4_takeIfWord 3 r9).bind fun r11 => if r11.1 = 0 ∨ r11.1 = 1 then ((fX4_takeIfWord 4 (bsWr r11.2 1 6 k 4 r11.1)).bind fun r14 => if r14.1 = 0 ∨ r14.1 = 1 then ((fX5_setMark 1 k (1 : Int32) (1 : Int32) (0 : Int32) (bsWr r14.2 1 6 k 5 r14.1)).bind fun r17 => some r17) else none) else none
def imgB (k : Nat) (v1 v2 : Int32) (X : bsX) : Option bsX := (fX4_takeNumber (0 : Int32) (99 : Int32) X).bind fun r7 => imgC k v1 v2 r7.1 r7.2
def imgA (k : Nat) (v1 : Int32) (X : bsX) : Option bsX := (fX4_takeNumber (1 : Int32) (99 : Int32) X).bind fun r5 => imgB k v1 r5.1 r5.2
theorem img49 (k : Nat) (X : bsX) : fX4_readImageLine_49 1 k X = (fX4_readToken X).bind fun r1 => (fX4_takeNumber (0 : Int32) (99 : Int32) r1).bind fun r3 => imgA k r3.1 r3.2 := rfl
def sImgL (k : Nat) (v1 v2 v3 : Int32) (b b' : Bool) (Y : pY) : pY := wr (wr (wr (wr (wr (wr (wr (wr (wr (wr (wr Y 6 k 0 1) 6 k 1 v1) 6 k 2 v2) 6 k 3 v3) 6 k 4 0) 6 k 5 0) 6 k 4 (b2 b)) 6 k 5 (b2 b')) 5 k 2 1) 5 k 3 1) 5 k 4 0
theorem set_c {X : bsX} {k : Nat} {kd ts te er ep v1 v2 v3 : Int32} {mk : Nat → Int32} {Y : pY} : fX1_set 1 k v1 v2 v3 (cst X kd ts te er ep mk Y) = some (cst X kd ts te er ep mk (wr (wr (wr (wr (wr (wr Y 6 k 0 1) 6 k 1 v1) 6 k 2 v2) 6 k 3 v3) 6 k 4 0) 6 k 5 0)) := by
  unfold fX1_set; simp only [cw1]
theorem mark_c {X : bsX} {k : Nat} {kd ts te er ep p t : Int32} {b : Bool} {mk : Nat → Int32} {Y : pY} : fX5_setMark 1 k p t (b2 b) (cst X kd ts te er ep mk Y) = some (cst X kd ts te er ep mk (wr (wr (wr Y 5 k 2 p) 5 k 3 t) 5 k 4 (b2 b))) := by
  unfold fX5_setMark
  rw [if_pos (b2_01 b)]
  simp only [cw1]
theorem e_imgC {X W : bsX} {e q r k : Nat} {kd er ep v1 v2 v3 : Int32} {mk : Nat → Int32} {Y : pY} (hX : PX X e) (hW : PW X W e) (hT : Tc e kd q r) : ∃ kd' q' r' Y', imgC k v1 v2 v3 (cst X kd (nI q) (nI r) er ep mk Y) = some (cst X kd' q' r' er ep mk Y') := by
  unfold imgC
  rw [set_c, Option.bind_some]
  obtain ⟨b, kd1, q1, r1, h1, t1⟩ := e_word (t := 3) (er := er) (ep := ep) (mk := mk) (Y := wr (wr (wr (wr (wr (wr Y 6 k 0 1) 6 k 1 v1) 6 k 2 v2) 6 k 3 v3) 6 k 4 0) 6 k 5 0) hX hW hT
  rw [h1, Option.bind_some, if_pos (b2_01 b)]
  dsimp only
  rw [cw1]
  obtain ⟨b', kd2', q2, r2, h2, t2⟩ := e_word (t := 4) (er := er) (ep := ep) (mk := mk) (Y := wr (wr (wr (wr (wr (wr (wr Y 6 k 0 1) 6 k 1 v1) 6 k 2 v2) 6 k 3 v3) 6 k 4 0) 6 k 5 0) 6 k 4 (b2 b)) hX hW t1
  rw [h2, Option.bind_some, if_pos (b2_01 b')]
  dsimp only
  rw [cw1]
  have := mark_c (X := X) (k := k) (kd := kd2') (ts := nI q2) (te := nI r2) (er := er) (ep := ep) (p := 1) (t := 1) (b := false) (mk := mk) (Y := wr (wr (wr (wr (wr (wr (wr (wr Y 6 k 0 1) 6 k 1 v1) 6 k 2 v2) 6 k 3 v3) 6 k 4 0) 6 k 5 0) 6 k 4 (b2 b)) 6 k 5 (b2 b'))
  rw [b2_f] at this
  rw [this, Option.bind_some]
  exact ⟨_, _, _, _, rfl⟩
theorem e_imgB {X W : bsX} {e q r k : Nat} {kd er ep v1 v2 : Int32} {mk : Nat → Int32} {Y : pY} (hX : PX X e) (hW : PW X W e) (hT : Tc e kd q r) (he : er ≠ 0) : ∃ kd' q' r' Y', imgB k v1 v2 (cst X kd (nI q) (nI r) er ep mk Y) = some (cst X kd' q' r' er ep mk Y') := by
  obtain ⟨x, kd', q', r', h1, h2⟩ := e_take (lo := 0) (hi := 99) (ep := ep) (mk := mk) (Y := Y) hX hW hT he
  unfold imgB
  rw [h1, Option.bind_some]
  exact e_imgC hX hW h2
theorem e_imgA {X W : bsX} {e q r k : Nat} {kd er ep v1 : Int32} {mk : Nat → Int32} {Y : pY} (hX : PX X e) (hW : PW X W e) (hT : Tc e kd q r) (he : er ≠ 0) : ∃ kd' q' r' Y', imgA k v1 (cst X kd (nI q) (nI r) er ep mk Y) = some (cst X kd' q' r' er ep mk Y') := by
  obtain ⟨x, kd', q', r', h1, h2⟩ := e_take (lo := 1) (hi := 99) (ep := ep) (mk := mk) (Y := Y) hX hW hT he
  unfold imgA
  rw [h1, Option.bind_some]
  exact e_imgB hX hW h2 he
theorem e_img49 {X W : bsX} {e q r k : Nat} {kd er ep : Int32} {mk : Nat → Int32} {Y : pY} (hX : PX X e) (hW : PW X W e) (hT : Tc e kd q r) (he : er ≠ 0) : ∃ kd' q' r' Y', fX4_readImageLine_49 1 k (cst X kd (nI q) (nI r) er ep mk Y) = some (cst X kd' q' r' er ep mk Y') := by
  rw [img49]
  obtain ⟨kd1, q1, r1, h1, t1⟩ := e_tok (er := er) (ep := ep) (mk := mk) (Y := Y) hX hW hT
  rw [h1, Option.bind_some]
  obtain ⟨x, kd', q', r', h2, t2⟩ := e_take (lo := 0) (hi := 99) (ep := ep) (mk := mk) (Y := Y) hX hW t1 he
  rw [h2, Option.bind_some]
  exact e_imgA hX hW t2 he
def rimgC (x1 v1 v2 v3 : Int32) (X : bsX) : Option bsX := if (X 14 0 0 15) = 0 then ((fX9_puts x1 (0 : Int32) (1 : Int32) X).bind fun r11 => (fX9_puts x1 (1 : Int32) (1 : Int32) r11).bind fun r13 => (fX9_puts x1 (2 : Int32) (1 : Int32) r13).bind fun r15 => (fX9_puts x1 (8 : Int32) v1 r15).bind fun r17 => (fX9_puts x1 (9 : Int32) v2 r17).bind fun r19 => (fX9_puts x1 (10 : Int32) v3 r19).bind fun r21 => (fX9_told 3 r21).bind fun r23 => (fX9_puts x1 (11 : Int32) r23.1 r23.2).bind fun r25 => (fX9_told 4 r25).bind fun r27 => (fX9_puts x1 (12 : Int32) r27.1 r27.2).bind fun r29 => some r29) else (some X)
def rimgB (x1 v1 v2 : Int32) (X : bsX) : Option bsX := (fX9_takes (0 : Int32) (99 : Int32) X).bind fun r9 => rimgC x1 v1 v2 r9.1 r9.2
def rimgA (x1 v1 : Int32) (X : bsX) : Option bsX := (fX9_takes (1 : Int32) (99 : Int32) X).bind fun r7 => rimgB x1 v1 r7.1 r7.2
theorem rimg39 (x1 y1 : Int32) (X : bsX) : fX9_imageLine_39 x1 y1 X = (fX9_failsIf y1 (3 : Int32) X).bind fun r1 => (fX9_goesOn r1).bind fun r3 => (fX9_takes (0 : Int32) (99 : Int32) r3).bind fun r5 => rimgA x1 r5.1 r5.2 := rfl
theorem e_rimgC {W : bsX} {te ts kd nm er ep mr x1 v1 v2 v3 : Int32} {R : Nat → Int32} (he : er ≠ 0) : rimgC x1 v1 v2 v3 (rst W te ts kd nm er ep mr R) = some (rst W te ts kd nm er ep mr R) := by
  unfold rimgC; rw [r15, if_neg he]
theorem e_rimgB {W : bsX} {te ts kd nm er ep mr x1 v1 v2 : Int32} {R : Nat → Int32} (he : er ≠ 0) : rimgB x1 v1 v2 (rst W te ts kd nm er ep mr R) = some (rst W te ts kd nm er ep mr R) := by
  obtain ⟨y, h⟩ := e_takes (W := W) (te := te) (ts := ts) (kd := kd) (nm := nm) (ep := ep) (mr := mr) (lo := 0) (hi := 99) (R := R) he
  unfold rimgB; rw [h, Option.bind_some]; exact e_rimgC he
theorem e_rimgA {W : bsX} {te ts kd nm er ep mr x1 v1 : Int32} {R : Nat → Int32} (he : er ≠ 0) : rimgA x1 v1 (rst W te ts kd nm er ep mr R) = some (rst W te ts kd nm er ep mr R) := by
  obtain ⟨y, h⟩ := e_takes (W := W) (te := te) (ts := ts) (kd := kd) (nm := nm) (ep := ep) (mr := mr) (lo := 1) (hi := 99) (R := R) he
  unfold rimgA; rw [h, Option.bind_some]; exact e_rimgB he
theorem e_rimg39 {W : bsX} {te ts kd nm er ep mr x1 y1 : Int32} {R : Nat → Int32} (he : er ≠ 0) : fX9_imageLine_39 x1 y1 (rst W te ts kd nm er ep mr R) = some (rst W te ts kd nm er ep mr R) := by
  obtain ⟨y, h⟩ := e_takes (W := W) (te := te) (ts := ts) (kd := kd) (nm := nm) (ep := ep) (mr := mr) (lo := 0) (hi := 99) (R := R) he
  have hf : fX9_failsIf y1 3 (rst W te ts kd nm er ep mr R) = some (rst W te ts kd nm er ep mr R) := by
    unfold fX9_failsIf
    by_cases z : y1 = 0
    · rw [if_pos z]
    · rw [if_neg z, fail_r1 he, Option.bind_some]
  rw [rimg39, hf, Option.bind_some, go1 he, Option.bind_some, h, Option.bind_some]
  exact e_rimgA he
