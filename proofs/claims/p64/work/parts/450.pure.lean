/-! THE PARSER: the text of the law -/
theorem ln_first {X : bsX} {e w l f o : Nat} {k0 ts0 ep : Int32} {mk : Nat → Int32} {Y : pY} {M : List Int32} (hX : PX X e) (hR : Rest X e 0 (wrd 0 ++ (fld w ++ (fld l ++ (fld f ++ (fld o ++ M)))))) (hM : LineM M)
    (w1 : 1 ≤ w) (w2 : w < 100) (l1 : 1 ≤ l) (l2 : l ≤ 9) (f2 : f ≤ 7) (o2 : o < 100) :
    ∃ kd q r, ((fX4_readToken (cst X k0 ts0 (nI 0) 0 ep mk Y)).bind fun r8 => fX4_readFirstLine 1 r8) = some (cst X kd (nI q) (nI r) 0 ep mk (wr (wr (wr (wr Y 0 0 5 (nI w)) 0 0 6 (nI l)) 0 0 7 (nI f)) 0 0 8 (nI o))) ∧ CL X e M kd q r := by
  obtain ⟨q1, r1, N1, C1⟩ := nx_w0 (t := 0) hX (by decide) hR st_fld
  have R1 := C1.2.app
  rw [← C1.1] at R1
  obtain ⟨q2, r2, N2, C2⟩ := nx_num hX R1 w2 st_fld
  have R2 := C2.2.app
  rw [← C2.1] at R2
  obtain ⟨q3, r3, N3, C3⟩ := nx_num hX R2 (by omega) st_fld
  have R3 := C3.2.app
  rw [← C3.1] at R3
  obtain ⟨q4, r4, N4, C4⟩ := nx_num hX R3 (by omega) st_fld
  have R4 := C4.2.app
  rw [← C4.1] at R4
  obtain ⟨q5, r5, N5, C5⟩ := nx_num hX R4 o2 hM.st
  have R5 := C5.2.app
  rw [← C5.1] at R5
  obtain ⟨kd, q, r, N6, C6⟩ := nx_line hX R5 hM
  refine ⟨kd, q, r, ?_, C6⟩
  have b1 : (1 : Int32) ≤ nI w ∧ nI w ≤ 99 := ⟨(pu_le 1 w (by omega) (by omega)).mpr w1, (pu_le w 99 (by omega) (by omega)).mpr (by omega)⟩
  have b2' : (1 : Int32) ≤ nI l ∧ nI l ≤ 9 := ⟨(pu_le 1 l (by omega) (by omega)).mpr l1, (pu_le l 9 (by omega) (by omega)).mpr (by omega)⟩
  have b3 : (0 : Int32) ≤ nI f ∧ nI f ≤ 7 := ⟨nn_nI (by omega), (pu_le f 7 (by omega) (by omega)).mpr (by omega)⟩
  have b4 : (0 : Int32) ≤ nI o ∧ nI o ≤ 99 := ⟨nn_nI (by omega), (pu_le o 99 (by omega) (by omega)).mpr (by omega)⟩
  rw [N1]
  simp only [Option.bind_some]
  unfold fX4_readFirstLine
  rw [word_yes hX C1 (by decide) (by decide), show decide (0 = 0) = true by decide, b2_t]
  simp only [Option.bind_some]
  rw [if_neg (show ¬ (1 : Int32) = 0 by decide), fl14, N2]
  simp only [Option.bind_some]
  unfold fl0
  rw [take_t hX C2 w2 b1 N3]
  simp only [Option.bind_some]
  rw [cw1]
  unfold fl1
  rw [take_t hX C3 (by omega) b2' N4]
  simp only [Option.bind_some]
  rw [cw1]
  unfold fl2
  rw [take_t hX C4 (by omega) b3 N5]
  simp only [Option.bind_some]
  rw [cw1]
  unfold fl3
  rw [take_t hX C5 o2 b4 N6]
  simp only [Option.bind_some]
  rw [cw1]
theorem pl_step {X : bsX} {e q r N line f : Nat} {kd ep : Int32} {mk : Nat → Int32} {Y : pY} {M : List Int32} (hC : CL X e (59 :: M) kd q r) (hl : line < N) (hN : N < 2000) :
    fX4_parse_65 1 (f + 1) (nI N) (nI line) (cst X kd (nI q) (nI r) 0 ep mk Y) = (fX4_readLine 1 (cst X kd (nI q) (nI r) 0 ep mk Y)).bind fun r1 => fX4_parse_65 1 f (nI N) (nI (line + 1)) r1 := by
  have k4 : kd = 4 := by
    rcases hC.2.2 with ⟨a, _⟩ | ⟨_, _, a, _⟩
    · simp at a
    · exact a
  subst k4
  rw [fX4_parse_65, if_neg (show ¬ nI N ≤ nI line from fun z => by have := (pu_le N line (by omega) (by omega)).mp z; omega), cq8, if_pos rfl, cq5, if_neg (show ¬ (4 : Int32) = 0 by decide), pu_succ]
theorem pl_end {X : bsX} {e q r N line f : Nat} {kd ep : Int32} {mk : Nat → Int32} {Y : pY} (hC : CL X e [] kd q r) (hY : ¬ Y 0 0 4 = 0) :
    fX4_parse_65 1 (f + 1) (nI N) (nI line) (cst X kd (nI q) (nI r) 0 ep mk Y) = some (cst X kd (nI q) (nI r) 0 ep mk Y) := by
  have k4 : kd = 0 := by
    rcases hC.2.2 with ⟨_, a⟩ | ⟨_, a, _⟩
    · exact a
    · simp at a
  subst k4
  have h9 : fX4_parse_95 1 (cst X 0 (nI q) (nI r) 0 ep mk Y) = some (cst X 0 (nI q) (nI r) 0 ep mk Y) := by
    unfold fX4_parse_95
    rw [cqY, if_neg hY]
  rw [fX4_parse_65, h9, cq8, if_pos rfl, cq5, if_pos rfl, ite_self]
def slM : Nat → List Int32 → List Int32
  | 0, M => M
  | n + 1, M => 59 :: (wrd 1 ++ slM n M)
theorem slM_line {M : List Int32} (h : LineM M) : ∀ n, LineM (slM n M) := by
  intro n
  cases n with
  | zero => exact h
  | succ n => exact Or.inr ⟨_, rfl⟩
theorem wr_wr (Y : pY) (K j i : Nat) (v w : Int32) : wr (wr Y K j i v) K j i w = wr Y K j i w := by
  funext a b c
  rw [wr_rd, wr_rd, wr_rd]
  by_cases e : a = K ∧ b = j ∧ c = i
  · rw [if_pos e, if_pos e]
  · rw [if_neg e, if_neg e, if_neg e]
theorem MR.size {n : Nat} {Y : pY} (h : MR n Y) (hn : n < 6) : MR (n + 1) (wr Y 0 0 4 (nI (n + 1))) := by
  obtain ⟨m1, m2, m3, m4⟩ := h
  exact ⟨wm_size m1 hn m3 m4, by rw [wr_y _ _ _ _ _ (by omega)]; exact m2, by rw [wr_y _ _ _ _ _ (by omega)]; exact m3, by rw [wr_y _ _ _ _ _ (by omega)]; exact m4⟩
theorem pl_slots {X : bsX} {e N n f : Nat} {ep : Int32} {mk : Nat → Int32} {M : List Int32} (hX : PX X e) (hM : LineM M) (hN : N < 2000) (hn : n ≤ 6) : ∀ (d k line q r : Nat) (kd : Int32) (Y : pY), k + d = n → MR k Y → CL X e (slM d M) kd q r → line + d ≤ N →
    ∃ kd' q' r', fX4_parse_65 1 (f + d) (nI N) (nI line) (cst X kd (nI q) (nI r) 0 ep mk Y) = fX4_parse_65 1 f (nI N) (nI (line + d)) (cst X kd' (nI q') (nI r') 0 ep mk (wr Y 0 0 4 (nI n))) ∧ CL X e M kd' q' r' ∧ MR n (wr Y 0 0 4 (nI n)) := by
  intro d
  induction d with
  | zero =>
    intro k line q r kd Y hk hm hC hl
    obtain rfl : k = n := (by omega)
    have hid : wr Y 0 0 4 (nI k) = Y := wr_id Y (a := 0) (b := 0) (c := 4) hm.1.sz
    rw [hid]
    exact ⟨kd, q, r, rfl, hC, hm⟩
  | succ d ih =>
    intro k line q r kd Y hk hm hC hl
    obtain ⟨kd1, q1, r1, e1, C1⟩ := ln_slot (ep := ep) (mk := mk) hX hC (slM_line hM d) hm.1.sz (show k < 6 by omega)
    obtain ⟨kd2, q2, r2, e2, C2, m2⟩ := ih (k + 1) (line + 1) q1 r1 kd1 _ (by omega) (hm.size (by omega)) C1 (by omega)
    rw [wr_wr] at e2 m2
    refine ⟨kd2, q2, r2, ?_, C2, m2⟩
    rw [show f + (d + 1) = (f + d) + 1 by omega, pl_step hC (by omega) hN, e1]
    simp only [Option.bind_some]
    rw [e2, show line + 1 + d = line + (d + 1) by omega]
/-! the slots' images and marks: D k 0 = 0 none, 1 an image, 2 an image and a mark; 1 2 3 its numbers, 4 5 its flags, 6 7 8 the mark -/
def mkM (D : Nat → Nat → Nat) (k : Nat) (M : List Int32) : List Int32 := if D k 0 = 2 then 59 :: (wrd 5 ++ (fld k ++ (fld (D k 6) ++ (fld (D k 7) ++ (OW (decide (D k 8 = 1)) 6 ++ M))))) else M
def itM (D : Nat → Nat → Nat) (k : Nat) (M : List Int32) : List Int32 := if D k 0 = 0 then M else 59 :: (wrd 2 ++ (fld k ++ (fld (D k 1) ++ (fld (D k 2) ++ (fld (D k 3) ++ (OW (decide (D k 4 = 1)) 3 ++ (OW (decide (D k 5 = 1)) 4 ++ mkM D k M)))))))
def txM (D : Nat → Nat → Nat) : Nat → Nat → List Int32
  | 0, _ => []
  | d + 1, k => itM D k (txM D d (k + 1))
def okD (D : Nat → Nat → Nat) (k : Nat) : Prop := D k 0 ≤ 2 ∧ D k 1 < 100 ∧ 1 ≤ D k 2 ∧ D k 2 < 100 ∧ D k 3 < 100 ∧ D k 6 ≤ 15 ∧ D k 7 ≤ 7
def imY (D : Nat → Nat → Nat) (k : Nat) (Y : pY) : pY := sImgL k (nI (D k 1)) (nI (D k 2)) (nI (D k 3)) (decide (D k 4 = 1)) (decide (D k 5 = 1)) Y
def maY (D : Nat → Nat → Nat) (k : Nat) (Y : pY) : pY := wr (wr (wr Y 5 k 2 (nI (D k 6))) 5 k 3 (nI (D k 7))) 5 k 4 (b2 (decide (D k 8 = 1)))
def stY (D : Nat → Nat → Nat) (k : Nat) (Y : pY) : pY := if D k 0 = 0 then Y else if D k 0 = 2 then maY D k (imY D k Y) else imY D k Y
theorem mkM_line {D : Nat → Nat → Nat} {k : Nat} {M : List Int32} (h : LineM M) : LineM (mkM D k M) := by
  unfold mkM
  split
  · exact Or.inr ⟨_, rfl⟩
  · exact h
theorem itM_line {D : Nat → Nat → Nat} {k : Nat} {M : List Int32} (h : LineM M) : LineM (itM D k M) := by
  unfold itM
  split
  · exact h
  · exact Or.inr ⟨_, rfl⟩
theorem txM_line (D : Nat → Nat → Nat) : ∀ d k, LineM (txM D d k) := by
  intro d
  induction d with
  | zero => intro k; exact Or.inl rfl
  | succ d ih => intro k; exact itM_line (ih (k + 1))
theorem imY_60 {D : Nat → Nat → Nat} {k : Nat} {Y : pY} : imY D k Y 6 k 0 = 1 := by
  unfold imY sImgL
  rw [wr_y _ _ _ _ _ (by omega), wr_y _ _ _ _ _ (by omega), wr_y _ _ _ _ _ (by omega), wr_y _ _ _ _ _ (by omega), wr_y _ _ _ _ _ (by omega), wr_y _ _ _ _ _ (by omega), wr_y _ _ _ _ _ (by omega), wr_y _ _ _ _ _ (by omega), wr_y _ _ _ _ _ (by omega), wr_y _ _ _ _ _ (by omega), wr_s]
theorem imY_no {D : Nat → Nat → Nat} {k : Nat} {Y : pY} {K j i : Nat} (h : ¬ (j = k ∧ (K = 6 ∨ (K = 5 ∧ 2 ≤ i ∧ i ≤ 4)))) : imY D k Y K j i = Y K j i := by
  unfold imY sImgL
  rw [wr_y _ _ _ _ _ (by omega), wr_y _ _ _ _ _ (by omega), wr_y _ _ _ _ _ (by omega), wr_y _ _ _ _ _ (by omega), wr_y _ _ _ _ _ (by omega), wr_y _ _ _ _ _ (by omega), wr_y _ _ _ _ _ (by omega), wr_y _ _ _ _ _ (by omega), wr_y _ _ _ _ _ (by omega), wr_y _ _ _ _ _ (by omega), wr_y _ _ _ _ _ (by omega)]
theorem maY_no {D : Nat → Nat → Nat} {k : Nat} {Y : pY} {K j i : Nat} (h : ¬ (j = k ∧ K = 5 ∧ 2 ≤ i ∧ i ≤ 4)) : maY D k Y K j i = Y K j i := by
  unfold maY
  rw [wr_y _ _ _ _ _ (by omega), wr_y _ _ _ _ _ (by omega), wr_y _ _ _ _ _ (by omega)]
theorem stY_no {D : Nat → Nat → Nat} {k : Nat} {Y : pY} {K j i : Nat} (h : ¬ (j = k ∧ (K = 6 ∨ (K = 5 ∧ 2 ≤ i ∧ i ≤ 4)))) : stY D k Y K j i = Y K j i := by
  unfold stY
  split
  · rfl
  · split
    · rw [maY_no (by omega), imY_no h]
    · exact imY_no h
theorem okD.img {D : Nat → Nat → Nat} {n k : Nat} {Y : pY} (h : okD D k) (hm : MR n Y) (hk : k < n) : MR n (imY D k Y) := by
  obtain ⟨h0, h1, h2, h3, h4, h6, h7⟩ := h
  exact MR_img hm hk ⟨D k 1, by omega, by omega, rfl⟩ ⟨D k 2, by omega, by omega, rfl⟩ ⟨D k 3, by omega, by omega, rfl⟩
theorem okD.st {D : Nat → Nat → Nat} {n k : Nat} {Y : pY} (h : okD D k) (hm : MR n Y) (hk : k < n) : MR n (stY D k Y) := by
  have hi := h.img hm hk
  obtain ⟨h0, h1, h2, h3, h4, h6, h7⟩ := h
  unfold stY
  split
  · exact hm
  · split
    · exact MR_mark hi hk (by rw [imY_60]; decide) ⟨D k 6, by omega, by omega, rfl⟩ ⟨D k 7, by omega, by omega, rfl⟩
    · exact hi
/-- one slot's lines -/
theorem pl_one {X : bsX} {e N n k q r : Nat} {kd ep : Int32} {mk : Nat → Int32} {D : Nat → Nat → Nat} {Y : pY} {M : List Int32} (hX : PX X e) (hM : LineM M) (hN : N < 2000) (hn : n ≤ 6) (hk : k < n) (hm : MR n Y) (h0 : Y 6 k 0 = 0) (hmk : mk k = 0) (hD : okD D k) (hC : CL X e (itM D k M) kd q r) :
    ∃ j kd' q' r' mk', j ≤ 2 ∧ (∀ i, i ≠ k → mk' i = mk i) ∧ CL X e M kd' q' r' ∧ ∀ f line, line + j ≤ N → fX4_parse_65 1 (f + j) (nI N) (nI line) (cst X kd (nI q) (nI r) 0 ep mk Y) = fX4_parse_65 1 f (nI N) (nI (line + j)) (cst X kd' (nI q') (nI r') 0 ep mk' (stY D k Y)) := by
  have hi := hD.img hm hk
  obtain ⟨d0, d1, d2, d3, d4, d6, d7⟩ := hD
  unfold itM at hC
  unfold stY
  by_cases a0 : D k 0 = 0
  · rw [if_pos a0] at hC
    rw [if_pos a0]
    exact ⟨0, kd, q, r, mk, by omega, fun _ _ => rfl, hC, fun f line _ => rfl⟩
  · rw [if_neg a0] at hC
    rw [if_neg a0]
    obtain ⟨kd1, q1, r1, e1, C1⟩ := ln_image (ep := ep) (mk := mk) hX hC (mkM_line hM) hm.1.sz hn hk h0 d1 d2 d3 d4
    have e1 : fX4_readLine 1 (cst X kd (nI q) (nI r) 0 ep mk Y) = some (cst X kd1 (nI q1) (nI r1) 0 ep mk (imY D k Y)) := e1
    by_cases a2 : D k 0 = 2
    · rw [if_pos a2]
      unfold mkM at C1
      rw [if_pos a2] at C1
      obtain ⟨kd2, q2, r2, e2, C2⟩ := ln_mark (ep := ep) (mk := mk) hX C1 hM hi.1.sz hn hk (by rw [imY_60]; decide) hmk d6 d7
      refine ⟨2, kd2, q2, r2, pt mk k 1, by omega, fun i hne => ?_, C2, fun f line hl => ?_⟩
      · unfold pt
        rw [if_neg hne]
      · rw [show f + 2 = (f + 1) + 1 by omega, pl_step hC (by omega) hN, e1]
        simp only [Option.bind_some]
        rw [pl_step C1 (by omega) hN, e2]
        simp only [Option.bind_some]
        rfl
    · rw [if_neg a2]
      unfold mkM at C1
      rw [if_neg a2] at C1
      refine ⟨1, kd1, q1, r1, mk, by omega, fun _ _ => rfl, C1, fun f line hl => ?_⟩
      rw [pl_step hC (by omega) hN, e1]
      simp only [Option.bind_some]
def fiY (D : Nat → Nat → Nat) : Nat → Nat → pY → pY
  | 0, _, Y => Y
  | d + 1, k, Y => fiY D d (k + 1) (stY D k Y)
theorem pl_all {X : bsX} {e N n : Nat} {ep : Int32} {D : Nat → Nat → Nat} (hX : PX X e) (hN : N < 2000) (hn : n ≤ 6) : ∀ (d k q r : Nat) (kd : Int32) (mk : Nat → Int32) (Y : pY), k + d = n → MR n Y → (∀ j, k ≤ j → j < n → Y 6 j 0 = 0 ∧ mk j = 0 ∧ okD D j) → CL X e (txM D d k) kd q r →
    ∃ J kd' q' r' mk', J ≤ 2 * d ∧ CL X e [] kd' q' r' ∧ MR n (fiY D d k Y) ∧ ∀ f line, line + J ≤ N → fX4_parse_65 1 (f + J) (nI N) (nI line) (cst X kd (nI q) (nI r) 0 ep mk Y) = fX4_parse_65 1 f (nI N) (nI (line + J)) (cst X kd' (nI q') (nI r') 0 ep mk' (fiY D d k Y)) := by
  intro d
  induction d with
  | zero =>
    intro k q r kd mk Y hk hm hj hC
    exact ⟨0, kd, q, r, mk, by omega, hC, hm, fun f line _ => rfl⟩
  | succ d ih =>
    intro k q r kd mk Y hk hm hj hC
    obtain ⟨y0, m0, k0⟩ := hj k (Nat.le_refl k) (by omega)
    obtain ⟨j, kd1, q1, r1, mk1, j2, j3, C1, j4⟩ := pl_one (ep := ep) hX (txM_line D d (k + 1)) hN hn (show k < n by omega) hm y0 m0 k0 hC
    obtain ⟨J, kd2, q2, r2, mk2, J1, C2, J2, J3⟩ := ih (k + 1) q1 r1 kd1 mk1 (stY D k Y) (by omega) (k0.st hm (by omega)) (fun i i1 i2 => by
      obtain ⟨a, b, c⟩ := hj i (by omega) i2
      exact ⟨by rw [stY_no (by omega)]; exact a, by rw [j3 i (by omega)]; exact b, c⟩) C1
    refine ⟨j + J, kd2, q2, r2, mk2, by omega, C2, J2, fun f line hl => ?_⟩
    rw [show f + (j + J) = (f + J) + j by omega, j4 (f + J) line (by omega), J3 f (line + j) (by omega), Nat.add_assoc]
    rfl
