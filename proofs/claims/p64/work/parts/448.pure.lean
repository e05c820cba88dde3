/-! THE PARSER: lines -/
def CW (X : bsX) (e t : Nat) (M : List Int32) (q r : Nat) : Prop := r = q + (wrd t).length ∧ Rest X e q (wrd t ++ M)
def CN (X : bsX) (e k : Nat) (M : List Int32) (q r : Nat) : Prop := r = q + (dig k).length ∧ Rest X e q (dig k ++ M)
def LineM (M : List Int32) : Prop := M = [] ∨ ∃ M', M = 59 :: M'
def CL (X : bsX) (e : Nat) (M : List Int32) (kd : Int32) (q r : Nat) : Prop := q ≤ r ∧ r ≤ e ∧ ((M = [] ∧ kd = 0) ∨ ∃ M', M = 59 :: M' ∧ kd = 4 ∧ Rest X e r M')
def OW (b : Bool) (t : Nat) : List Int32 := if b = true then [32] ++ wrd t else []
def CO (X : bsX) (e : Nat) (b : Bool) (t : Nat) (M : List Int32) (kd : Int32) (q r : Nat) : Prop := (b = true ∧ kd = 2 ∧ CW X e t M q r) ∨ (b = false ∧ CL X e M kd q r)
theorem LineM.st {M : List Int32} (h : LineM M) : StM M := by
  rcases h with rfl | ⟨M', rfl⟩
  · exact Or.inl rfl
  · exact Or.inr (Or.inr rfl)
theorem st_fld {k : Nat} {M : List Int32} : StM (fld k ++ M) := Or.inr (Or.inl rfl)
theorem st_ow {b : Bool} {t : Nat} {M : List Int32} (h : StM M) : StM (OW b t ++ M) := by
  cases b
  · exact h
  · exact Or.inr (Or.inl rfl)
theorem nx_num {X : bsX} {e p k : Nat} {M : List Int32} (hX : PX X e) (hR : Rest X e p (fld k ++ M)) (hk : k < 100) (hM : StM M) : ∃ q r, NT X p 3 q r ∧ CN X e k M q r := by
  obtain ⟨d1, d2, d3⟩ := dig_kd k hk
  have hR2 : Rest X e p ([32] ++ (dig k ++ M)) := by
    have : fld k ++ M = [32] ++ (dig k ++ M) := by unfold fld; rw [List.append_assoc]
    rw [← this]
    exact hR
  exact ⟨_, _, nt_run hX hR2 (Or.inr rfl) (Or.inr rfl) d3 d1 (Or.inr ⟨rfl, d2⟩) hM, rfl, hR2.app⟩
theorem nx_word {X : bsX} {e p t : Nat} {B M : List Int32} (hX : PX X e) (hR : Rest X e p (B ++ (wrd t ++ M))) (hB : B = [] ∨ B = [32]) (ht : t < 7) (hM : StM M) : ∃ q r, NT X p 2 q r ∧ CW X e t M q r := by
  obtain ⟨d1, d2, d3⟩ := wrd_kd t ht
  exact ⟨_, _, nt_run hX hR hB (Or.inl rfl) d3 d1 (Or.inl ⟨rfl, d2⟩) hM, rfl, hR.app⟩
theorem nx_w0 {X : bsX} {e p t : Nat} {M : List Int32} (hX : PX X e) (ht : t < 7) (hR : Rest X e p (wrd t ++ M)) (hM : StM M) : ∃ q r, NT X p 2 q r ∧ CW X e t M q r :=
  nx_word (B := []) hX (show Rest X e p ([] ++ (wrd t ++ M)) from hR) (Or.inl rfl) ht hM
theorem nx_line {X : bsX} {e p : Nat} {M : List Int32} (hX : PX X e) (hR : Rest X e p M) (hM : LineM M) : ∃ kd q r, NT X p kd q r ∧ CL X e M kd q r := by
  rcases hM with rfl | ⟨M', rfl⟩
  · have := hR.1
    exact ⟨0, p, p, nt_end hX hR, Nat.le_refl _, by omega, Or.inl ⟨rfl, rfl⟩⟩
  · obtain ⟨a, b⟩ := nt_semi hX hR
    have := b.1
    exact ⟨4, p, p + 1, a, by omega, by omega, Or.inr ⟨M', rfl, rfl, b⟩⟩
theorem nx_ow {X : bsX} {e p t : Nat} {b : Bool} {M : List Int32} (hX : PX X e) (hR : Rest X e p (OW b t ++ M)) (ht : t < 7) (hM : LineM M) : ∃ kd q r, NT X p kd q r ∧ CO X e b t M kd q r := by
  cases b
  · obtain ⟨kd, q, r, a, c⟩ := nx_line hX (show Rest X e p M from hR) hM
    exact ⟨kd, q, r, a, Or.inr ⟨rfl, c⟩⟩
  · have hR2 : Rest X e p ([32] ++ (wrd t ++ M)) := by
      have : OW true t ++ M = [32] ++ (wrd t ++ M) := by unfold OW; rw [if_pos rfl, List.append_assoc]
      rw [← this]
      exact hR
    obtain ⟨q, r, a, c⟩ := nx_word hX hR2 (Or.inr rfl) ht hM.st
    exact ⟨2, q, r, a, Or.inl ⟨rfl, rfl, c⟩⟩
theorem take_t {X : bsX} {e k q r q' r' : Nat} {kd' er ep lo hi : Int32} {mk : Nat → Int32} {Y : pY} {M : List Int32} (hX : PX X e) (hC : CN X e k M q r) (hk : k < 100) (h : lo ≤ nI k ∧ nI k ≤ hi) (N : NT X r kd' q' r') :
    fX4_takeNumber lo hi (cst X 3 (nI q) (nI r) er ep mk Y) = some (nI k, cst X kd' (nI q') (nI r') er ep mk Y) := by
  obtain ⟨rfl, hR⟩ := hC
  unfold fX4_takeNumber
  rw [num_t hX hR hk h]
  simp only [Option.bind_some]
  rw [N]
  simp only [Option.bind_some]
theorem word_yes {X : bsX} {e t u q r : Nat} {er ep : Int32} {mk : Nat → Int32} {Y : pY} {M : List Int32} (hX : PX X e) (hC : CW X e t M q r) (ht : t < 7) (hu : u < 7) :
    fX4_isWord u (cst X 2 (nI q) (nI r) er ep mk Y) = some (b2 (decide (t = u)), cst X 2 (nI q) (nI r) er ep mk Y) := by
  obtain ⟨rfl, hR⟩ := hC
  have := hR.app.1
  rw [word_c hX (by omega) (by omega), isW_t hR ht hu]
theorem tk_yes {X : bsX} {e t q r q' r' : Nat} {kd' er ep : Int32} {mk : Nat → Int32} {Y : pY} {M : List Int32} (hX : PX X e) (hC : CW X e t M q r) (ht : t < 7) (N : NT X r kd' q' r') :
    fX4_takeIfWord t (cst X 2 (nI q) (nI r) er ep mk Y) = some (1, cst X kd' (nI q') (nI r') er ep mk Y) := by
  unfold fX4_takeIfWord
  rw [word_yes hX hC ht ht, decide_eq_true rfl, b2_t]
  simp only [Option.bind_some]
  rw [if_neg (show ¬ (1 : Int32) = 0 by decide), N]
  simp only [Option.bind_some, or_true, if_true]
theorem tk_no {X : bsX} {e t q r : Nat} {kd er ep : Int32} {mk : Nat → Int32} {Y : pY} (hX : PX X e) (hq : q ≤ r) (hr : r ≤ e) (hn : isW X e q r t kd = false) :
    fX4_takeIfWord t (cst X kd (nI q) (nI r) er ep mk Y) = some (0, cst X kd (nI q) (nI r) er ep mk Y) := by
  unfold fX4_takeIfWord
  rw [word_c hX hq hr, hn, b2_f]
  simp only [Option.bind_some, true_or, if_true]
theorem CL.kd {X : bsX} {e q r : Nat} {kd : Int32} {M : List Int32} (h : CL X e M kd q r) : kd ≠ 2 := by
  rcases h.2.2 with ⟨_, a⟩ | ⟨_, _, a, _⟩ <;> rw [a] <;> decide
theorem tk_ow {X : bsX} {e t q r : Nat} {b : Bool} {kd : Int32} {M : List Int32} (hX : PX X e) (ht : t < 7) (hM : LineM M) (hC : CO X e b t M kd q r) :
    ∃ kd' q' r', (∀ (er ep : Int32) (mk : Nat → Int32) (Y : pY), fX4_takeIfWord t (cst X kd (nI q) (nI r) er ep mk Y) = some (b2 b, cst X kd' (nI q') (nI r') er ep mk Y)) ∧ CL X e M kd' q' r' := by
  rcases hC with ⟨rfl, rfl, hC⟩ | ⟨rfl, hC⟩
  · have hr : Rest X e r M := by rw [hC.1]; exact hC.2.app
    obtain ⟨kd', q', r', N, C⟩ := nx_line hX hr hM
    exact ⟨kd', q', r', fun er ep mk Y => by rw [tk_yes hX hC ht N, b2_t], C⟩
  · exact ⟨kd, q, r, fun er ep mk Y => by rw [tk_no hX hC.1 hC.2.1 (isW_n hC.kd), b2_f], hC⟩
theorem tk_two {X : bsX} {e p : Nat} {u d : Bool} {M : List Int32} (hX : PX X e) (hM : LineM M) (hR : Rest X e p (OW u 3 ++ (OW d 4 ++ M))) :
    ∃ kd q r kd2 q2 r2 kd3 q3 r3, NT X p kd q r ∧ (∀ (er ep : Int32) (mk : Nat → Int32) (Y : pY), fX4_takeIfWord 3 (cst X kd (nI q) (nI r) er ep mk Y) = some (b2 u, cst X kd2 (nI q2) (nI r2) er ep mk Y)) ∧
      (∀ (er ep : Int32) (mk : Nat → Int32) (Y : pY), fX4_takeIfWord 4 (cst X kd2 (nI q2) (nI r2) er ep mk Y) = some (b2 d, cst X kd3 (nI q3) (nI r3) er ep mk Y)) ∧ CL X e M kd3 q3 r3 := by
  cases u
  · obtain ⟨kd, q, r, N, C⟩ := nx_ow hX (show Rest X e p (OW d 4 ++ M) from hR) (by decide) hM
    obtain ⟨kd3, q3, r3, a, b⟩ := tk_ow hX (by decide) hM C
    refine ⟨kd, q, r, kd, q, r, kd3, q3, r3, N, fun er ep mk Y => ?_, a, b⟩
    rcases C with ⟨_, rfl, C⟩ | ⟨_, C⟩
    · have hw := isW_t (u := 3) C.2 (by decide) (by decide)
      have := C.2.app.1
      rw [← C.1] at hw this
      rw [tk_no hX (by rw [C.1]; omega) (by omega) (hw.trans (by decide)), b2_f]
    · rw [tk_no hX C.1 C.2.1 (isW_n C.kd), b2_f]
  · have hR2 : Rest X e p ([32] ++ (wrd 3 ++ (OW d 4 ++ M))) := by
      have : OW true 3 ++ (OW d 4 ++ M) = [32] ++ (wrd 3 ++ (OW d 4 ++ M)) := by unfold OW; rw [if_pos rfl, List.append_assoc]
      rw [← this]
      exact hR
    obtain ⟨q, r, N, C⟩ := nx_word hX hR2 (Or.inr rfl) (by decide) (st_ow hM.st)
    have hr : Rest X e r (OW d 4 ++ M) := by rw [C.1]; exact C.2.app
    obtain ⟨kd2, q2, r2, N2, C2⟩ := nx_ow hX hr (by decide) hM
    obtain ⟨kd3, q3, r3, a, b⟩ := tk_ow hX (by decide) hM C2
    exact ⟨2, q, r, kd2, q2, r2, kd3, q3, r3, N, fun er ep mk Y => by rw [tk_yes hX C (by decide) N2, b2_t], a, b⟩
/-- a slot -/
theorem ln_slot {X : bsX} {e q r n : Nat} {kd ep : Int32} {mk : Nat → Int32} {Y : pY} {M : List Int32} (hX : PX X e) (hC : CL X e (59 :: (wrd 1 ++ M)) kd q r) (hM : LineM M) (hY : Y 0 0 4 = nI n) (hn : n < 6) :
    ∃ kd' q' r', fX4_readLine 1 (cst X kd (nI q) (nI r) 0 ep mk Y) = some (cst X kd' (nI q') (nI r') 0 ep mk (wr Y 0 0 4 (nI (n + 1)))) ∧ CL X e M kd' q' r' := by
  rcases hC.2.2 with ⟨a, _⟩ | ⟨M', a, rfl, hR⟩
  · simp at a
  · simp only [List.cons.injEq, true_and] at a
    subst a
    obtain ⟨q1, r1, N1, C1⟩ := nx_w0 (t := 1) hX (by decide) hR hM.st
    have hr : Rest X e r1 M := by rw [C1.1]; exact C1.2.app
    obtain ⟨kd', q', r', N2, C2⟩ := nx_line hX hr hM
    refine ⟨kd', q', r', ?_, C2⟩
    unfold fX4_readLine
    rw [cq5, if_pos rfl, N1]
    simp only [Option.bind_some]
    rw [word_yes hX C1 (by decide) (by decide), decide_eq_true rfl, b2_t]
    simp only [Option.bind_some]
    rw [if_neg (show ¬ (1 : Int32) = 0 by decide)]
    unfold fX4_readSlotLine
    rw [cqY, hY, if_pos (show nI n < 6 from (pu_lt n 6 (by omega) (by omega)).mpr hn), pu_succ, cw1, N2]
    simp only [Option.bind_some]
/-- an image -/
theorem ln_image {X : bsX} {e q r n k v s c : Nat} {u d : Bool} {kd ep : Int32} {mk : Nat → Int32} {Y : pY} {M : List Int32} (hX : PX X e) (hC : CL X e (59 :: (wrd 2 ++ (fld k ++ (fld v ++ (fld s ++ (fld c ++ (OW u 3 ++ (OW d 4 ++ M)))))))) kd q r) (hM : LineM M)
    (hY : Y 0 0 4 = nI n) (hn : n ≤ 6) (hk : k < n) (h0 : Y 6 k 0 = 0) (hv : v < 100) (hs : 1 ≤ s) (hs2 : s < 100) (hc : c < 100) :
    ∃ kd' q' r', fX4_readLine 1 (cst X kd (nI q) (nI r) 0 ep mk Y) = some (cst X kd' (nI q') (nI r') 0 ep mk (sImgL k (nI v) (nI s) (nI c) u d Y)) ∧ CL X e M kd' q' r' := by
  rcases hC.2.2 with ⟨a, _⟩ | ⟨M', a, rfl, hR⟩
  · simp at a
  · simp only [List.cons.injEq, true_and] at a
    subst a
    obtain ⟨q1, r1, N1, C1⟩ := nx_w0 (t := 2) hX (by decide) hR st_fld
    have R1 := C1.2.app
    rw [← C1.1] at R1
    obtain ⟨q2, r2, N2, C2⟩ := nx_num hX R1 (by omega) st_fld
    have R2 := C2.2.app
    rw [← C2.1] at R2
    obtain ⟨q3, r3, N3, C3⟩ := nx_num hX R2 hv st_fld
    have R3 := C3.2.app
    rw [← C3.1] at R3
    obtain ⟨q4, r4, N4, C4⟩ := nx_num hX R3 hs2 st_fld
    have R4 := C4.2.app
    rw [← C4.1] at R4
    obtain ⟨q5, r5, N5, C5⟩ := nx_num hX R4 hc (st_ow (st_ow hM.st))
    have R5 := C5.2.app
    rw [← C5.1] at R5
    obtain ⟨kd6, q6, r6, kd7, q7, r7, kd8, q8, r8, N6, T3, T4, C8⟩ := tk_two hX hM R5
    refine ⟨kd8, q8, r8, ?_, C8⟩
    have b1 : (0 : Int32) ≤ nI k ∧ nI k ≤ nI (n - 1) := ⟨nn_nI (by omega), (pu_le k (n - 1) (by omega) (by omega)).mpr (by omega)⟩
    have b2' : (0 : Int32) ≤ nI v ∧ nI v ≤ 99 := ⟨nn_nI (by omega), (pu_le v 99 (by omega) (by omega)).mpr (by omega)⟩
    have b3 : (1 : Int32) ≤ nI s ∧ nI s ≤ 99 := ⟨(pu_le 1 s (by omega) (by omega)).mpr hs, (pu_le s 99 (by omega) (by omega)).mpr (by omega)⟩
    have b4 : (0 : Int32) ≤ nI c ∧ nI c ≤ 99 := ⟨nn_nI (by omega), (pu_le c 99 (by omega) (by omega)).mpr (by omega)⟩
    have hz : nI n - (1 : Int32) = nI (n - 1) := pu_sub n 1 (by omega)
    have hC2 := C2
    obtain ⟨e2, R2'⟩ := C2
    unfold fX4_readLine
    rw [cq5, if_pos rfl, N1]
    simp only [Option.bind_some]
    rw [word_yes hX C1 (by decide) (by decide), show decide (2 = 1) = false by decide, b2_f]
    simp only [Option.bind_some, if_true]
    rw [word_yes hX C1 (by decide) (by decide), show decide (2 = 2) = true by decide, b2_t]
    simp only [Option.bind_some]
    rw [if_neg (show ¬ (1 : Int32) = 0 by decide)]
    unfold fX4_readImageLine
    rw [N2]
    simp only [Option.bind_some]
    rw [cqY, hY, hz, e2, num_t hX R2' (by omega) b1]
    simp only [Option.bind_some]
    rw [← e2, if_neg (pu_neg k (by omega)), if_pos (show nI k < 6 from (pu_lt k 6 (by omega) (by omega)).mpr (by omega)), if_pos ((pu_in k 6 (by omega)).mpr (by omega)), pu_ix k (by omega), cqY, if_pos h0, img49, N3]
    simp only [Option.bind_some]
    rw [take_t hX C3 hv b2' N4]
    simp only [Option.bind_some]
    unfold imgA
    rw [take_t hX C4 hs2 b3 N5]
    simp only [Option.bind_some]
    unfold imgB
    rw [take_t hX C5 hc b4 N6]
    simp only [Option.bind_some]
    unfold imgC
    rw [set_c]
    simp only [Option.bind_some]
    rw [T3]
    simp only [Option.bind_some]
    rw [if_pos (show b2 u = 0 ∨ b2 u = 1 by cases u <;> decide), cw1, T4]
    simp only [Option.bind_some]
    rw [if_pos (show b2 d = 0 ∨ b2 d = 1 by cases d <;> decide), cw1, show (0 : Int32) = b2 false from rfl, mark_c]
    simp only [Option.bind_some]
    rfl
/-- a mark -/
theorem ln_mark {X : bsX} {e q r n k p t : Nat} {g : Bool} {kd ep : Int32} {mk : Nat → Int32} {Y : pY} {M : List Int32} (hX : PX X e) (hC : CL X e (59 :: (wrd 5 ++ (fld k ++ (fld p ++ (fld t ++ (OW g 6 ++ M)))))) kd q r) (hM : LineM M)
    (hY : Y 0 0 4 = nI n) (hn : n ≤ 6) (hk : k < n) (h0 : ¬ Y 6 k 0 = 0) (hm : mk k = 0) (hp : p ≤ 15) (ht : t ≤ 7) :
    ∃ kd' q' r', fX4_readLine 1 (cst X kd (nI q) (nI r) 0 ep mk Y) = some (cst X kd' (nI q') (nI r') 0 ep (pt mk k 1) (wr (wr (wr Y 5 k 2 (nI p)) 5 k 3 (nI t)) 5 k 4 (b2 g))) ∧ CL X e M kd' q' r' := by
  rcases hC.2.2 with ⟨a, _⟩ | ⟨M', a, rfl, hR⟩
  · simp at a
  · simp only [List.cons.injEq, true_and] at a
    subst a
    obtain ⟨q1, r1, N1, C1⟩ := nx_w0 (t := 5) hX (by decide) hR st_fld
    have R1 := C1.2.app
    rw [← C1.1] at R1
    obtain ⟨q2, r2, N2, C2⟩ := nx_num hX R1 (by omega) st_fld
    have R2 := C2.2.app
    rw [← C2.1] at R2
    obtain ⟨q3, r3, N3, C3⟩ := nx_num hX R2 (by omega) st_fld
    have R3 := C3.2.app
    rw [← C3.1] at R3
    obtain ⟨q4, r4, N4, C4⟩ := nx_num hX R3 (by omega) (st_ow hM.st)
    have R4 := C4.2.app
    rw [← C4.1] at R4
    obtain ⟨kd5, q5, r5, N5, C5⟩ := nx_ow hX R4 (by decide) hM
    obtain ⟨kd6, q6, r6, T6, C6⟩ := tk_ow hX (by decide) hM C5
    refine ⟨kd6, q6, r6, ?_, C6⟩
    have b1 : (0 : Int32) ≤ nI k ∧ nI k ≤ nI (n - 1) := ⟨nn_nI (by omega), (pu_le k (n - 1) (by omega) (by omega)).mpr (by omega)⟩
    have b2' : (0 : Int32) ≤ nI p ∧ nI p ≤ 15 := ⟨nn_nI (by omega), (pu_le p 15 (by omega) (by omega)).mpr hp⟩
    have b3 : (0 : Int32) ≤ nI t ∧ nI t ≤ 7 := ⟨nn_nI (by omega), (pu_le t 7 (by omega) (by omega)).mpr ht⟩
    have hz : nI n - (1 : Int32) = nI (n - 1) := pu_sub n 1 (by omega)
    obtain ⟨e2, R2'⟩ := C2
    unfold fX4_readLine
    rw [cq5, if_pos rfl, N1]
    simp only [Option.bind_some]
    rw [word_yes hX C1 (by decide) (by decide), show decide (5 = 1) = false by decide, b2_f]
    simp only [Option.bind_some, if_true]
    rw [word_yes hX C1 (by decide) (by decide), show decide (5 = 2) = false by decide, b2_f]
    simp only [Option.bind_some, if_true]
    rw [word_yes hX C1 (by decide) (by decide), show decide (5 = 5) = true by decide, b2_t]
    simp only [Option.bind_some]
    rw [if_neg (show ¬ (1 : Int32) = 0 by decide)]
    unfold fX4_readMarkLine
    rw [N2]
    simp only [Option.bind_some]
    rw [cqY, hY, hz, e2, num_t hX R2' (by omega) b1]
    simp only [Option.bind_some]
    rw [← e2, if_neg (pu_neg k (by omega)), if_pos (show nI k < 6 from (pu_lt k 6 (by omega) (by omega)).mpr (by omega)), if_pos ((pu_in k 6 (by omega)).mpr (by omega)), pu_ix k (by omega), cqM (show k < 6 by omega), if_pos hm]
    unfold fX4_readMarkLine_48
    rw [cqY, if_neg h0, mrk63, if_pos ((pu_in k 6 (by omega)).mpr (by omega)), pu_ix k (by omega), nar_b1, cwM (show k < 6 by omega), N3]
    simp only [Option.bind_some]
    unfold mrkA
    rw [take_t hX C3 (by omega) b2' N4]
    simp only [Option.bind_some]
    unfold mrkB
    rw [take_t hX C4 (by omega) b3 N5]
    simp only [Option.bind_some]
    unfold mrkC
    rw [T6]
    simp only [Option.bind_some]
    rw [mark_c]
    simp only [Option.bind_some]
