/-! THE PARSER: tokens of a text that is told as a list -/
def Rest (X : bsX) (e p : Nat) (M : List Int32) : Prop := e = p + M.length ∧ ∀ i, i < M.length → sn X e (p + i) = M.getD i 0
theorem getD_rest {A M : List Int32} {i : Nat} : (A ++ M).getD (A.length + i) 0 = M.getD i 0 := by
  rw [List.getD_eq_getElem?_getD, List.getD_eq_getElem?_getD, List.getElem?_append_right (by omega), Nat.add_sub_cancel_left]
theorem Rest.app {X : bsX} {e p : Nat} {A M : List Int32} (h : Rest X e p (A ++ M)) : Rest X e (p + A.length) M := by
  refine ⟨?_, fun i hi => ?_⟩
  · have := h.1
    rw [List.length_append] at this
    omega
  · have := h.2 (A.length + i) (by rw [List.length_append]; omega)
    rw [getD_rest] at this
    rw [Nat.add_assoc]
    exact this
theorem Rest.at {X : bsX} {e p i : Nat} {A M : List Int32} (h : Rest X e p (A ++ M)) (hi : i < A.length) : sn X e (p + i) = A.getD i 0 := by
  rw [h.2 i (by rw [List.length_append]; omega), getD_left hi]
def hdM (M : List Int32) : Int32 := match M with | [] => -1 | x :: _ => x
theorem Rest.hd {X : bsX} {e p : Nat} {M : List Int32} (h : Rest X e p M) : sn X e p = hdM M := by
  cases M with
  | nil =>
    have := h.1
    rw [List.length_nil] at this
    exact sn_m1.mpr (by omega)
  | cons x M =>
    have := h.2 0 (by rw [List.length_cons]; omega)
    exact this
def StM (M : List Int32) : Prop := hdM M = -1 ∨ hdM M = 32 ∨ hdM M = 59
theorem StM.kd {M : List Int32} (h : StM M) : kdO (hdM M) ≠ 2 ∧ kdO (hdM M) ≠ 3 := by
  rcases h with h | h | h <;> rw [h] <;> decide
def NT (X : bsX) (p : Nat) (kd : Int32) (q r : Nat) : Prop := ∀ (k0 ts0 er ep : Int32) (mk : Nat → Int32) (Y : pY), fX4_readToken (cst X k0 ts0 (nI p) er ep mk Y) = some (cst X kd (nI q) (nI r) er ep mk Y)
theorem nt_run {X : bsX} {e p : Nat} {kd : Int32} {B A M : List Int32} (hX : PX X e) (hR : Rest X e p (B ++ (A ++ M))) (hB : B = [] ∨ B = [32]) (hk : kd = 2 ∨ kd = 3) (hA : ∀ i, i < A.length → kdO (A.getD i 0) = kd) (h1 : 1 ≤ A.length) (h8 : (kd = 2 ∧ A.length ≤ 8) ∨ (kd = 3 ∧ A.length ≤ 2)) (hM : StM M) :
    NT X p kd (p + B.length) (p + B.length + A.length) := by
  have he := hX.2
  have hq : Rest X e (p + B.length) (A ++ M) := hR.app
  have hr : Rest X e (p + B.length + A.length) M := hq.app
  have er := hr.1
  have lB : B.length ≤ 1 := by rcases hB with h | h <;> rw [h] <;> decide
  have hbl : ∀ j, p ≤ j → j < p + B.length → sn X e j = 32 := by
    intro j j1 j2
    rcases hB with h | h
    · rw [h, List.length_nil] at j2; omega
    · have := hR.at (i := 0) (by rw [h]; decide)
      rw [h] at this j2
      rw [List.length_cons, List.length_nil] at j2
      rw [show j = p + 0 by omega]
      exact this
  have s0 : kdO (sn X e (p + B.length)) = kd := by
    have := hq.at (i := 0) (by omega)
    rw [Nat.add_zero] at this
    rw [this]
    exact hA 0 (by omega)
  have n32 : sn X e (p + B.length) ≠ 32 := by
    intro z
    rw [z] at s0
    rcases hk with h | h <;> rw [h] at s0 <;> exact absurd s0 (by decide)
  have hrun : ∀ j, p + B.length + 1 ≤ j → j < p + B.length + A.length → kdO (sn X e j) = kd := by
    intro j j1 j2
    have := hq.at (i := j - (p + B.length)) (by omega)
    rw [show p + B.length + (j - (p + B.length)) = j by omega] at this
    rw [this]
    exact hA _ (by omega)
  have hend : kdO (sn X e (p + B.length + A.length)) ≠ kd := by
    rw [hr.hd]
    rcases hk with h | h <;> rw [h]
    · exact hM.kd.1
    · exact hM.kd.2
  have k0n : kd ≠ 0 := by rcases hk with h | h <;> rw [h] <;> decide
  intro k0 ts0 er' ep mk Y
  unfold fX4_readToken
  rw [cq7, cw6, cq7, rt13 hX (q := p + B.length) (by omega) n32 B.length p bsF rfl (by unfold bsF; omega) hbl, rt47 hX (by omega), s0, if_neg k0n, if_pos hk,
    rt115 hX (r := p + B.length + A.length) (by omega) k0n hend (A.length - 1) (p + B.length + 1) bsF (by omega) (by unfold bsF; omega) hrun, rt158 (by omega) (by omega), if_neg (by
      rcases h8 with ⟨a, b⟩ | ⟨a, b⟩
      · rintro (⟨_, z⟩ | ⟨z, _⟩)
        · omega
        · rw [a] at z; exact absurd z (by decide)
      · rintro (⟨z, _⟩ | ⟨_, z⟩)
        · rw [a] at z; exact absurd z (by decide)
        · omega)]
theorem nt_semi {X : bsX} {e p : Nat} {M : List Int32} (hX : PX X e) (hR : Rest X e p (59 :: M)) : NT X p 4 p (p + 1) ∧ Rest X e (p + 1) M := by
  have hR2 : Rest X e p ([59] ++ M) := hR
  have he := hX.2
  have hr := hR2.app
  have er := hr.1
  rw [show ([59] : List Int32).length = 1 from rfl] at er hr
  have s0 : sn X e p = 59 := hR.hd
  refine ⟨?_, hr⟩
  intro k0 ts0 er' ep mk Y
  obtain ⟨f, hf⟩ := bsF_5
  have k4 : kdO 59 = 4 := by decide
  unfold fX4_readToken
  rw [cq7, cw6, cq7, rt13 hX (q := p) (by omega) (by rw [s0]; decide) 0 p bsF rfl (by unfold bsF; omega) (fun j a b => by omega), rt47 hX (by omega), s0, k4, if_neg (show ¬ (4 : Int32) = 0 by decide), if_neg (show ¬ ((4 : Int32) = 2 ∨ (4 : Int32) = 3) by decide), hf, fX4_readToken_115, if_pos rfl, rt158 (by omega) (by omega), if_neg (show ¬ (((4 : Int32) = 2 ∧ 8 < p + 1 - p) ∨ ((4 : Int32) = 3 ∧ 2 < p + 1 - p)) from fun z => z.elim (fun z => absurd z.1 (by decide)) (fun z => absurd z.1 (by decide)))]
theorem nt_end {X : bsX} {e p : Nat} (hX : PX X e) (hR : Rest X e p []) : NT X p 0 p p := by
  have he := hX.2
  have er := hR.1
  rw [List.length_nil] at er
  have s0 : sn X e p = -1 := hR.hd
  intro k0 ts0 er' ep mk Y
  have k4 : kdO (-1) = 0 := by decide
  unfold fX4_readToken
  rw [cq7, cw6, cq7, rt13 hX (q := p) (by omega) (by rw [s0]; decide) 0 p bsF rfl (by unfold bsF; omega) (fun j a b => by omega), rt47 hX (by omega), s0, k4, if_pos rfl]
/-! words and numbers -/
theorem wrd_kd : ∀ t, t < 7 → 1 ≤ (wrd t).length ∧ (wrd t).length ≤ 8 ∧ ∀ i, i < (wrd t).length → kdO ((wrd t).getD i 0) = 2 := by decide +kernel
theorem dig_kd : ∀ k, k < 100 → 1 ≤ (dig k).length ∧ (dig k).length ≤ 2 ∧ ∀ i, i < (dig k).length → kdO ((dig k).getD i 0) = 3 := by decide +kernel
def wAllC (A : List Int32) (t : Nat) : Nat → Nat → Bool
  | 0, _ => true
  | d + 1, i => if A.getD i 0 = bsChr t i then wAllC A t d (i + 1) else false
theorem wAllC_t : ∀ t, t < 7 → ∀ u, u < 7 → (if (wrd t).length = bsSl.getD u 0 then wAllC (wrd t) u (bsSl.getD u 0) 0 else false) = decide (t = u) := by decide +kernel
theorem wAll_C {X : bsX} {e q u : Nat} {A M : List Int32} (hR : Rest X e q (A ++ M)) : ∀ d i, i + d = A.length → wAll X e q u d i = wAllC A u d i := by
  intro d
  induction d with
  | zero => intro i _; rfl
  | succ d ih =>
    intro i hi
    unfold wAll wAllC
    rw [hR.at (by omega), ih (i + 1) (by omega)]
theorem isW_t {X : bsX} {e q t u : Nat} {M : List Int32} (hR : Rest X e q (wrd t ++ M)) (ht : t < 7) (hu : u < 7) : isW X e q (q + (wrd t).length) u 2 = decide (t = u) := by
  rw [← wAllC_t t ht u hu]
  unfold isW
  rw [if_pos rfl, Nat.add_sub_cancel_left]
  by_cases c : (wrd t).length = bsSl.getD u 0
  · rw [if_pos c, if_pos c]
    exact wAll_C hR _ 0 (by omega)
  · rw [if_neg c, if_neg c]
theorem isW_n {X : bsX} {e q r u : Nat} {kd : Int32} (h : kd ≠ 2) : isW X e q r u kd = false := by
  unfold isW
  rw [if_neg h]
theorem dig_nm : ∀ k, k < 100 → ((dig k).length = 1 ∧ ((10 : Int32) * 0) + (dig k).getD 0 0 - 48 = nI k) ∨ ((dig k).length = 2 ∧ ((10 : Int32) * (((10 : Int32) * 0) + (dig k).getD 0 0 - 48)) + (dig k).getD 1 0 - 48 = nI k) := by decide +kernel
theorem num_t {X : bsX} {e q k : Nat} {er ep lo hi : Int32} {mk : Nat → Int32} {Y : pY} {M : List Int32} (hX : PX X e) (hR : Rest X e q (dig k ++ M)) (hk : k < 100) (h : lo ≤ nI k ∧ nI k ≤ hi) :
    fX4_numberWithin lo hi (cst X 3 (nI q) (nI (q + (dig k).length)) er ep mk Y) = some (nI k, cst X 3 (nI q) (nI (q + (dig k).length)) er ep mk Y) := by
  have hr := hR.app.1
  have hd := dig_nm k hk
  have hnm : nmF X e q (q + (dig k).length - q) = nI k := by
    rw [Nat.add_sub_cancel_left]
    rcases hd with ⟨a, b⟩ | ⟨a, b⟩
    · rw [a]
      have h0 := hR.at (i := 0) (by omega)
      rw [Nat.add_zero] at h0
      show ((10 : Int32) * 0) + sn X e q - 48 = nI k
      rw [h0]
      exact b
    · rw [a]
      have h0 := hR.at (i := 0) (by omega)
      have h1 := hR.at (i := 1) (by omega)
      rw [Nat.add_zero] at h0
      show ((10 : Int32) * (((10 : Int32) * 0) + sn X e q - 48)) + sn X e (q + 1) - 48 = nI k
      rw [h0, h1]
      exact b
  rw [num_c hX (by omega) (by rcases hd with ⟨a, _⟩ | ⟨a, _⟩ <;> rw [a] <;> omega), hnm, if_pos h]
