/-! TOKENS -/
theorem kd2 {c : Int32} : kdO c = 2 ↔ isSm c = true := by
  unfold kdO
  by_cases h0 : c = -1
  · rw [if_pos h0, h0]; decide
  · rw [if_neg h0]
    by_cases h1 : isSm c = true
    · rw [if_pos h1]; exact ⟨fun _ => h1, fun _ => rfl⟩
    · rw [if_neg h1]
      refine ⟨fun q => ?_, fun q => absurd q h1⟩
      exfalso
      by_cases h2 : isDg c = true
      · rw [if_pos h2] at q; exact absurd q (by decide)
      · rw [if_neg h2] at q
        by_cases h3 : c = 32
        · rw [if_pos h3] at q; exact absurd q (by decide)
        · rw [if_neg h3] at q
          by_cases h4 : c = 59
          · rw [if_pos h4] at q; exact absurd q (by decide)
          · rw [if_neg h4] at q; exact absurd q (by decide)
theorem dg_sm {c : Int32} (h : isDg c = true) : isSm c = false := by
  unfold isDg at h
  unfold isSm
  simp only [Bool.and_eq_true, decide_eq_true_eq] at h
  have : ¬ (97 : Int32) ≤ c := fun q => absurd (Int32.le_trans q h.2) (by decide)
  simp [b2_t, b2_f, up_at, up_up, up_id, this]
theorem kd3 {c : Int32} : kdO c = 3 ↔ isDg c = true := by
  unfold kdO
  by_cases h0 : c = -1
  · rw [if_pos h0, h0]; decide
  · rw [if_neg h0]
    by_cases h1 : isSm c = true
    · rw [if_pos h1]
      refine ⟨fun q => absurd q (by decide), fun q => ?_⟩
      rw [dg_sm q] at h1; exact absurd h1 (by decide)
    · rw [if_neg h1]
      by_cases h2 : isDg c = true
      · rw [if_pos h2]; exact ⟨fun _ => h2, fun _ => rfl⟩
      · rw [if_neg h2]
        refine ⟨fun q => ?_, fun q => absurd q h2⟩
        exfalso
        by_cases h3 : c = 32
        · rw [if_pos h3] at q; exact absurd q (by decide)
        · rw [if_neg h3] at q
          by_cases h4 : c = 59
          · rw [if_pos h4] at q; exact absurd q (by decide)
          · rw [if_neg h4] at q; exact absurd q (by decide)
theorem rt158 {X : bsX} {q r : Nat} {kd er ep : Int32} {mk : Nat → Int32} {Y : pY} (hq : q ≤ r) (hr : r ≤ 600) :
    fX4_readToken_158 (cst X kd (nI q) (nI r) er ep mk Y) = some (cst X (if (kd = 2 ∧ 8 < r - q) ∨ (kd = 3 ∧ 2 < r - q) then 5 else kd) (nI q) (nI r) er ep mk Y) := by
  have c32 : ¬ (3 : Int32) = 2 := by decide
  have c23 : ¬ (2 : Int32) = 3 := by decide
  unfold fX4_readToken_158 fX4_readToken_182 fX4_readToken_195
  rw [c5, c6, c7, pu_sub r q hq, cw5]
  by_cases k2 : kd = 2
  · rw [if_pos k2]
    by_cases l : 8 < r - q
    · rw [if_pos (show (8 : Int32) < nI (r - q) from (pu_lt 8 (r - q) (by omega) (by decide)).mpr l), if_pos (Or.inl ⟨k2, l⟩)]
    · have hn : ¬ ((kd = 2 ∧ 8 < r - q) ∨ (kd = 3 ∧ 2 < r - q)) := by
        rintro (q1 | q1)
        · exact l q1.2
        · rw [k2] at q1; exact c23 q1.1
      rw [if_neg (show ¬ (8 : Int32) < nI (r - q) from fun z => l ((pu_lt 8 (r - q) (by omega) (by decide)).mp z)), if_neg hn, if_neg (by rw [k2]; exact c23)]
  · rw [if_neg k2]
    by_cases k3 : kd = 3
    · rw [if_pos k3]
      by_cases l : 2 < r - q
      · rw [if_neg (show ¬ nI (r - q) ≤ (2 : Int32) from fun z => by have := (pu_le (r - q) 2 (by decide) (by omega)).mp z; omega), if_pos (Or.inr ⟨k3, l⟩)]
      · have hn : ¬ ((kd = 2 ∧ 8 < r - q) ∨ (kd = 3 ∧ 2 < r - q)) := by
          rintro (q1 | q1)
          · exact k2 q1.1
          · exact l q1.2
        rw [if_pos (show nI (r - q) ≤ (2 : Int32) from (pu_le (r - q) 2 (by decide) (by omega)).mpr (by omega)), if_neg hn]
    · have hn : ¬ ((kd = 2 ∧ 8 < r - q) ∨ (kd = 3 ∧ 2 < r - q)) := by
        rintro (q1 | q1)
        · exact k2 q1.1
        · exact k3 q1.1
      rw [if_neg k3, if_neg hn]
theorem rt115 {X : bsX} {e q r : Nat} {kd er ep : Int32} {mk : Nat → Int32} {Y : pY} (hX : PX X e) (hr : r ≤ e) (hk0 : kd ≠ 0) (hend : kdO (sn X e r) ≠ kd) : ∀ (d i f : Nat), i + d = r → d < f → (∀ j, i ≤ j → j < r → kdO (sn X e j) = kd) →
    fX4_readToken_115 f 1 (nI i) (cst X kd (nI q) (nI i) er ep mk Y) = fX4_readToken_158 (cst X kd (nI q) (nI r) er ep mk Y) := by
  have he := hX.2
  have c10 : ¬ (1 : Int32) = 0 := by decide
  have kz : kdO (-1) = 0 := by decide
  intro d
  induction d with
  | zero =>
    intro i f hi hf hj
    obtain ⟨f, rfl⟩ : ∃ z, f = z + 1 := ⟨f - 1, by omega⟩
    obtain rfl : i = r := by omega
    rw [fX4_readToken_115, if_neg c10, c4, hX.1]
    by_cases h : e ≤ i
    · rw [if_pos ((pu_le e i (by omega) (by omega)).mpr h)]
    · rw [if_neg (fun z => h ((pu_le e i (by omega) (by omega)).mp z)), byte_c hX (by omega), Option.bind_some, kind_c, Option.bind_some]
      simp only [c5, hend, if_false]
  | succ d ih =>
    intro i f hi hf hj
    obtain ⟨f, rfl⟩ : ∃ z, f = z + 1 := ⟨f - 1, by omega⟩
    have h1 := hj i (Nat.le_refl i) (by omega)
    have h : ¬ e ≤ i := fun z => hk0 (by rw [← h1, sn_m1.mpr z]; exact kz)
    rw [fX4_readToken_115, if_neg c10, c4, hX.1, if_neg (fun z => h ((pu_le e i (by omega) (by omega)).mp z)), byte_c hX (by omega), Option.bind_some, kind_c, Option.bind_some]
    simp only [c5, h1, if_true, c7, pu_succ, cw7]
    exact ih (i + 1) f (by omega) (by omega) (fun j a b => hj j (by omega) b)
theorem rt47 {X : bsX} {e q : Nat} {kd te er ep : Int32} {mk : Nat → Int32} {Y : pY} (hX : PX X e) (hq : q ≤ e) :
    fX4_readToken_47 (cst X kd (nI q) te er ep mk Y) = if kdO (sn X e q) = 0 then some (cst X (kdO (sn X e q)) (nI q) (nI q) er ep mk Y) else fX4_readToken_115 bsF (if kdO (sn X e q) = 2 ∨ kdO (sn X e q) = 3 then 1 else 0) (nI (q + 1)) (cst X (kdO (sn X e q)) (nI q) (nI (q + 1)) er ep mk Y) := by
  have he := hX.2
  unfold fX4_readToken_47 fX4_readToken_104 fX4_readToken_109
  rw [c6, byte_c hX (by omega), Option.bind_some, kind_c, Option.bind_some]
  dsimp only
  generalize kdO (sn X e q) = k
  rw [cw5, c6, cw7, c5, c7, pu_succ, cw7, c5, c7]
  by_cases h0 : k = 0
  · rw [if_pos h0, if_pos h0]
  · rw [if_neg h0, if_neg h0]
    by_cases h2 : k = 2
    · rw [if_pos h2, if_pos (Or.inl h2)]
    · rw [if_neg h2]
      by_cases h3 : k = 3
      · rw [if_pos h3, if_pos (Or.inr h3)]
      · rw [if_neg h3, if_neg (fun z => z.elim h2 h3)]
theorem rt13 {X : bsX} {e q : Nat} {kd te er ep : Int32} {mk : Nat → Int32} {Y : pY} (hX : PX X e) (hq : q ≤ e) (hend : sn X e q ≠ 32) : ∀ (d i f : Nat), i + d = q → d < f → (∀ j, i ≤ j → j < q → sn X e j = 32) →
    fX4_readToken_13 f (nI i) (cst X kd (nI i) te er ep mk Y) = fX4_readToken_47 (cst X kd (nI q) te er ep mk Y) := by
  have he := hX.2
  intro d
  induction d with
  | zero =>
    intro i f hi hf hj
    obtain ⟨f, rfl⟩ : ∃ z, f = z + 1 := ⟨f - 1, by omega⟩
    obtain rfl : i = q := by omega
    rw [fX4_readToken_13, c4, hX.1]
    by_cases h : e ≤ i
    · rw [if_pos ((pu_le e i (by omega) (by omega)).mpr h)]
    · rw [if_neg (fun z => h ((pu_le e i (by omega) (by omega)).mp z)), byte_c hX (by omega), Option.bind_some, if_neg hend]
  | succ d ih =>
    intro i f hi hf hj
    obtain ⟨f, rfl⟩ : ∃ z, f = z + 1 := ⟨f - 1, by omega⟩
    have h1 := hj i (Nat.le_refl i) (by omega)
    have h : ¬ e ≤ i := fun z => by rw [sn_m1.mpr z] at h1; exact absurd h1 (by decide)
    rw [fX4_readToken_13, c4, hX.1, if_neg (fun z => h ((pu_le e i (by omega) (by omega)).mp z)), byte_c hX (by omega), Option.bind_some, if_pos h1]
    dsimp only
    rw [c6, pu_succ, cw6]
    exact ih (i + 1) f (by omega) (by omega) (fun j a b => hj j (by omega) b)
/-! the reference's -/
theorem t63 {X W : bsX} {e q r : Nat} {kd nm er ep mr : Int32} {R : Nat → Int32} (hX : PX X e) (hW : PW X W e) (hq : q ≤ r) (hr : r ≤ e) (hend : isSm (sn X e r) = false) : ∀ (d i f : Nat), i + d = r → d < f → (∀ j, i ≤ j → j < r → isSm (sn X e j) = true) →
    fX9_token_63 f (rst W (nI i) (nI q) kd nm er ep mr R) = some (rst W (nI r) (nI q) (if r - q ≤ 8 then 1 else 4) nm er ep mr R) := by
  have he := hX.2
  have c10 : ¬ (1 : Int32) = 0 := by decide
  intro d
  induction d with
  | zero =>
    intro i f hi hf hj
    obtain ⟨f, rfl⟩ : ∃ z, f = z + 1 := ⟨f - 1, by omega⟩
    obtain rfl : i = r := by omega
    rw [fX9_token_63, r11, seen_r hX hW (by omega), Option.bind_some, small_r, Option.bind_some, hend, b2_f, if_pos rfl]
    unfold fX9_token_110
    simp only [r11, r12, pu_sub i q hq, rw13]
    by_cases l : i - q ≤ 8
    · rw [if_pos (show nI (i - q) ≤ (8 : Int32) from (pu_le (i - q) 8 (by decide) (by omega)).mpr l), if_pos l]
    · rw [if_neg (show ¬ nI (i - q) ≤ (8 : Int32) from fun z => l ((pu_le (i - q) 8 (by decide) (by omega)).mp z)), if_neg l]
  | succ d ih =>
    intro i f hi hf hj
    obtain ⟨f, rfl⟩ : ∃ z, f = z + 1 := ⟨f - 1, by omega⟩
    rw [fX9_token_63, r11, seen_r hX hW (by omega), Option.bind_some, small_r, Option.bind_some, hj i (Nat.le_refl i) (by omega), b2_t, if_neg c10]
    dsimp only
    rw [r11, pu_succ, rw11]
    exact ih (i + 1) f (by omega) (by omega) (fun j a b => hj j (by omega) b)
/-- the number behind k digits from q on -/
def nmF (X : bsX) (e q : Nat) : Nat → Int32
  | 0 => 0
  | 1 => ((10 : Int32) * 0) + sn X e q - 48
  | 2 => ((10 : Int32) * (((10 : Int32) * 0) + sn X e q - 48)) + sn X e (q + 1) - 48
  | _ => 0
theorem nmF_step {X : bsX} {e q k : Nat} : nmF X e q (k + 1) = if 2 ≤ k then 0 else ((10 : Int32) * nmF X e q k) + sn X e (q + k) - 48 := by
  by_cases h : 2 ≤ k
  · rw [if_pos h]
    obtain ⟨m, rfl⟩ : ∃ m, k = m + 2 := ⟨k - 2, by omega⟩
    rfl
  · rw [if_neg h]
    have : k = 0 ∨ k = 1 := by omega
    rcases this with rfl | rfl <;> rfl
theorem t128 {X W : bsX} {e q r : Nat} {kd er ep mr : Int32} {R : Nat → Int32} (hX : PX X e) (hW : PW X W e) (hr : r ≤ e) (hend : isDg (sn X e r) = false) : ∀ (d k f : Nat), q + k + d = r → d < f → (∀ j, q + k ≤ j → j < r → isDg (sn X e j) = true) →
    fX9_token_128 f (rst W (nI (q + k)) (nI q) kd (nmF X e q k) er ep mr R) = some (rst W (nI r) (nI q) (if r - q ≤ 2 then 2 else 4) (nmF X e q (r - q)) er ep mr R) := by
  have he := hX.2
  have c10 : ¬ (1 : Int32) = 0 := by decide
  intro d
  induction d with
  | zero =>
    intro k f hi hf hj
    obtain ⟨f, rfl⟩ : ∃ z, f = z + 1 := ⟨f - 1, by omega⟩
    obtain rfl : q + k = r := by omega
    have hk : q + k - q = k := by omega
    rw [fX9_token_128, r11, seen_r hX hW (by omega), Option.bind_some, digit_r, Option.bind_some, hend, b2_f, if_pos rfl]
    unfold fX9_token_214
    simp only [r11, r12, pu_sub (q + k) q (by omega), hk, rw13]
    by_cases l : k ≤ 2
    · rw [if_pos (show nI k ≤ (2 : Int32) from (pu_le k 2 (by decide) (by omega)).mpr l), if_pos l]
    · rw [if_neg (show ¬ nI k ≤ (2 : Int32) from fun z => l ((pu_le k 2 (by decide) (by omega)).mp z)), if_neg l]
  | succ d ih =>
    intro k f hi hf hj
    obtain ⟨f, rfl⟩ : ∃ z, f = z + 1 := ⟨f - 1, by omega⟩
    have hk : q + k - q = k := by omega
    have hst := nmF_step (X := X) (e := e) (q := q) (k := k)
    rw [fX9_token_128, r11, seen_r hX hW (by omega), Option.bind_some, digit_r, Option.bind_some, hj (q + k) (Nat.le_refl _) (by omega), b2_t, if_neg c10]
    simp only [r11, r12, pu_sub (q + k) q (by omega), hk, r14, seen_r hX hW (show q + k < 2147483648 by omega)]
    unfold fX9_token_179
    by_cases l : 2 ≤ k
    · rw [if_pos (show (2 : Int32) ≤ nI k from (pu_le 2 k (by omega) (by decide)).mpr l), rw14, r11, pu_succ, rw11]
      rw [if_pos l] at hst
      rw [← hst]
      exact ih (k + 1) f (by omega) (by omega) (fun j a b => hj j (by omega) b)
    · rw [if_neg (show ¬ (2 : Int32) ≤ nI k from fun z => l ((pu_le 2 k (by omega) (by decide)).mp z)), Option.bind_some]
      dsimp only
      rw [rw14, r11, pu_succ, rw11]
      rw [if_neg l] at hst
      rw [← hst]
      exact ih (k + 1) f (by omega) (by omega) (fun j a b => hj j (by omega) b)
theorem t0 {X W : bsX} {e q : Nat} {ts kd nm er ep mr : Int32} {R : Nat → Int32} (hX : PX X e) (hW : PW X W e) (hq : q ≤ e) : ∀ (d i f : Nat), i + d = q → d < f → (∀ j, i ≤ j → j < q → sn X e j = 32) →
    ∃ m, fX9_token_0 f (rst W (nI i) ts kd nm er ep mr R) = fX9_token_0 (m + 1) (rst W (nI q) ts kd nm er ep mr R) := by
  have he := hX.2
  intro d
  induction d with
  | zero =>
    intro i f hi hf hj
    obtain ⟨f, rfl⟩ : ∃ z, f = z + 1 := ⟨f - 1, by omega⟩
    obtain rfl : i = q := by omega
    exact ⟨f, rfl⟩
  | succ d ih =>
    intro i f hi hf hj
    obtain ⟨f, rfl⟩ : ∃ z, f = z + 1 := ⟨f - 1, by omega⟩
    obtain ⟨m, hm⟩ := ih (i + 1) f (by omega) (by omega) (fun j a b => hj j (by omega) b)
    refine ⟨m, ?_⟩
    rw [fX9_token_0, r11, seen_r hX hW (by omega), Option.bind_some, if_pos (hj i (Nat.le_refl i) (by omega))]
    dsimp only
    rw [r11, pu_succ, rw11]
    exact hm
/-- the reference's kind for the class's -/
def tkR (kd kr : Int32) : Prop := (kd = 0 ∧ kr = 0) ∨ (kd = 2 ∧ kr = 1) ∨ (kd = 3 ∧ kr = 2) ∨ (kd = 4 ∧ kr = 3) ∨ (kd = 5 ∧ kr = 4)
theorem tok_ex {X W : bsX} {e : Nat} (hX : PX X e) (hW : PW X W e) {p : Nat} (hp : p ≤ e) : ∃ (kd kr : Int32) (q r : Nat), p ≤ q ∧ q ≤ r ∧ r ≤ e ∧ tkR kd kr ∧ (kd ≠ 0 → q < r) ∧ (kd = 3 → r = q + 1 ∨ r = q + 2) ∧
    (∀ (kd0 ts0 er ep : Int32) (mk : Nat → Int32) (Y : pY), fX4_readToken (cst X kd0 ts0 (nI p) er ep mk Y) = some (cst X kd (nI q) (nI r) er ep mk Y)) ∧
    (∀ (ts0 kd0 nm0 er ep mr : Int32) (R : Nat → Int32), ∃ nm, fX9_token (rst W (nI p) ts0 kd0 nm0 er ep mr R) = some (rst W (nI r) (nI q) kr nm er ep mr R) ∧ (kd = 3 → nm = nmF X e q (r - q))) := by
  have he := hX.2
  obtain ⟨q, q1, q2, q3, q4⟩ := run_ex (X := X) (e := e) (fun c => decide (c = 32)) (by decide) (e - p) p (by omega)
  have hq : sn X e q ≠ 32 := by simpa [b2_t, b2_f, up_at, up_up, up_id] using q3
  have hb : ∀ j, p ≤ j → j < q → sn X e j = 32 := fun j a b => by simpa [b2_t, b2_f, up_at, up_up, up_id] using q4 j a b
  have cls : ∀ (kd0 ts0 er ep : Int32) (mk : Nat → Int32) (Y : pY), fX4_readToken (cst X kd0 ts0 (nI p) er ep mk Y) = fX4_readToken_47 (cst X kd0 (nI q) (nI p) er ep mk Y) := by
    intro kd0 ts0 er ep mk Y
    unfold fX4_readToken
    rw [c7, cw6, c7]
    exact rt13 hX q2 hq (q - p) p bsF (by omega) (by unfold bsF; omega) hb
  have ref : ∀ (ts0 kd0 nm0 er ep mr : Int32) (R : Nat → Int32), ∃ m, fX9_token (rst W (nI p) ts0 kd0 nm0 er ep mr R) = fX9_token_0 (m + 1) (rst W (nI q) ts0 kd0 nm0 er ep mr R) := by
    intro ts0 kd0 nm0 er ep mr R
    unfold fX9_token
    exact t0 hX hW q2 (q - p) p bsF (by omega) (by unfold bsF; omega) hb
  have ref2 : ∀ (m : Nat) (ts0 kd0 nm0 er ep mr : Int32) (R : Nat → Int32), fX9_token_0 (m + 1) (rst W (nI q) ts0 kd0 nm0 er ep mr R) = if sn X e q = -1 then some (rst W (nI q) (nI q) 0 nm0 er ep mr R) else if isSm (sn X e q) = true then fX9_token_63 bsF (rst W (nI q) (nI q) kd0 nm0 er ep mr R) else if isDg (sn X e q) = true then fX9_token_128 bsF (rst W (nI q) (nI q) kd0 0 er ep mr R) else if sn X e q = 59 then some (rst W (nI (q + 1)) (nI q) 3 nm0 er ep mr R) else some (rst W (nI (q + 1)) (nI q) 4 nm0 er ep mr R) := by
    intro m ts0 kd0 nm0 er ep mr R
    have c10 : ¬ (1 : Int32) = 0 := by decide
    rw [fX9_token_0, r11, seen_r hX hW (by omega), Option.bind_some, if_neg hq]
    dsimp only
    rw [r11, rw12, r11, seen_r hX hW (by omega), Option.bind_some]
    dsimp only
    generalize sn X e q = c
    by_cases h0 : c = -1
    · rw [if_pos h0, if_pos h0, rw13]
    · rw [if_neg h0, if_neg h0, small_r, Option.bind_some]
      dsimp only
      cases h1 : isSm c
      · rw [b2_f, if_pos rfl, digit_r, Option.bind_some]
        dsimp only
        rw [if_neg (show ¬ false = true by decide)]
        cases h2 : isDg c
        · rw [b2_f, if_pos rfl, if_neg (show ¬ false = true by decide)]
          unfold fX9_token_232
          rw [rw13, r11, pu_succ, rw11, rw13, r11, pu_succ, rw11]
        · rw [b2_t, if_neg c10, if_pos rfl, rw14]
      · rw [b2_t, if_neg c10, if_pos rfl]
  have c47 := fun (kd0 te er ep : Int32) (mk : Nat → Int32) (Y : pY) => rt47 (X := X) (e := e) (q := q) (kd := kd0) (te := te) (er := er) (ep := ep) (mk := mk) (Y := Y) hX q2
  by_cases h0 : sn X e q = -1
  · have k0 : kdO (sn X e q) = 0 := by rw [h0]; decide
    refine ⟨0, 0, q, q, q1, Nat.le_refl q, q2, Or.inl ⟨rfl, rfl⟩, fun z => absurd rfl z, fun z => absurd z (by decide), ?_, ?_⟩
    · intro kd0 ts0 er ep mk Y; rw [cls, c47, k0, if_pos rfl]
    · intro ts0 kd0 nm0 er ep mr R
      obtain ⟨m, hm⟩ := ref ts0 kd0 nm0 er ep mr R
      exact ⟨nm0, by rw [hm, ref2, if_pos h0], fun z => absurd z (by decide)⟩
  · have hqe : q < e := by
      rcases Nat.lt_or_ge q e with z | z
      · exact z
      · exact absurd (sn_m1.mpr z) h0
    cases h1 : isSm (sn X e q)
    · cases h2 : isDg (sn X e q)
      · by_cases h3 : sn X e q = 59
        · have k4 : kdO (sn X e q) = 4 := by rw [h3]; decide
          refine ⟨4, 3, q, q + 1, q1, by omega, by omega, Or.inr (Or.inr (Or.inr (Or.inl ⟨rfl, rfl⟩))), fun _ => by omega, fun z => absurd z (by decide), ?_, ?_⟩
          · intro kd0 ts0 er ep mk Y
            obtain ⟨f, hf⟩ := bsF_5
            rw [cls, c47, k4, if_neg (by decide), if_neg (by decide), hf, fX4_readToken_115, if_pos rfl, rt158 (by omega) (by omega), if_neg (fun z => z.elim (fun y => absurd y.1 (by decide)) (fun y => absurd y.1 (by decide)))]
          · intro ts0 kd0 nm0 er ep mr R
            obtain ⟨m, hm⟩ := ref ts0 kd0 nm0 er ep mr R
            exact ⟨nm0, by rw [hm, ref2, if_neg h0, h1, if_neg (by decide), h2, if_neg (by decide), if_pos h3], fun z => absurd z (by decide)⟩
        · have k5 : kdO (sn X e q) = 5 := by
            unfold kdO; rw [if_neg h0, h1, if_neg (by decide), h2, if_neg (by decide), if_neg hq, if_neg h3]
          refine ⟨5, 4, q, q + 1, q1, by omega, by omega, Or.inr (Or.inr (Or.inr (Or.inr ⟨rfl, rfl⟩))), fun _ => by omega, fun z => absurd z (by decide), ?_, ?_⟩
          · intro kd0 ts0 er ep mk Y
            obtain ⟨f, hf⟩ := bsF_5
            rw [cls, c47, k5, if_neg (by decide), if_neg (by decide), hf, fX4_readToken_115, if_pos rfl, rt158 (by omega) (by omega), if_neg (fun z => z.elim (fun y => absurd y.1 (by decide)) (fun y => absurd y.1 (by decide)))]
          · intro ts0 kd0 nm0 er ep mr R
            obtain ⟨m, hm⟩ := ref ts0 kd0 nm0 er ep mr R
            exact ⟨nm0, by rw [hm, ref2, if_neg h0, h1, if_neg (by decide), h2, if_neg (by decide), if_neg h3], fun z => absurd z (by decide)⟩
      · have k3 : kdO (sn X e q) = 3 := kd3.mpr h2
        obtain ⟨r, s1, s2, s3, s4⟩ := run_ex (X := X) (e := e) isDg (by decide) (e - (q + 1)) (q + 1) (by omega)
        have hall : ∀ j, q + 0 ≤ j → j < r → isDg (sn X e j) = true := by
          intro j a b
          by_cases z : j = q
          · rw [z]; exact h2
          · exact s4 j (by omega) b
        have hcls : ∀ (kd0 ts0 er ep : Int32) (mk : Nat → Int32) (Y : pY), fX4_readToken (cst X kd0 ts0 (nI p) er ep mk Y) = some (cst X (if ((3 : Int32) = 2 ∧ 8 < r - q) ∨ ((3 : Int32) = 3 ∧ 2 < r - q) then 5 else 3) (nI q) (nI r) er ep mk Y) := by
          intro kd0 ts0 er ep mk Y
          rw [cls, c47, k3, if_neg (by decide), if_pos (Or.inr rfl), rt115 hX s2 (by decide) (fun z => by rw [kd3.mp z] at s3; exact absurd s3 (by decide)) (r - (q + 1)) (q + 1) bsF (by omega) (by unfold bsF; omega) (fun j a b => kd3.mpr (s4 j a b)), rt158 (by omega) (by omega)]
        have href : ∀ (ts0 kd0 nm0 er ep mr : Int32) (R : Nat → Int32), fX9_token (rst W (nI p) ts0 kd0 nm0 er ep mr R) = some (rst W (nI r) (nI q) (if r - q ≤ 2 then 2 else 4) (nmF X e q (r - q)) er ep mr R) := by
          intro ts0 kd0 nm0 er ep mr R
          obtain ⟨m, hm⟩ := ref ts0 kd0 nm0 er ep mr R
          rw [hm, ref2, if_neg h0, h1, if_neg (by decide), h2, if_pos rfl]
          exact t128 hX hW s2 s3 (r - q) 0 bsF (by omega) (by unfold bsF; omega) hall
        by_cases l : 2 < r - q
        · refine ⟨5, 4, q, r, q1, by omega, s2, Or.inr (Or.inr (Or.inr (Or.inr ⟨rfl, rfl⟩))), fun _ => by omega, fun z => absurd z (by decide), ?_, ?_⟩
          · intro kd0 ts0 er ep mk Y; rw [hcls, if_pos (Or.inr ⟨rfl, l⟩)]
          · intro ts0 kd0 nm0 er ep mr R
            exact ⟨_, by rw [href, if_neg (by omega)], fun z => absurd z (by decide)⟩
        · refine ⟨3, 2, q, r, q1, by omega, s2, Or.inr (Or.inr (Or.inl ⟨rfl, rfl⟩)), fun _ => by omega, fun _ => by omega, ?_, ?_⟩
          · intro kd0 ts0 er ep mk Y
            rw [hcls, if_neg (fun z => z.elim (fun y => absurd y.1 (by decide)) (fun y => l y.2))]
          · intro ts0 kd0 nm0 er ep mr R
            exact ⟨_, by rw [href, if_pos (by omega)], fun _ => rfl⟩
    · have k2 : kdO (sn X e q) = 2 := kd2.mpr h1
      obtain ⟨r, s1, s2, s3, s4⟩ := run_ex (X := X) (e := e) isSm (by decide) (e - (q + 1)) (q + 1) (by omega)
      have hall : ∀ j, q ≤ j → j < r → isSm (sn X e j) = true := by
        intro j a b
        by_cases z : j = q
        · rw [z]; exact h1
        · exact s4 j (by omega) b
      have hcls : ∀ (kd0 ts0 er ep : Int32) (mk : Nat → Int32) (Y : pY), fX4_readToken (cst X kd0 ts0 (nI p) er ep mk Y) = some (cst X (if ((2 : Int32) = 2 ∧ 8 < r - q) ∨ ((2 : Int32) = 3 ∧ 2 < r - q) then 5 else 2) (nI q) (nI r) er ep mk Y) := by
        intro kd0 ts0 er ep mk Y
        rw [cls, c47, k2, if_neg (by decide), if_pos (Or.inl rfl), rt115 hX s2 (by decide) (fun z => by rw [kd2.mp z] at s3; exact absurd s3 (by decide)) (r - (q + 1)) (q + 1) bsF (by omega) (by unfold bsF; omega) (fun j a b => kd2.mpr (s4 j a b)), rt158 (by omega) (by omega)]
      have href : ∀ (ts0 kd0 nm0 er ep mr : Int32) (R : Nat → Int32), fX9_token (rst W (nI p) ts0 kd0 nm0 er ep mr R) = some (rst W (nI r) (nI q) (if r - q ≤ 8 then 1 else 4) nm0 er ep mr R) := by
        intro ts0 kd0 nm0 er ep mr R
        obtain ⟨m, hm⟩ := ref ts0 kd0 nm0 er ep mr R
        rw [hm, ref2, if_neg h0, h1, if_pos rfl]
        exact t63 hX hW (by omega) s2 s3 (r - q) q bsF (by omega) (by unfold bsF; omega) hall
      by_cases l : 8 < r - q
      · refine ⟨5, 4, q, r, q1, by omega, s2, Or.inr (Or.inr (Or.inr (Or.inr ⟨rfl, rfl⟩))), fun _ => by omega, fun z => absurd z (by decide), ?_, ?_⟩
        · intro kd0 ts0 er ep mk Y; rw [hcls, if_pos (Or.inl ⟨rfl, l⟩)]
        · intro ts0 kd0 nm0 er ep mr R
          exact ⟨nm0, by rw [href, if_neg (by omega)], fun z => absurd z (by decide)⟩
      · refine ⟨2, 1, q, r, q1, by omega, s2, Or.inr (Or.inl ⟨rfl, rfl⟩), fun _ => by omega, fun z => absurd z (by decide), ?_, ?_⟩
        · intro kd0 ts0 er ep mk Y
          rw [hcls, if_neg (fun z => z.elim (fun y => l y.2) (fun y => absurd y.1 (by decide)))]
        · intro ts0 kd0 nm0 er ep mr R
          exact ⟨nm0, by rw [href, if_pos (by omega)], fun z => absurd z (by decide)⟩
