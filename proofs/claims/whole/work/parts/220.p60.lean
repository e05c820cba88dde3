/-! TEXTS: what is written, as a list of bytes -/
def txC (X : bsX) (L : List Int32) : bsX := fun a b c d => if a = 13 ∧ b = 2 ∧ c = 0 ∧ d = 1 then nI L.length else if a = 13 ∧ b = 8 ∧ c = 0 ∧ d < L.length then L.getD d 0 else X a b c d
def txR (W : bsX) (L : List Int32) : bsX := fun a b c d => if a = 14 ∧ b = 0 ∧ c = 0 ∧ d = 20 then nI L.length else if a = 14 ∧ b = 6 ∧ c = 0 ∧ d < L.length then L.getD d 0 else W a b c d
theorem by8_small : ∀ k, k < 128 → vp_nar .byte (nI k).toInt8.toInt32 = nI k := by decide +kernel
theorem ch8_small : ∀ k, k < 128 → ((nI k).toUInt32 % 65536).toInt32 = nI k := by decide +kernel
theorem by8_chr : ∀ t, t < 14 → ∀ k, k < bsSl.getD t 0 → vp_nar .byte (bsChr t k).toInt8.toInt32 = bsChr t k := by decide +kernel
theorem txC_len (X : bsX) (L : List Int32) : txC X L 13 2 0 1 = nI L.length := by unfold txC; rw [if_pos ⟨rfl, rfl, rfl, rfl⟩]
theorem txR_len (X : bsX) (L : List Int32) : txR X L 14 0 0 20 = nI L.length := by unfold txR; rw [if_pos ⟨rfl, rfl, rfl, rfl⟩]
theorem txC_g (X : bsX) (L : List Int32) {g : Nat} (h : g ≠ 13) : txC X L g = X g := by
  funext b c d; unfold txC; rw [if_neg (by omega), if_neg (by omega)]
theorem txR_g (X : bsX) (L : List Int32) {g : Nat} (h : g ≠ 14) : txR X L g = X g := by
  funext b c d; unfold txR; rw [if_neg (by omega), if_neg (by omega)]
theorem txR_1 (X : bsX) (L : List Int32) : txR X L 14 1 0 = X 14 1 0 := by
  funext d; unfold txR; rw [if_neg (by omega), if_neg (by omega)]
theorem getD_last (L : List Int32) (v : Int32) : (L ++ [v]).getD L.length 0 = v := by simp [b2_t, b2_f, up_at, up_up, up_id, List.getD_eq_getElem?_getD]
theorem getD_left {L M : List Int32} {d : Nat} (h : d < L.length) : (L ++ M).getD d 0 = L.getD d 0 := by
  rw [List.getD_eq_getElem?_getD, List.getD_eq_getElem?_getD, List.getElem?_append_left h]
theorem put_ok {X : bsX} {L : List Int32} {v : Int32} (hv : vp_nar .byte v.toInt8.toInt32 = v) (hL : L.length < 400) : fX7_put v (txC X L) = some (txC X (L ++ [v])) := by
  have r1 := txC_len X L
  have r2 : ∀ w, bsWr (txC X L) 13 8 0 L.length w 13 2 0 1 = nI L.length := by intro w; unfold bsWr; rw [if_neg (by omega)]; exact r1
  unfold fX7_put
  rw [r1, if_neg (pu_neg _ (by omega)), if_neg (fun q => by have := (pu_le 600 L.length (by omega) (by decide)).mp q; omega), if_pos ((pu_in _ 600 (by omega)).mpr (by omega)), pu_ix _ (by omega), r2, pu_succ, hv]
  congr 1
  funext a b c d
  unfold bsWr txC
  simp only [List.length_append, List.length_cons, List.length_nil, Nat.zero_add]
  by_cases e1 : a = 13 ∧ b = 2 ∧ c = 0 ∧ d = 1
  · rw [if_pos e1, if_pos e1]
  · simp only [e1, if_false]
    by_cases e2 : a = 13 ∧ b = 8 ∧ c = 0 ∧ d = L.length
    · rw [if_pos e2, if_pos (by omega), e2.2.2.2, getD_last]
    · rw [if_neg e2]
      by_cases e3 : a = 13 ∧ b = 8 ∧ c = 0 ∧ d < L.length
      · rw [if_pos e3, if_pos (by omega), getD_left e3.2.2.2]
      · rw [if_neg e3, if_neg (by omega)]
theorem says_ok {X : bsX} {L : List Int32} {v : Int32} (hL : L.length < 400) : fX9_says v (txR X L) = some (txR X (L ++ [v])) := by
  have r1 := txR_len X L
  have r2 : ∀ w, bsWr (txR X L) 14 6 0 L.length w 14 0 0 20 = nI L.length := by intro w; unfold bsWr; rw [if_neg (by omega)]; exact r1
  unfold fX9_says
  rw [r1, if_pos ((pu_in _ 400 (by omega)).mpr (by omega)), pu_ix _ (by omega), r2, pu_succ]
  congr 1
  funext a b c d
  unfold bsWr txR
  simp only [List.length_append, List.length_cons, List.length_nil, Nat.zero_add]
  by_cases e1 : a = 14 ∧ b = 0 ∧ c = 0 ∧ d = 20
  · rw [if_pos e1, if_pos e1]
  · simp only [e1, if_false]
    by_cases e2 : a = 14 ∧ b = 6 ∧ c = 0 ∧ d = L.length
    · rw [if_pos e2, if_pos (by omega), e2.2.2.2, getD_last]
    · rw [if_neg e2]
      by_cases e3 : a = 14 ∧ b = 6 ∧ c = 0 ∧ d < L.length
      · rw [if_pos e3, if_pos (by omega), getD_left e3.2.2.2]
      · rw [if_neg e3, if_neg (by omega)]
theorem txC_nil (X : bsX) : bsWr X 13 2 0 1 (0 : Int32) = txC X [] := by
  funext a b c d; unfold bsWr txC
  by_cases e1 : a = 13 ∧ b = 2 ∧ c = 0 ∧ d = 1
  · rw [if_pos e1, if_pos e1]; rfl
  · rw [if_neg e1, if_neg e1, if_neg (fun q => absurd q.2.2.2 (Nat.not_lt_zero _))]
theorem txR_nil (X : bsX) : bsWr X 14 0 0 20 (0 : Int32) = txR X [] := by
  funext a b c d; unfold bsWr txR
  by_cases e1 : a = 14 ∧ b = 0 ∧ c = 0 ∧ d = 20
  · rw [if_pos e1, if_pos e1]; rfl
  · rw [if_neg e1, if_neg e1, if_neg (fun q => absurd q.2.2.2 (Nat.not_lt_zero _))]
/-! numbers -/
theorem pu_mod10 (n : Nat) (h : n < 2147483648) : nI n - nI n / (10 : Int32) * (10 : Int32) = nI (n % 10) := by
  rw [show (10 : Int32) = nI 10 from rfl, pu_div n 10 h (by decide) (by decide), pu_mul, pu_sub _ _ (Nat.div_mul_le_self n 10)]
  congr 1; omega
def dgt (n p : Nat) : Int32 := nI (48 + n / p % 10)
def dg1 (n p : Nat) : List Int32 := if p ≤ n ∨ p = 1 then [dgt n p] else []
def dig (n : Nat) : List Int32 := dg1 n 1000 ++ dg1 n 100 ++ dg1 n 10 ++ dg1 n 1
theorem dg1_len (n p : Nat) : (dg1 n p).length ≤ 1 := by
  unfold dg1
  by_cases h : p ≤ n ∨ p = 1
  · rw [if_pos h]; exact Nat.le_refl 1
  · rw [if_neg h]; exact Nat.zero_le 1
theorem dig_len (n : Nat) : (dig n).length ≤ 4 := by
  have h1 := dg1_len n 1000
  have h2 := dg1_len n 100
  have h3 := dg1_len n 10
  have h4 := dg1_len n 1
  unfold dig
  simp only [List.length_append]
  omega
theorem dig_small {n : Nat} (h : n ≤ 99) : (dig n).length ≤ 2 := by
  have h3 := dg1_len n 10
  have h4 := dg1_len n 1
  unfold dig
  rw [show dg1 n 1000 = [] from if_neg (by omega), show dg1 n 100 = [] from if_neg (by omega)]
  simp only [List.length_append, List.length_nil]
  omega
theorem dig_1 {n : Nat} (h : n ≤ 9) : (dig n).length ≤ 1 := by
  have h4 := dg1_len n 1
  unfold dig
  rw [show dg1 n 1000 = [] from if_neg (by omega), show dg1 n 100 = [] from if_neg (by omega), show dg1 n 10 = [] from if_neg (by omega)]
  simp only [List.length_append, List.length_nil]
  omega
theorem numStep {X : bsX} {L : List Int32} {m n p : Nat} (hp : 0 < p) (hp2 : p ≤ 1000) (hn : n ≤ 9999) (hL : L.length < 400) :
    fX7_putNumber_4 (m + 1) (nI n) (nI p) (txC X L) = fX7_putNumber_4 m (nI n) (nI (p / 10)) (txC X (L ++ dg1 n p)) := by
  have e0 : ¬ nI p ≤ (0 : Int32) := fun q => by have := (pu_le p 0 (by decide) (by omega)).mp q; omega
  have e1 : ¬ nI p = 0 := fun q => by have := (pu_eq p 0 (by decide) (by omega)).mp q; omega
  have hd : nI n / nI p = nI (n / p) := pu_div n p (by omega) hp (by omega)
  have hq : n / p < 2147483648 := Nat.lt_of_le_of_lt (Nat.div_le_self n p) (by omega)
  have h10 : nI p / (10 : Int32) = nI (p / 10) := pu_div p 10 (by omega) (by decide) (by decide)
  have hk : 48 + n / p % 10 < 128 := by omega
  have hch : ((((48 : Int32) + ((nI n / nI p) - (nI n / nI p) / (10 : Int32) * (10 : Int32))).toUInt32 % 65536).toInt32) = dgt n p := by
    rw [hd, pu_mod10 _ hq, show (48 : Int32) = nI 48 from rfl, pu_add, ch8_small _ hk]; rfl
  have hput : fX7_putNumber_18 (fX7_putNumber_4 m) (nI n) (nI p) (txC X L) = fX7_putNumber_4 m (nI n) (nI (p / 10)) (txC X (L ++ [dgt n p])) := by
    unfold fX7_putNumber_18 fX7_putNumber_32
    rw [if_pos e1, hch, put_ok (show vp_nar .byte (dgt n p).toInt8.toInt32 = dgt n p from by8_small _ hk) hL, Option.bind_some, h10]
  rw [fX7_putNumber_4, if_neg e0]
  unfold dg1
  by_cases c1 : p ≤ n
  · rw [if_pos ((pu_le p n (by omega) (by omega)).mpr c1), if_pos (Or.inl c1)]
    exact hput
  · rw [if_neg (fun q => c1 ((pu_le p n (by omega) (by omega)).mp q))]
    by_cases c2 : p = 1
    · rw [if_pos (show nI p = (1 : Int32) by rw [c2]; rfl), if_pos (Or.inr c2)]
      exact hput
    · rw [if_neg (show ¬ nI p = (1 : Int32) from fun q => c2 ((pu_eq p 1 (by decide) (by omega)).mp q)), if_neg (fun q => q.elim c1 c2), List.append_nil]
      unfold fX7_putNumber_32
      rw [h10]
theorem bsF_5 : ∃ f, bsF = f + 5 := ⟨bsF - 5, by unfold bsF; omega⟩
theorem num_ok {X : bsX} {L : List Int32} {n : Nat} (hn : n ≤ 9999) (hL : L.length + 4 ≤ 400) : fX7_putNumber (nI n) (txC X L) = some (txC X (L ++ dig n)) := by
  have h1 := dg1_len n 1000
  have h2 := dg1_len n 100
  have h3 := dg1_len n 10
  have h4 := dg1_len n 1
  obtain ⟨f, hf⟩ := bsF_5
  unfold fX7_putNumber
  rw [hf, show (1000 : Int32) = nI 1000 from rfl, numStep (by omega) (by omega) hn (by omega), show 1000 / 10 = 100 from rfl,
    numStep (by omega) (by omega) hn (by simp only [List.length_append]; omega), show 100 / 10 = 10 from rfl,
    numStep (by omega) (by omega) hn (by simp only [List.length_append]; omega), show 10 / 10 = 1 from rfl,
    numStep (by omega) (by omega) hn (by simp only [List.length_append]; omega), show 1 / 10 = 0 from rfl,
    fX7_putNumber_4, if_pos (show nI 0 ≤ (0 : Int32) by decide)]
  unfold dig
  simp only [List.append_assoc]
theorem sayStep {X : bsX} {L : List Int32} {m n p : Nat} (hp : 0 < p) (hp2 : p ≤ 1000) (hn : n ≤ 9999) (hL : L.length < 400) :
    fX9_saysNumber_18 (m + 1) (nI n) (nI p) (txR X L) = fX9_saysNumber_18 m (nI n) (nI (p / 10)) (txR X (L ++ [dgt n p])) := by
  have e0 : ¬ nI p ≤ (0 : Int32) := fun q => by have := (pu_le p 0 (by decide) (by omega)).mp q; omega
  have e1 : ¬ nI p = 0 := fun q => by have := (pu_eq p 0 (by decide) (by omega)).mp q; omega
  have hd : nI n / nI p = nI (n / p) := pu_div n p (by omega) hp (by omega)
  have hq : n / p < 2147483648 := Nat.lt_of_le_of_lt (Nat.div_le_self n p) (by omega)
  have h10 : nI p / (10 : Int32) = nI (p / 10) := pu_div p 10 (by omega) (by decide) (by decide)
  have hch : (48 : Int32) + ((nI n / nI p) - (nI n / nI p) / (10 : Int32) * (10 : Int32)) = dgt n p := by
    rw [hd, pu_mod10 _ hq, show (48 : Int32) = nI 48 from rfl, pu_add]; rfl
  rw [fX9_saysNumber_18, if_neg e0, if_pos e1, hch, says_ok hL, Option.bind_some, h10]
theorem sayStop {X : bsX} {m n : Nat} : fX9_saysNumber_18 (m + 1) (nI n) (nI 0) X = some X := by
  rw [fX9_saysNumber_18, if_pos (show nI 0 ≤ (0 : Int32) by decide)]
theorem sayFind {X : bsX} {m n p : Nat} (hp : 0 < p) (hp2 : p ≤ 1000) (hn : n ≤ 9999) : fX9_saysNumber_2 (m + 1) (nI n) (nI p) X = if n / p ≤ 9 then fX9_saysNumber_18 bsF (nI n) (nI p) X else fX9_saysNumber_2 m (nI n) (nI (p * 10)) X := by
  have e1 : ¬ nI p = 0 := fun q => by have := (pu_eq p 0 (by decide) (by omega)).mp q; omega
  have hd : nI n / nI p = nI (n / p) := pu_div n p (by omega) hp (by omega)
  have hq : n / p < 2147483648 := Nat.lt_of_le_of_lt (Nat.div_le_self n p) (by omega)
  rw [fX9_saysNumber_2, if_pos e1, hd, show (10 : Int32) = nI 10 from rfl, pu_mul]
  by_cases c : n / p ≤ 9
  · rw [if_pos (show nI (n / p) ≤ (9 : Int32) from (pu_le (n / p) 9 (by decide) hq).mpr c), if_pos c]
  · rw [if_neg (show ¬ nI (n / p) ≤ (9 : Int32) from fun q => c ((pu_le (n / p) 9 (by decide) hq).mp q)), if_neg c]
theorem sayNum_ok {X : bsX} {L : List Int32} {n : Nat} (hn : n ≤ 9999) (hL : L.length + 4 ≤ 400) : fX9_saysNumber (nI n) (txR X L) = some (txR X (L ++ dig n)) := by
  obtain ⟨f, hf⟩ := bsF_5
  have s1 : ∀ M : List Int32, M.length < 400 → fX9_saysNumber_18 (f + 5) (nI n) (nI 1) (txR X M) = some (txR X (M ++ [dgt n 1])) := by
    intro M hM
    rw [sayStep (by omega) (by omega) hn hM, show 1 / 10 = 0 from rfl, sayStop]
  have s2 : ∀ M : List Int32, M.length + 1 < 400 → fX9_saysNumber_18 (f + 5) (nI n) (nI 10) (txR X M) = some (txR X (M ++ [dgt n 10] ++ [dgt n 1])) := by
    intro M hM
    rw [sayStep (by omega) (by omega) hn (by omega), show 10 / 10 = 1 from rfl, sayStep (by omega) (by omega) hn (by simp only [List.length_append, List.length_cons, List.length_nil]; omega), show 1 / 10 = 0 from rfl, sayStop]
  have s3 : ∀ M : List Int32, M.length + 2 < 400 → fX9_saysNumber_18 (f + 5) (nI n) (nI 100) (txR X M) = some (txR X (M ++ [dgt n 100] ++ [dgt n 10] ++ [dgt n 1])) := by
    intro M hM
    rw [sayStep (by omega) (by omega) hn (by omega), show 100 / 10 = 10 from rfl, sayStep (by omega) (by omega) hn (by simp only [List.length_append, List.length_cons, List.length_nil]; omega), show 10 / 10 = 1 from rfl, sayStep (by omega) (by omega) hn (by simp only [List.length_append, List.length_cons, List.length_nil]; omega), show 1 / 10 = 0 from rfl, sayStop]
  have s4 : ∀ M : List Int32, M.length + 3 < 400 → fX9_saysNumber_18 (f + 5) (nI n) (nI 1000) (txR X M) = some (txR X (M ++ [dgt n 1000] ++ [dgt n 100] ++ [dgt n 10] ++ [dgt n 1])) := by
    intro M hM
    rw [sayStep (by omega) (by omega) hn (by omega), show 1000 / 10 = 100 from rfl, sayStep (by omega) (by omega) hn (by simp only [List.length_append, List.length_cons, List.length_nil]; omega), show 100 / 10 = 10 from rfl, sayStep (by omega) (by omega) hn (by simp only [List.length_append, List.length_cons, List.length_nil]; omega), show 10 / 10 = 1 from rfl, sayStep (by omega) (by omega) hn (by simp only [List.length_append, List.length_cons, List.length_nil]; omega), show 1 / 10 = 0 from rfl, sayStop]
  have f2 : ∀ k M, fX9_saysNumber_2 (k + 4) (nI n) (nI 1) (txR X M) = if n / 1 ≤ 9 then fX9_saysNumber_18 bsF (nI n) (nI 1) (txR X M) else if n / 10 ≤ 9 then fX9_saysNumber_18 bsF (nI n) (nI 10) (txR X M) else if n / 100 ≤ 9 then fX9_saysNumber_18 bsF (nI n) (nI 100) (txR X M) else fX9_saysNumber_18 bsF (nI n) (nI 1000) (txR X M) := by
    intro k M
    rw [sayFind (by omega) (by omega) hn, show 1 * 10 = 10 from rfl, sayFind (by omega) (by omega) hn, show 10 * 10 = 100 from rfl, sayFind (by omega) (by omega) hn, show 100 * 10 = 1000 from rfl, sayFind (by omega) (by omega) hn]
    rw [if_pos (show n / 1000 ≤ 9 by omega)]
  unfold fX9_saysNumber
  rw [show (1 : Int32) = nI 1 from rfl, show fX9_saysNumber_2 bsF = fX9_saysNumber_2 (f + 1 + 4) by rw [hf], f2, hf]
  by_cases c1 : n / 1 ≤ 9
  · rw [if_pos c1, s1 L (by omega)]
    unfold dig
    rw [show dg1 n 1000 = [] from if_neg (by omega), show dg1 n 100 = [] from if_neg (by omega), show dg1 n 10 = [] from if_neg (by omega), show dg1 n 1 = [dgt n 1] from if_pos (Or.inr rfl)]
    rfl
  · rw [if_neg c1]
    by_cases c2 : n / 10 ≤ 9
    · rw [if_pos c2, s2 L (by omega)]
      unfold dig
      rw [show dg1 n 1000 = [] from if_neg (by omega), show dg1 n 100 = [] from if_neg (by omega), show dg1 n 10 = [dgt n 10] from if_pos (by omega), show dg1 n 1 = [dgt n 1] from if_pos (Or.inr rfl)]
      simp only [List.append_assoc, List.nil_append]
    · rw [if_neg c2]
      by_cases c3 : n / 100 ≤ 9
      · rw [if_pos c3, s3 L (by omega)]
        unfold dig
        rw [show dg1 n 1000 = [] from if_neg (by omega), show dg1 n 100 = [dgt n 100] from if_pos (by omega), show dg1 n 10 = [dgt n 10] from if_pos (by omega), show dg1 n 1 = [dgt n 1] from if_pos (Or.inr rfl)]
        simp only [List.append_assoc, List.nil_append]
      · rw [if_neg c3, s4 L (by omega)]
        unfold dig
        rw [show dg1 n 1000 = [dgt n 1000] from if_pos (by omega), show dg1 n 100 = [dgt n 100] from if_pos (by omega), show dg1 n 10 = [dgt n 10] from if_pos (by omega), show dg1 n 1 = [dgt n 1] from if_pos (Or.inr rfl)]
        simp only [List.append_assoc]
/-! words -/
def wdL (t : Nat) : Nat → Nat → List Int32
  | 0, _ => []
  | d + 1, i => bsChr t i :: wdL t d (i + 1)
theorem wdL_len (t : Nat) : ∀ d i, (wdL t d i).length = d := by
  intro d
  induction d with
  | zero => intro i; rfl
  | succ d ih => intro i; simp only [wdL, List.length_cons, ih]
def wrd (t : Nat) : List Int32 := wdL t (bsSl.getD t 0) 0
theorem wrd_len (t : Nat) : (wrd t).length = bsSl.getD t 0 := wdL_len t _ 0
theorem sl_9 : ∀ t, bsSl.getD t 0 ≤ 9 := by
  intro t
  by_cases h : t < 14
  · have : ∀ t, t < 14 → bsSl.getD t 0 ≤ 9 := by decide
    exact this t h
  · have : bsSl.getD t 0 = 0 := by
      rw [List.getD_eq_getElem?_getD, List.getElem?_eq_none (by show bsSl.length ≤ t; have : bsSl.length = 14 := rfl; omega)]; rfl
    omega
theorem word_loop {X : bsX} {t : Nat} (ht : t < 14) : ∀ (d i f : Nat) (L : List Int32), i + d = bsSl.getD t 0 → d < f → L.length + d ≤ 400 → fX7_putWord_2 t f (nI i) (txC X L) = some (txC X (L ++ wdL t d i)) := by
  have h9 := sl_9 t
  intro d
  induction d with
  | zero =>
    intro i f L hi hf hL
    obtain ⟨f, rfl⟩ : ∃ z, f = z + 1 := ⟨f - 1, by omega⟩
    rw [fX7_putWord_2, if_pos (show bsLen t ≤ nI i from (pu_le (bsSl.getD t 0) i (by omega) (by omega)).mpr (by omega)), wdL, List.append_nil]
  | succ d ih =>
    intro i f L hi hf hL
    obtain ⟨f, rfl⟩ : ∃ z, f = z + 1 := ⟨f - 1, by omega⟩
    rw [fX7_putWord_2, if_neg (show ¬ bsLen t ≤ nI i from fun q => by have := (pu_le (bsSl.getD t 0) i (by omega) (by omega)).mp q; omega), if_pos ((pu_in i _ (by omega)).mpr (by omega)), pu_ix i (by omega), put_ok (by8_chr t ht i (by omega)) (by omega), Option.bind_some, pu_succ, ih (i + 1) f _ (by omega) (by omega) (by simp only [List.length_append, List.length_cons, List.length_nil]; omega), wdL]
    simp only [List.append_assoc, List.singleton_append]
theorem word_ok {X : bsX} {t : Nat} {L : List Int32} (ht : t < 14) (hL : L.length + 9 ≤ 400) : fX7_putWord t (txC X L) = some (txC X (L ++ wrd t)) := by
  have h9 := sl_9 t
  unfold fX7_putWord
  exact word_loop ht (bsSl.getD t 0) 0 bsF L (by omega) (by unfold bsF; omega) (by omega)
theorem say_loop {X : bsX} {t : Nat} : ∀ (d i f : Nat) (L : List Int32), i + d = bsSl.getD t 0 → d < f → L.length + d ≤ 400 → fX9_saysWord_2 t f (nI i) (txR X L) = some (txR X (L ++ wdL t d i)) := by
  have h9 := sl_9 t
  intro d
  induction d with
  | zero =>
    intro i f L hi hf hL
    obtain ⟨f, rfl⟩ : ∃ z, f = z + 1 := ⟨f - 1, by omega⟩
    rw [fX9_saysWord_2, if_pos (show bsLen t ≤ nI i from (pu_le (bsSl.getD t 0) i (by omega) (by omega)).mpr (by omega)), wdL, List.append_nil]
  | succ d ih =>
    intro i f L hi hf hL
    obtain ⟨f, rfl⟩ : ∃ z, f = z + 1 := ⟨f - 1, by omega⟩
    rw [fX9_saysWord_2, if_neg (show ¬ bsLen t ≤ nI i from fun q => by have := (pu_le (bsSl.getD t 0) i (by omega) (by omega)).mp q; omega), if_pos ((pu_in i _ (by omega)).mpr (by omega)), pu_ix i (by omega), says_ok (by omega), Option.bind_some, pu_succ, ih (i + 1) f _ (by omega) (by omega) (by simp only [List.length_append, List.length_cons, List.length_nil]; omega), wdL]
    simp only [List.append_assoc, List.singleton_append]
theorem sayWord_ok {X : bsX} {t : Nat} {L : List Int32} (hL : L.length + 9 ≤ 400) : fX9_saysWord t (txR X L) = some (txR X (L ++ wrd t)) := by
  have h9 := sl_9 t
  unfold fX9_saysWord
  exact say_loop (bsSl.getD t 0) 0 bsF L (by omega) (by unfold bsF; omega) (by omega)
