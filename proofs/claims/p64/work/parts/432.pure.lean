/-! TEXTS: the class writes them (whole's lemmas) -/
def txC (X : bsX) (L : List Int32) : bsX := fun a b c d => if a = 13 ∧ b = 2 ∧ c = 0 ∧ d = 1 then nI L.length else if a = 13 ∧ b = 8 ∧ c = 0 ∧ d < L.length then L.getD d 0 else X a b c d
theorem by8_small : ∀ k, k < 128 → vp_nar .byte (nI k).toInt8.toInt32 = nI k := by decide +kernel
theorem ch8_small : ∀ k, k < 128 → ((nI k).toUInt32 % 65536).toInt32 = nI k := by decide +kernel
theorem by8_chr : ∀ t, t < 14 → ∀ k, k < bsSl.getD t 0 → vp_nar .byte (bsChr t k).toInt8.toInt32 = bsChr t k := by decide +kernel
theorem txC_len (X : bsX) (L : List Int32) : txC X L 13 2 0 1 = nI L.length := by unfold txC; rw [if_pos ⟨rfl, rfl, rfl, rfl⟩]
theorem txC_g (X : bsX) (L : List Int32) {g : Nat} (h : g ≠ 13) : txC X L g = X g := by
  funext b c d; unfold txC; rw [if_neg (by omega), if_neg (by omega)]
theorem getD_last (L : List Int32) (v : Int32) : (L ++ [v]).getD L.length 0 = v := by simp [b2_t, b2_f, up_at, up_up, up_id, List.getD_eq_getElem?_getD]
theorem getD_left {L M : List Int32} {d : Nat} (h : d < L.length) : (L ++ M).getD d 0 = L.getD d 0 := by
  rw [List.getD_eq_getElem?_getD, List.getD_eq_getElem?_getD, List.getElem?_append_left h]
theorem put_ok {X : bsX} {L : List Int32} {v : Int32} (hv : vp_nar .byte v.toInt8.toInt32 = v) (hL : L.length < 400) : fX7_put v (txC X L) = some (txC X (L ++ [v])) := by
  have r1 := txC_len X L
  have r2 : ∀ w, bsWr (txC X L) 13 8 0 L.length w 13 2 0 1 = nI L.length := by intro w; unfold bsWr; rw [if_neg (by omega)]; exact r1
  unfold fX7_put
  rw [r1, if_neg (pu_neg _ (by omega)), if_neg (fun q => by have := (pu_le 600 L.length (by omega) (by decide)).mp q; omega), if_pos ((pu_in _ 600 (by omega)).mpr (by omega)), pu_ix _ (by omega), r2, pu_succ, hv]
  congr 1
  funext a b c d
  unfold bsWr txC
  simp only [List.length_append, List.length_cons, List.length_nil, Nat.zero_add]
  by_cases e1 : a = 13 ∧ b = 2 ∧ c = 0 ∧ d = 1
  · rw [if_pos e1, if_pos e1]
  · simp only [e1, if_false]
    by_cases e2 : a = 13 ∧ b = 8 ∧ c = 0 ∧ d = L.length
    · rw [if_pos e2, if_pos (by omega), e2.2.2.2, getD_last]
    · rw [if_neg e2]
      by_cases e3 : a = 13 ∧ b = 8 ∧ c = 0 ∧ d < L.length
      · rw [if_pos e3, if_pos (by omega), getD_left e3.2.2.2]
      · rw [if_neg e3, if_neg (by omega)]
theorem txC_nil (X : bsX) : bsWr X 13 2 0 1 (0 : Int32) = txC X [] := by
  funext a b c d; unfold bsWr txC
  by_cases e1 : a = 13 ∧ b = 2 ∧ c = 0 ∧ d = 1
  · rw [if_pos e1, if_pos e1]; rfl
  · rw [if_neg e1, if_neg e1, if_neg (fun q => absurd q.2.2.2 (Nat.not_lt_zero _))]
theorem pu_mod10 (n : Nat) (h : n < 2147483648) : nI n - nI n / (10 : Int32) * (10 : Int32) = nI (n % 10) := by
  rw [show (10 : Int32) = nI 10 from rfl, pu_div n 10 h (by decide) (by decide), pu_mul, pu_sub _ _ (Nat.div_mul_le_self n 10)]
  congr 1; omega
def dgt (n p : Nat) : Int32 := nI (48 + n / p % 10)
def dg1 (n p : Nat) : List Int32 := if p ≤ n ∨ p = 1 then [dgt n p] else []
def dig (n : Nat) : List Int32 := dg1 n 1000 ++ dg1 n 100 ++ dg1 n 10 ++ dg1 n 1
theorem dg1_len (n p : Nat) : (dg1 n p).length ≤ 1 := by
  unfold dg1
  by_cases h : p ≤ n ∨ p = 1
  · rw [if_pos h]; exact Nat.le_refl 1
  · rw [if_neg h]; exact Nat.zero_le 1
theorem dig_len (n : Nat) : (dig n).length ≤ 4 := by
  have h1 := dg1_len n 1000
  have h2 := dg1_len n 100
  have h3 := dg1_len n 10
  have h4 := dg1_len n 1
  unfold dig
  simp only [List.length_append]
  omega
theorem dig_small {n : Nat} (h : n ≤ 99) : (dig n).length ≤ 2 := by
  have h3 := dg1_len n 10
  have h4 := dg1_len n 1
  unfold dig
  rw [show dg1 n 1000 = [] from if_neg (by omega), show dg1 n 100 = [] from if_neg (by omega)]
  simp only [List.length_append, List.length_nil]
  omega
theorem dig_1 {n : Nat} (h : n ≤ 9) : (dig n).length ≤ 1 := by
  have h4 := dg1_len n 1
  unfold dig
  rw [show dg1 n 1000 = [] from if_neg (by omega), show dg1 n 100 = [] from if_neg (by omega), show dg1 n 10 = [] from if_neg (by omega)]
  simp only [List.length_append, List.length_nil]
  omega
theorem numStep {X : bsX} {L : List Int32} {m n p : Nat} (hp : 0 < p) (hp2 : p ≤ 1000) (hn : n ≤ 9999) (hL : L.length < 400) :
    fX7_putNumber_4 (m + 1) (nI n) (nI p) (txC X L) = fX7_putNumber_4 m (nI n) (nI (p / 10)) (txC X (L ++ dg1 n p)) := by
  have e0 : ¬ nI p ≤ (0 : Int32) := fun q => by have := (pu_le p 0 (by decide) (by omega)).mp q; omega
  have e1 : ¬ nI p = 0 := fun q => by have := (pu_eq p 0 (by decide) (by omega)).mp q; omega
  have hd : nI n / nI p = nI (n / p) := pu_div n p (by omega) hp (by omega)
  have hq : n / p < 2147483648 := Nat.lt_of_le_of_lt (Nat.div_le_self n p) (by omega)
  have h10 : nI p / (10 : Int32) = nI (p / 10) := pu_div p 10 (by omega) (by decide) (by decide)
  have hk : 48 + n / p % 10 < 128 := by omega
  have hch : ((((48 : Int32) + ((nI n / nI p) - (nI n / nI p) / (10 : Int32) * (10 : Int32))).toUInt32 % 65536).toInt32) = dgt n p := by
    rw [hd, pu_mod10 _ hq, show (48 : Int32) = nI 48 from rfl, pu_add, ch8_small _ hk]; rfl
  have hput : fX7_putNumber_18 (fX7_putNumber_4 m) (nI n) (nI p) (txC X L) = fX7_putNumber_4 m (nI n) (nI (p / 10)) (txC X (L ++ [dgt n p])) := by
    unfold fX7_putNumber_18 fX7_putNumber_32
    rw [if_pos e1, hch, put_ok (show vp_nar .byte (dgt n p).toInt8.toInt32 = dgt n p from by8_small _ hk) hL, Option.bind_some, h10]
  rw [fX7_putNumber_4, if_neg e0]
  unfold dg1
  by_cases c1 : p ≤ n
  · rw [if_pos ((pu_le p n (by omega) (by omega)).mpr c1), if_pos (Or.inl c1)]
    exact hput
  · rw [if_neg (fun q => c1 ((pu_le p n (by omega) (by omega)).mp q))]
    by_cases c2 : p = 1
    · rw [if_pos (show nI p = (1 : Int32) by rw [c2]; rfl), if_pos (Or.inr c2)]
      exact hput
    · rw [if_neg (show ¬ nI p = (1 : Int32) from fun q => c2 ((pu_eq p 1 (by decide) (by omega)).mp q)), if_neg (fun q => q.elim c1 c2), List.append_nil]
      unfold fX7_putNumber_32
      rw [h10]
theorem bsF_5 : ∃ f, bsF = f + 5 := ⟨bsF - 5, by unfold bsF; omega⟩
theorem num_ok {X : bsX} {L : List Int32} {n : Nat} (hn : n ≤ 9999) (hL : L.length + 4 ≤ 400) : fX7_putNumber (nI n) (txC X L) = some (txC X (L ++ dig n)) := by
  have h1 := dg1_len n 1000
  have h2 := dg1_len n 100
  have h3 := dg1_len n 10
  have h4 := dg1_len n 1
  obtain ⟨f, hf⟩ := bsF_5
  unfold fX7_putNumber
  rw [hf, show (1000 : Int32) = nI 1000 from rfl, numStep (by omega) (by omega) hn (by omega), show 1000 / 10 = 100 from rfl,
    numStep (by omega) (by omega) hn (by simp only [List.length_append]; omega), show 100 / 10 = 10 from rfl,
    numStep (by omega) (by omega) hn (by simp only [List.length_append]; omega), show 10 / 10 = 1 from rfl,
    numStep (by omega) (by omega) hn (by simp only [List.length_append]; omega), show 1 / 10 = 0 from rfl,
    fX7_putNumber_4, if_pos (show nI 0 ≤ (0 : Int32) by decide)]
  unfold dig
  simp only [List.append_assoc]
def wdL (t : Nat) : Nat → Nat → List Int32
  | 0, _ => []
  | d + 1, i => bsChr t i :: wdL t d (i + 1)
theorem wdL_len (t : Nat) : ∀ d i, (wdL t d i).length = d := by
  intro d
  induction d with
  | zero => intro i; rfl
  | succ d ih => intro i; simp only [wdL, List.length_cons, ih]
def wrd (t : Nat) : List Int32 := wdL t (bsSl.getD t 0) 0
theorem wrd_len (t : Nat) : (wrd t).length = bsSl.getD t 0 := wdL_len t _ 0
theorem sl_9 : ∀ t, bsSl.getD t 0 ≤ 9 := by
  intro t
  by_cases h : t < 22
  · have : ∀ t, t < 22 → bsSl.getD t 0 ≤ 9 := by decide
    exact this t h
  · have : bsSl.getD t 0 = 0 := by
      rw [List.getD_eq_getElem?_getD, List.getElem?_eq_none (by show bsSl.length ≤ t; have : bsSl.length = 22 := rfl; omega)]; rfl
    omega
theorem word_loop {X : bsX} {t : Nat} (ht : t < 14) : ∀ (d i f : Nat) (L : List Int32), i + d = bsSl.getD t 0 → d < f → L.length + d ≤ 400 → fX7_putWord_2 t f (nI i) (txC X L) = some (txC X (L ++ wdL t d i)) := by
  have h9 := sl_9 t
  intro d
  induction d with
  | zero =>
    intro i f L hi hf hL
    obtain ⟨f, rfl⟩ : ∃ z, f = z + 1 := ⟨f - 1, by omega⟩
    rw [fX7_putWord_2, if_pos (show bsLen t ≤ nI i from (pu_le (bsSl.getD t 0) i (by omega) (by omega)).mpr (by omega)), wdL, List.append_nil]
  | succ d ih =>
    intro i f L hi hf hL
    obtain ⟨f, rfl⟩ : ∃ z, f = z + 1 := ⟨f - 1, by omega⟩
    rw [fX7_putWord_2, if_neg (show ¬ bsLen t ≤ nI i from fun q => by have := (pu_le (bsSl.getD t 0) i (by omega) (by omega)).mp q; omega), if_pos ((pu_in i _ (by omega)).mpr (by omega)), pu_ix i (by omega), put_ok (by8_chr t ht i (by omega)) (by omega), Option.bind_some, pu_succ, ih (i + 1) f _ (by omega) (by omega) (by simp only [List.length_append, List.length_cons, List.length_nil]; omega), wdL]
    simp only [List.append_assoc, List.singleton_append]
theorem word_ok {X : bsX} {t : Nat} {L : List Int32} (ht : t < 14) (hL : L.length + 9 ≤ 400) : fX7_putWord t (txC X L) = some (txC X (L ++ wrd t)) := by
  have h9 := sl_9 t
  unfold fX7_putWord
  exact word_loop ht (bsSl.getD t 0) 0 bsF L (by omega) (by unfold bsF; omega) (by omega)
def dgV (v : Int32) : List Int32 := dig (bsIx v)
theorem dgV_n {n : Nat} (h : n < 2147483648) : dgV (nI n) = dig n := by unfold dgV; rw [pu_ix n h]
def wSlot (Y : pY) (k : Nat) : List Int32 := if Y 6 k 0 = 0 then [45] else ((((((dgV (Y 6 k 1) ++ [58]) ++ dgV (Y 5 k 2)) ++ [47]) ++ dgV (Y 5 k 3)) ++ (if Y 5 k 4 = 0 then [] else [33])) ++ (if nI k = Y 0 0 11 then [42] else []))
theorem b45 : vp_nar .byte (45 : Int32).toInt8.toInt32 = 45 := by8_small 45 (by decide)
theorem b58 : vp_nar .byte (58 : Int32).toInt8.toInt32 = 58 := by8_small 58 (by decide)
theorem b47 : vp_nar .byte (47 : Int32).toInt8.toInt32 = 47 := by8_small 47 (by decide)
theorem b33 : vp_nar .byte (33 : Int32).toInt8.toInt32 = 33 := by8_small 33 (by decide)
theorem b42 : vp_nar .byte (42 : Int32).toInt8.toInt32 = 42 := by8_small 42 (by decide)
theorem b32 : vp_nar .byte (32 : Int32).toInt8.toInt32 = 32 := by8_small 32 (by decide)
theorem b114 : vp_nar .byte (114 : Int32).toInt8.toInt32 = 114 := by8_small 114 (by decide)
theorem wSlot_len {Y : pY} {k : Nat} (hs : wS Y k) : (wSlot Y k).length ≤ 19 := by
  obtain ⟨v, _, v1, v2⟩ := hs.2.2.2.2.2.2.1
  obtain ⟨p, _, p1, p2⟩ := hs.2.2.2.2.1
  obtain ⟨r, _, r1, r2⟩ := hs.2.2.2.2.2.1
  have d1 := dig_len v
  have d2 := dig_len p
  have d3 := dig_len r
  unfold wSlot
  rw [v2, p2, r2, dgV_n (by omega), dgV_n (by omega), dgV_n (by omega)]
  by_cases h0 : Y 6 k 0 = 0
  · rw [if_pos h0]; decide
  · rw [if_neg h0]
    by_cases h1 : Y 5 k 4 = 0
    · rw [if_pos h1]
      by_cases h2 : nI k = Y 0 0 11
      · rw [if_pos h2]; simp only [List.length_append, List.length_cons, List.length_nil]; omega
      · rw [if_neg h2]; simp only [List.length_append, List.length_cons, List.length_nil]; omega
    · rw [if_neg h1]
      by_cases h2 : nI k = Y 0 0 11
      · rw [if_pos h2]; simp only [List.length_append, List.length_cons, List.length_nil]; omega
      · rw [if_neg h2]; simp only [List.length_append, List.length_cons, List.length_nil]; omega
theorem slot_c {X : bsX} {k : Nat} {L : List Int32} (hs : wS (X 0) k) (hL : L.length + 20 ≤ 400) : fX8_writeSlot k (txC X L) = some (txC X (L ++ wSlot (X 0) k)) := by
  obtain ⟨v, _, v1, v2⟩ := hs.2.2.2.2.2.2.1
  obtain ⟨p, _, p1, p2⟩ := hs.2.2.2.2.1
  obtain ⟨r, _, r1, r2⟩ := hs.2.2.2.2.2.1
  have d1 := dig_len v
  have d2 := dig_len p
  have d3 := dig_len r
  have g0 : ∀ M, txC X M 0 = X 0 := fun M => txC_g _ _ (by decide)
  unfold fX8_writeSlot wSlot
  by_cases h0 : X 0 6 k 0 = 0
  · rw [g0, if_pos h0, if_pos h0, put_ok b45 (by omega), Option.bind_some]
  · rw [g0, if_neg h0, if_neg h0, v2, num_ok (by omega) (by omega), Option.bind_some, put_ok b58 (by simp only [List.length_append, List.length_cons, List.length_nil]; omega), Option.bind_some, g0, p2, num_ok (by omega) (by simp only [List.length_append, List.length_cons, List.length_nil]; omega), Option.bind_some, put_ok b47 (by simp only [List.length_append, List.length_cons, List.length_nil]; omega), Option.bind_some, g0, r2, num_ok (by omega) (by simp only [List.length_append, List.length_cons, List.length_nil]; omega), Option.bind_some, g0, dgV_n (by omega), dgV_n (by omega), dgV_n (by omega)]
    unfold fX8_writeSlot_90
    by_cases h1 : X 0 5 k 4 = 0
    · rw [if_pos h1, if_pos h1, g0]
      by_cases h2 : nI k = X 0 0 0 11
      · rw [if_pos h2, if_pos h2, put_ok b42 (by simp only [List.length_append, List.length_cons, List.length_nil]; omega), Option.bind_some]
        simp only [List.append_assoc, List.append_nil, List.nil_append]
      · rw [if_neg h2, if_neg h2]
        simp only [List.append_assoc, List.append_nil]
    · rw [if_neg h1, if_neg h1, put_ok b33 (by simp only [List.length_append, List.length_cons, List.length_nil]; omega), Option.bind_some, g0]
      by_cases h2 : nI k = X 0 0 0 11
      · rw [if_pos h2, if_pos h2, put_ok b42 (by simp only [List.length_append, List.length_cons, List.length_nil]; omega), Option.bind_some]
        simp only [List.append_assoc]
      · rw [if_neg h2, if_neg h2]
        simp only [List.append_assoc, List.append_nil]
/-- items with blanks between -/
def jn (it : Nat → List Int32) : Nat → List Int32
  | 0 => []
  | k + 1 => (jn it k ++ (if k = 0 then [] else [32])) ++ it k
theorem jn_len {it : Nat → List Int32} {b : Nat} : ∀ k, (∀ i, i < k → (it i).length ≤ b) → (jn it k).length ≤ (b + 1) * k := by
  intro k
  induction k with
  | zero => intro _; exact Nat.le_refl 0
  | succ k ih =>
    intro h
    have h1 := ih (fun i hi => h i (by omega))
    have h2 := h k (by omega)
    have h3 : (if k = 0 then ([] : List Int32) else [32]).length ≤ 1 := by
      by_cases e : k = 0
      · rw [if_pos e]; exact Nat.zero_le 1
      · rw [if_neg e]; exact Nat.le_refl 1
    rw [Nat.mul_succ]
    simp only [jn, List.length_append]
    omega
def wBoot (Y : pY) (g : Nat) : List Int32 := (dgV (Y 7 0 g) ++ [bsChr 7 (bsIx (Y 8 0 g))]) ++ (if Y 10 0 g = -1 then [114] else dgV (Y 10 0 g))
theorem sl7 : bsSl.getD 7 0 = 5 := rfl
theorem wBoot_len {Y : pY} {n t Q g : Nat} (hw : wm Q n t Y) (ht : t ≤ 9999) (hg : g < 12) : 1 ≤ (wBoot Y g).length ∧ (wBoot Y g).length ≤ 9 := by
  obtain ⟨⟨a, _, a1, a2⟩, _, hr⟩ := hw.log g hg
  have d1 := dig_len a
  unfold wBoot
  rw [a2, dgV_n (by omega)]
  rcases hr with e | ⟨r, _, r1, r2⟩
  · rw [if_pos e]; simp only [List.length_append, List.length_cons, List.length_nil]; omega
  · have d2 := dig_len r
    rw [r2, if_neg (pu_m1 r (by omega)), dgV_n (by omega)]; simp only [List.length_append, List.length_cons, List.length_nil]; omega
theorem boot_c {X : bsX} {n t Q g : Nat} {L : List Int32} (hw : wm Q n t (X 0)) (ht : t ≤ 9999) (hg : g < 12) (hL : L.length + 10 ≤ 400) : fX8_writeBoot (nI g) (txC X L) = some (txC X (L ++ wBoot (X 0) g)) := by
  obtain ⟨⟨a, _, a1, a2⟩, ⟨c, _, c1, c2⟩, hr⟩ := hw.log g hg
  have d1 := dig_len a
  have g0 : ∀ M, txC X M 0 = X 0 := fun M => txC_g _ _ (by decide)
  have x12 : bsIx (nI g) = g := pu_ix g (by omega)
  have b12 : bsIn (nI g) 12 := (pu_in g 12 (by omega)).mpr hg
  have hc8 : vp_nar .byte (bsChr 7 c).toInt8.toInt32 = bsChr 7 c := by8_chr 7 (by decide) c (by rw [sl7]; omega)
  have hlen : bsLen 7 = nI 5 := rfl
  unfold fX8_writeBoot fX8_writeBoot_71 wBoot
  rw [if_neg (pu_neg g (by omega)), if_pos (show nI g < (12 : Int32) from (pu_lt g 12 (by decide) (by omega)).mpr hg), if_pos b12, x12, g0, a2, num_ok (by omega) (by omega), Option.bind_some, g0, c2, if_neg (pu_neg c (by omega)), hlen, if_neg (fun q => by have := (pu_le 5 c (by omega) (by decide)).mp q; omega), if_pos ((pu_in c _ (by omega)).mpr (by rw [sl7]; omega)), pu_ix c (by omega), put_ok hc8 (by simp only [List.length_append]; omega), Option.bind_some, if_pos b12, g0, dgV_n (by omega)]
  rcases hr with e | ⟨r, _, r1, r2⟩
  · rw [e, if_neg (by decide), if_pos rfl, put_ok b114 (by simp only [List.length_append, List.length_cons, List.length_nil]; omega), Option.bind_some]
    simp only [List.append_assoc]
  · rw [r2, if_pos (show (0 : Int32) ≤ nI r from (pu_le 0 r (by omega) (by decide)).mpr (Nat.zero_le _)), if_neg (pu_m1 r (by omega)), num_ok (by omega) (by simp only [List.length_append, List.length_cons, List.length_nil]; omega), Option.bind_some, dgV_n (by omega)]
    simp only [List.append_assoc]
def fld (n : Nat) : List Int32 := [32] ++ dig n
theorem fld_2 {n : Nat} (h : n ≤ 99) : (fld n).length ≤ 3 := by
  have := dig_small h
  unfold fld
  simp only [List.length_append, List.length_cons, List.length_nil]; omega
theorem fld_1 {n : Nat} (h : n ≤ 9) : (fld n).length ≤ 2 := by
  have := dig_1 h
  unfold fld
  simp only [List.length_append, List.length_cons, List.length_nil]; omega
theorem fld_c {X : bsX} {L : List Int32} {n : Nat} (hn : n ≤ 9999) (hL : L.length + 5 ≤ 400) : fX7_putBlankAndNumber (nI n) (txC X L) = some (txC X (L ++ fld n)) := by
  unfold fX7_putBlankAndNumber fld
  rw [put_ok b32 (by omega), Option.bind_some, num_ok hn (by simp only [List.length_append, List.length_cons, List.length_nil]; omega), Option.bind_some]
  simp only [List.append_assoc]
def fldV (v : Int32) : List Int32 := fld (bsIx v)
theorem fldV_n {n : Nat} (h : n < 2147483648) : fldV (nI n) = fld n := by unfold fldV; rw [pu_ix n h]
def wImg (Y : pY) (k : Nat) : List Int32 := (((((wrd 9 ++ fld k) ++ fldV (Y 6 k 1)) ++ fldV (Y 6 k 2)) ++ fldV (Y 6 k 3)) ++ (if Y 6 k 4 = 0 then [] else wrd 10)) ++ (if Y 6 k 5 = 0 then [] else wrd 11)
def wMrk (Y : pY) (k : Nat) : List Int32 := (((wrd 12 ++ fld k) ++ fldV (Y 5 k 2)) ++ fldV (Y 5 k 3)) ++ (if Y 5 k 4 = 0 then [] else wrd 13)
def wLine (Y : pY) (k : Nat) : List Int32 := if Y 6 k 0 = 0 then [] else wImg Y k ++ wMrk Y k
theorem ite_len {p : Prop} [Decidable p] {L : List Int32} : (if p then [] else L).length ≤ L.length := by
  by_cases h : p
  · rw [if_pos h]; exact Nat.zero_le _
  · rw [if_neg h]; exact Nat.le_refl _
theorem wq9 : (wrd 9).length = 6 := wrd_len 9
theorem wq10 : (wrd 10).length = 9 := wrd_len 10
theorem wq11 : (wrd 11).length = 8 := wrd_len 11
theorem wq12 : (wrd 12).length = 5 := wrd_len 12
theorem wq13 : (wrd 13).length = 5 := wrd_len 13
theorem wq8 : (wrd 8).length = 5 := wrd_len 8
theorem wq0 : (wrd 0).length = 7 := wrd_len 0
theorem wLine_len {Y : pY} {k : Nat} (hk : k < 6) (hs : wS Y k) : (wLine Y k).length ≤ 52 := by
  obtain ⟨v, _, v1, v2⟩ := hs.2.2.2.2.2.2.1
  obtain ⟨s, _, s1, s2⟩ := hs.2.2.2.2.2.2.2.1
  obtain ⟨c, _, c1, c2⟩ := hs.2.2.2.2.2.2.2.2.1
  obtain ⟨p, _, p1, p2⟩ := hs.2.2.2.2.1
  obtain ⟨r, _, r1, r2⟩ := hs.2.2.2.2.2.1
  have a1 := fld_2 v1
  have a2 := fld_2 s1
  have a3 := fld_2 c1
  have a4 := fld_2 (show p ≤ 99 by omega)
  have a5 := fld_2 (show r ≤ 99 by omega)
  have a6 := fld_1 (show k ≤ 9 by omega)
  have i1 := ite_len (p := Y 6 k 4 = 0) (L := wrd 10)
  have i2 := ite_len (p := Y 6 k 5 = 0) (L := wrd 11)
  have i3 := ite_len (p := Y 5 k 4 = 0) (L := wrd 13)
  have e9 := wq9
  have e10 := wq10
  have e11 := wq11
  have e12 := wq12
  have e13 := wq13
  unfold wLine
  by_cases h0 : Y 6 k 0 = 0
  · rw [if_pos h0]; exact Nat.zero_le _
  · rw [if_neg h0]
    unfold wImg wMrk
    rw [v2, s2, c2, p2, r2, fldV_n (by omega), fldV_n (by omega), fldV_n (by omega), fldV_n (by omega), fldV_n (by omega)]
    simp only [List.length_append]
    omega
theorem img_c {X : bsX} {k : Nat} {L : List Int32} (hk : k < 6) (hs : wS (X 0) k) (hL : L.length + 60 ≤ 400) : fX8_writeImageLine k (txC X L) = some (txC X (L ++ wImg (X 0) k)) := by
  obtain ⟨v, _, v1, v2⟩ := hs.2.2.2.2.2.2.1
  obtain ⟨s, _, s1, s2⟩ := hs.2.2.2.2.2.2.2.1
  obtain ⟨c, _, c1, c2⟩ := hs.2.2.2.2.2.2.2.2.1
  have a1 := fld_2 v1
  have a2 := fld_2 s1
  have a3 := fld_2 c1
  have a6 := fld_1 (show k ≤ 9 by omega)
  have e9 := wq9
  have e10 := wq10
  have g0 : ∀ M, txC X M 0 = X 0 := fun M => txC_g _ _ (by decide)
  have fin : ∀ M : List Int32, M.length + 9 ≤ 400 → fX8_writeImageLine_83 k (txC X M) = some (txC X (M ++ (if X 0 6 k 5 = 0 then [] else wrd 11))) := by
    intro M hM
    unfold fX8_writeImageLine_83
    rw [g0]
    by_cases h : X 0 6 k 5 = 0
    · rw [if_pos h, if_pos h, List.append_nil]
    · rw [if_neg h, if_neg h, word_ok (by decide) hM, Option.bind_some]
  unfold fX8_writeImageLine wImg
  rw [word_ok (by decide) (by omega), Option.bind_some, fld_c (by omega) (by simp only [List.length_append]; omega), Option.bind_some, g0, v2, fld_c (by omega) (by simp only [List.length_append]; omega), Option.bind_some, g0, s2, fld_c (by omega) (by simp only [List.length_append]; omega), Option.bind_some, g0, c2, fld_c (by omega) (by simp only [List.length_append]; omega), Option.bind_some, g0, fldV_n (by omega), fldV_n (by omega), fldV_n (by omega)]
  by_cases h : X 0 6 k 4 = 0
  · rw [if_pos h, if_pos h, fin _ (by simp only [List.length_append]; omega)]
    simp only [List.append_assoc, List.nil_append, List.append_nil]
  · rw [if_neg h, if_neg h, word_ok (by decide) (by simp only [List.length_append]; omega), Option.bind_some, fin _ (by simp only [List.length_append]; omega)]
    simp only [List.append_assoc]
theorem mrk_c {X : bsX} {k : Nat} {L : List Int32} (hk : k < 6) (hs : wS (X 0) k) (hL : L.length + 30 ≤ 400) : fX8_writeMarkLine k (txC X L) = some (txC X (L ++ wMrk (X 0) k)) := by
  obtain ⟨p, _, p1, p2⟩ := hs.2.2.2.2.1
  obtain ⟨r, _, r1, r2⟩ := hs.2.2.2.2.2.1
  have a4 := fld_2 (show p ≤ 99 by omega)
  have a5 := fld_2 (show r ≤ 99 by omega)
  have a6 := fld_1 (show k ≤ 9 by omega)
  have e12 := wq12
  have g0 : ∀ M, txC X M 0 = X 0 := fun M => txC_g _ _ (by decide)
  unfold fX8_writeMarkLine wMrk
  rw [word_ok (by decide) (by omega), Option.bind_some, fld_c (by omega) (by simp only [List.length_append]; omega), Option.bind_some, g0, p2, fld_c (by omega) (by simp only [List.length_append]; omega), Option.bind_some, g0, r2, fld_c (by omega) (by simp only [List.length_append]; omega), Option.bind_some, g0, fldV_n (by omega), fldV_n (by omega)]
  by_cases h : X 0 5 k 4 = 0
  · rw [if_pos h, if_pos h]
    simp only [List.append_assoc, List.append_nil]
  · rw [if_neg h, if_neg h, word_ok (by decide) (by simp only [List.length_append]; omega), Option.bind_some]
    simp only [List.append_assoc]
/-- items one behind another -/
def lnL (it : Nat → List Int32) (L : List Int32) : Nat → List Int32
  | 0 => L
  | k + 1 => lnL it L k ++ it k
theorem lnL_len {it : Nat → List Int32} {L : List Int32} {b : Nat} : ∀ k, (∀ i, i < k → (it i).length ≤ b) → (lnL it L k).length ≤ L.length + b * k := by
  intro k
  induction k with
  | zero => intro _; exact Nat.le_refl _
  | succ k ih =>
    intro h
    have h1 := ih (fun i hi => h i (by omega))
    have h2 := h k (by omega)
    rw [Nat.mul_succ]
    simp only [lnL, List.length_append]
    omega
theorem lnL_cut {it : Nat → List Int32} {L : List Int32} {n : Nat} : ∀ d, (∀ i, n ≤ i → i < n + d → it i = []) → lnL it L (n + d) = lnL it L n := by
  intro d
  induction d with
  | zero => intro _; rfl
  | succ d ih =>
    intro h
    rw [Nat.add_succ, lnL, h (n + d) (by omega) (by omega), List.append_nil]
    exact ih (fun i a b => h i a (by omega))
