/-! PURE BASICS: numbers -/
theorem pu_toInt (k : Nat) (h : k < 2147483648) : (nI k).toInt = (k : Int) := by
  unfold nI; exact Int32.toInt_ofNat_of_lt (by omega)
theorem pu_ix (k : Nat) (h : k < 2147483648) : bsIx (nI k) = k := by
  unfold bsIx Int32.toNatClampNeg; rw [pu_toInt k h]; simp
theorem pu_in (k n : Nat) (h : k < 2147483648) : bsIn (nI k) n ↔ k < n := by
  unfold bsIn; rw [pu_toInt k h]; omega
theorem pu_le (a k : Nat) (h : k < 2147483648) (ha : a < 2147483648) : nI a ≤ nI k ↔ a ≤ k := by
  rw [Int32.le_iff_toInt_le, pu_toInt k h, pu_toInt a ha]; omega
theorem pu_lt (a k : Nat) (h : k < 2147483648) (ha : a < 2147483648) : nI a < nI k ↔ a < k := by
  rw [Int32.lt_iff_toInt_lt, pu_toInt k h, pu_toInt a ha]; omega
theorem pu_eq (a k : Nat) (h : k < 2147483648) (ha : a < 2147483648) : nI a = nI k ↔ a = k := by
  constructor
  · intro e; have := congrArg Int32.toInt e; rw [pu_toInt k h, pu_toInt a ha] at this; omega
  · intro e; rw [e]
theorem pu_add (a k : Nat) : nI a + nI k = nI (a + k) := by unfold nI; rw [← Int32.ofNat_add]
theorem pu_mul (a k : Nat) : nI a * nI k = nI (a * k) := by unfold nI; rw [← Int32.ofNat_mul]
theorem pu_lit (n : Nat) : (OfNat.ofNat n : Int32) = nI n := rfl
theorem pu_neg (k : Nat) (h : k < 2147483648) : ¬ nI k < 0 := by
  rw [show (0 : Int32) = nI 0 from rfl, pu_lt _ _ (by omega) h]; omega
theorem pu_m1 (k : Nat) (h : k < 2147483648) : ¬ nI k = -1 := by
  intro e; have := congrArg Int32.toInt e; rw [pu_toInt k h] at this
  have h2 : ((-1 : Int32)).toInt = -1 := by decide
  omega
theorem pu_nle {a b : Int32} : ¬ a ≤ b ↔ b < a := Int32.not_le
theorem pu_nlt {a b : Int32} : ¬ a < b ↔ b ≤ a := Int32.not_lt
/-- a number that isn't negative is some nI k -/
theorem pu_of {a : Int32} (h : 0 ≤ a) : ∃ k, k < 2147483648 ∧ a = nI k := by
  refine ⟨a.toInt.toNat, ?_, ?_⟩
  · have h1 := Int32.toInt_lt a; omega
  · have h0 : 0 ≤ a.toInt := by have := Int32.le_iff_toInt_le.mp h; simpa using this
    have h1 := Int32.toInt_lt a
    apply Int32.toInt_inj.mp
    rw [pu_toInt _ (by omega)]; omega
theorem pu_below {a : Int32} {n : Nat} (h0 : 0 ≤ a) (hn : n < 2147483648) (h : a < nI n) : ∃ k, k < n ∧ a = nI k := by
  obtain ⟨k, hk, rfl⟩ := pu_of h0
  exact ⟨k, (pu_lt _ _ hn hk).mp h, rfl⟩
theorem pu_inT {k n : Nat} (h : k < n) (hn : n < 2147483648) : (bsIn (nI k) n) = True := eq_true ((pu_in k n (by omega)).mpr h)
theorem pu_le6 {k : Nat} (h : k < 6) : ((6 : Int32) ≤ nI k) = False := eq_false (by rw [show (6 : Int32) = nI 6 from rfl, pu_le _ _ (by omega) (by omega)]; omega)
theorem pu_66 : ((6 : Int32) ≤ nI 6) = True := eq_true (by decide)
theorem pu_lt6 {k : Nat} (h : k < 6) : (nI k < (6 : Int32)) = True := eq_true (by rw [show (6 : Int32) = nI 6 from rfl, pu_lt _ _ (by omega) (by omega)]; omega)
theorem pu_lt0 {k : Nat} (h : k < 6) : (nI k < (0 : Int32)) = False := eq_false (pu_neg k (by omega))
theorem pu_ix6 {k : Nat} (h : k < 6) : bsIx (nI k) = k := pu_ix k (by omega)
theorem pu_m16 {k : Nat} (h : k < 6) : (nI k = (-1 : Int32)) = False := eq_false (pu_m1 k (by omega))
theorem pu_succ (k : Nat) : nI k + (1 : Int32) = nI (k + 1) := pu_add k 1
theorem pu_div (a b : Nat) (ha : a < 2147483648) (hb0 : 0 < b) (hb : b < 2147483648) : nI a / nI b = nI (a / b) := by
  apply Int32.toInt_inj.mp
  have hle : a / b ≤ a := Nat.div_le_self a b
  rw [Int32.toInt_div, pu_toInt a ha, pu_toInt b hb, pu_toInt (a / b) (by omega)]
  rw [Int.tdiv_eq_ediv_of_nonneg (by omega)]
  rw [← Int.natCast_ediv]
  generalize a / b = c at hle
  apply Int.bmod_eq_of_le <;> omega
theorem pu_sub (a b : Nat) (h : b ≤ a) : nI a - nI b = nI (a - b) := by
  have : nI (a - b) + nI b = nI a := by rw [pu_add]; congr 1; omega
  rw [← this]; simp
theorem pu_mod (n : Nat) (h : n < 2147483648) : nI n - nI n / (12 : Int32) * (12 : Int32) = nI (n % 12) := by
  rw [show (12 : Int32) = nI 12 from rfl, pu_div n 12 h (by decide) (by decide), pu_mul, pu_sub _ _ (Nat.div_mul_le_self n 12)]
  congr 1; omega
/-! groups -/
abbrev pY : Type := Nat → Nat → Nat → Int32
def wr (Y : pY) (K j i : Nat) (v : Int32) : pY := fun a b c => if a = K ∧ b = j ∧ c = i then v else Y a b c
def up (X : bsX) (g : Nat) (Y : pY) : bsX := fun a => if a = g then Y else X a
theorem up_wr (X : bsX) (g K j i : Nat) (v : Int32) : bsWr X g K j i v = up X g (wr (X g) K j i v) := by
  funext a b c d; unfold bsWr up wr
  by_cases h : a = g
  · subst h; simp
  · simp [h]
theorem up_at (X : bsX) (g : Nat) (Y : pY) : up X g Y g = Y := by simp [up]
theorem up_ne (X : bsX) {g h : Nat} (Y : pY) (n : h ≠ g) : up X g Y h = X h := by simp [up, n]
theorem up_up (X : bsX) (g : Nat) (Y Z : pY) : up (up X g Y) g Z = up X g Z := by
  funext a; unfold up; by_cases h : a = g <;> simp [h]
theorem up_id (X : bsX) (g : Nat) : up X g (X g) = X := by
  funext a; unfold up; by_cases h : a = g <;> simp [h]
theorem wr_rd (Y : pY) (K j i : Nat) (v : Int32) (a b c : Nat) : wr Y K j i v a b c = if a = K ∧ b = j ∧ c = i then v else Y a b c := rfl
/-! loops -/
def itF {σ : Type} (f : Nat → σ → σ) : Nat → Nat → σ → σ
  | 0, _, a => a
  | d + 1, k, a => itF f d (k + 1) (f k a)
theorem pu_loop {σ ρ : Type} {N : Nat} (L : Nat → Nat → σ → Option ρ) (f : Nat → σ → σ) (fin : σ → ρ) (P : Nat → σ → Prop) (hs : ∀ n k a, k < N → P k a → L (n + 1) k a = L n (k + 1) (f k a) ∧ P (k + 1) (f k a)) (he : ∀ n a, P N a → L (n + 1) N a = some (fin a)) :
    ∀ d k n a, k + d = N → d < n → P k a → L n k a = some (fin (itF f d k a)) ∧ P N (itF f d k a) := by
  intro d
  induction d with
  | zero =>
    intro k n a hk hn hP
    obtain rfl : k = N := by omega
    obtain ⟨m, rfl⟩ : ∃ m, n = m + 1 := ⟨n - 1, by omega⟩
    exact ⟨he m a hP, hP⟩
  | succ d ih =>
    intro k n a hk hn hP
    obtain ⟨m, rfl⟩ : ∃ m, n = m + 1 := ⟨n - 1, by omega⟩
    obtain ⟨h1, h2⟩ := hs m k a (by omega) hP
    obtain ⟨h3, h4⟩ := ih (k + 1) m (f k a) (by omega) (by omega) h2
    exact ⟨by rw [h1, h3]; rfl, by simpa [itF] using h4⟩
