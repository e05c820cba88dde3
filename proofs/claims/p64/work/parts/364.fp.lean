/-! FLOATS: quotients of whole numbers are no NaN; a double that is no NaN equals itself -/
def fzOk (f : FP.Core.Fmt) (d : FP.Core.Datum) : Prop := match d with
  | .nan => False
  | .inf _ => True
  | .fin _ c q => c < 2 ^ f.p ∧ q ≤ f.qmax
theorem fz_bound {f : FP.Core.Fmt} {s : Bool} {c : Nat} {q : Int} (h : c < 2 ^ f.p) : fzOk f (FP.Core.bound f s c q) := by
  unfold FP.Core.bound
  split
  · exact ⟨h, by assumption⟩
  · trivial
theorem fz_settle {f : FP.Core.Fmt} (hp : f.tails < 2 ^ f.p) {s : Bool} {c : Nat} {q : Int} : fzOk f (FP.Core.settle f s c q) := by
  unfold FP.Core.settle
  split
  · exact fz_bound (by assumption)
  · exact fz_bound hp
theorem fz_rr {f : FP.Core.Fmt} (hp : f.tails < 2 ^ f.p) (hq : f.qmin ≤ f.qmax) {s : Bool} {a b : Nat} {e : Int} : fzOk f (FP.Core.roundRatio f s a b e) := by
  unfold FP.Core.roundRatio
  split
  · exact ⟨Nat.two_pow_pos _, hq⟩
  · exact fz_settle hp
theorem fz_round {f : FP.Core.Fmt} (hp : f.tails < 2 ^ f.p) (hq : f.qmin ≤ f.qmax) {d : FP.Core.Datum} (hd : d ≠ .nan) : fzOk f (FP.Core.round f d) := by
  cases d with
  | nan => exact absurd rfl hd
  | inf s => trivial
  | fin s c q => exact fz_rr hp hq
theorem fz_lead {c : Nat} (hc : c ≠ 0) : FP.Core.leading c 1 = (c.log2 : Int) := by
  unfold FP.Core.leading
  have h0 : (1 : Nat).log2 = 0 := by decide
  simp only [h0]
  have h1 : ((c.log2 : Int) - ((0 : Nat) : Int)) = (c.log2 : Int) := by omega
  rw [h1]
  rw [if_pos]
  have h2 := Nat.log2_self_le hc
  have h3 : (c.log2 : Int).toNat = c.log2 := by omega
  have h4 : (-(c.log2 : Int)).toNat = 0 := by omega
  rw [h3, h4]
  omega
theorem fz_near (m : Nat) : FP.Core.nearest m 1 = m := by
  unfold FP.Core.nearest
  rw [if_pos (by omega)]
  omega
theorem fz_quot {f : FP.Core.Fmt} (hp : f.tails < 2 ^ f.p) (hq : f.qmin ≤ f.qmax) {x : FP.Core.Datum} {t : Bool} {d : Nat} {r : Int} (hx : x ≠ .nan) (hd : d ≠ 0) : fzOk f (FP.Core.quotient f x (.fin t d r)) := by
  cases x with
  | nan => exact absurd rfl hx
  | inf s => trivial
  | fin s c q =>
    show fzOk f (if d = 0 then _ else _)
    rw [if_neg hd]
    exact fz_rr hp hq
theorem fz_t32 : FP.Core.b32.tails = 8388608 := by decide
theorem fz_e32 : FP.Core.b32.exps = 256 := by decide
theorem fz_m32 : FP.Core.b32.qmin = -149 := by decide
theorem fz_x32 : FP.Core.b32.qmax = 104 := by decide
theorem fz_p32 : 2 ^ FP.Core.b32.p = 16777216 := by decide
theorem fz_g32 : FP.Core.b32.tails < 2 ^ FP.Core.b32.p ∧ FP.Core.b32.qmin ≤ FP.Core.b32.qmax := by decide
theorem fz_enc32 {d : FP.Core.Datum} (h : fzOk FP.Core.b32 d) : FP.Core.encode FP.Core.b32 d < 4294967296 ∧ FP.Core.encode FP.Core.b32 d % 2147483648 ≤ 2139095040 := by
  cases d with
  | nan => exact absurd h id
  | inf s =>
    unfold FP.Core.encode FP.Core.assemble
    rw [fz_t32, fz_e32]
    cases s <;> decide
  | fin s c q =>
    obtain ⟨h1, h2⟩ := h
    rw [fz_p32] at h1
    rw [fz_x32] at h2
    unfold FP.Core.encode FP.Core.assemble
    dsimp only
    rw [fz_t32, fz_e32, fz_m32]
    have hs : s.toNat = 0 ∨ s.toNat = 1 := by cases s <;> simp
    generalize s.toNat = b at hs ⊢
    by_cases hc : c < 8388608
    · rw [if_pos hc]
      rcases hs with rfl | rfl <;> omega
    · rw [if_neg hc]
      have h3 : (q - -149).toNat ≤ 253 := by omega
      generalize (q - -149).toNat = k at h3 ⊢
      rcases hs with rfl | rfl <;> omega
theorem fz_dec32 {n : Nat} (h : n % 2147483648 ≤ 2139095040) : FP.Core.decode FP.Core.b32 n ≠ .nan := by
  unfold FP.Core.decode FP.Core.fieldE FP.Core.fieldT
  rw [fz_t32, fz_e32]
  by_cases h1 : n / 8388608 % 256 = 256 - 1
  · rw [if_pos h1, if_pos (by omega)]
    exact fun h => nomatch h
  · rw [if_neg h1]
    split <;> exact fun h => nomatch h
theorem fz_n32 {n : Nat} (h1 : n < 4294967296) (h : n % 2147483648 ≤ 2139095040) : vf_n32 (UInt32.ofNat n) := by
  unfold vf_n32
  rw [UInt32.le_iff_toNat_le, UInt32.toNat_and, UInt32.toNat_ofNat_of_lt' (by simpa using h1)]
  show n &&& (2 ^ 31 - 1) ≤ 2139095040
  rw [Nat.and_two_pow_sub_one_eq_mod]
  exact h
theorem fz_of32 {n : Nat} (h1 : n < 4294967296) : (UInt32.ofNat n).toNat = n := UInt32.toNat_ofNat_of_lt' (by simpa using h1)
theorem fz_rnd32 {s : Bool} {c : Nat} (hc0 : c ≠ 0) (hc1 : c ≤ 2147483648) : ∃ (M : Nat) (q : Int), FP.Core.roundRatio FP.Core.b32 s c 1 0 = .fin s M q ∧ 8388608 ≤ M ∧ M < 16777216 ∧ -23 ≤ q ∧ q ≤ 9 := by
  have hL0 := Nat.log2_self_le hc0
  have hL1 : c < 2 ^ (c.log2 + 1) := Nat.lt_log2_self
  have hL2 : c.log2 ≤ 31 := by
    refine Nat.le_of_lt_succ ((Nat.pow_lt_pow_iff_right (a := 2) (by decide)).mp (Nat.lt_of_le_of_lt hL0 ?_))
    show c < 4294967296
    omega
  have hq : FP.Core.quantum FP.Core.b32 c 1 0 = (c.log2 : Int) - 23 := by
    unfold FP.Core.quantum
    rw [fz_lead hc0, fz_m32, show (FP.Core.b32.p : Int) = 24 from rfl]
    omega
  unfold FP.Core.roundRatio
  rw [if_neg hc0, hq]
  unfold FP.Core.roundAt FP.Core.unitsNum FP.Core.unitsDen
  by_cases hs : c.log2 ≤ 23
  · have e1 : 2 ^ c.log2 * 2 ^ (23 - c.log2) = 8388608 := by rw [← Nat.pow_add, show c.log2 + (23 - c.log2) = 23 by omega]
    have e2 : 2 ^ (c.log2 + 1) * 2 ^ (23 - c.log2) = 16777216 := by rw [← Nat.pow_add, show c.log2 + 1 + (23 - c.log2) = 24 by omega]
    have p0 := Nat.two_pow_pos (23 - c.log2)
    have m1 : c * 2 ^ (23 - c.log2) < 16777216 := by rw [← e2]; exact Nat.mul_lt_mul_of_pos_right hL1 p0
    have m2 : 8388608 ≤ c * 2 ^ (23 - c.log2) := by rw [← e1]; exact Nat.mul_le_mul_right _ hL0
    rw [show ((0 : Int) - ((c.log2 : Int) - 23)).toNat = 23 - c.log2 by omega, show (((c.log2 : Int) - 23) - 0).toNat = 0 by omega, show 1 * 2 ^ 0 = 1 from rfl, fz_near]
    unfold FP.Core.settle FP.Core.bound
    rw [fz_p32, if_pos m1, fz_x32, if_pos (by omega)]
    exact ⟨_, _, rfl, m2, m1, by omega, by omega⟩
  · rw [show ((0 : Int) - ((c.log2 : Int) - 23)).toNat = 0 by omega, show (((c.log2 : Int) - 23) - 0).toNat = c.log2 - 23 by omega, Nat.pow_zero, Nat.mul_one, Nat.one_mul]
    have e1 : 8388608 * 2 ^ (c.log2 - 23) = 2 ^ c.log2 := by rw [show 8388608 = 2 ^ 23 from rfl, ← Nat.pow_add, show 23 + (c.log2 - 23) = c.log2 by omega]
    have p0 := Nat.two_pow_pos (c.log2 - 23)
    have hd1 : 8388608 ≤ c / 2 ^ (c.log2 - 23) := by
      rw [Nat.le_div_iff_mul_le p0, e1]; exact hL0
    have hd2 : c / 2 ^ (c.log2 - 23) < 16777216 := by
      rw [Nat.div_lt_iff_lt_mul p0]
      have e2 : 16777216 * 2 ^ (c.log2 - 23) = 2 ^ (c.log2 + 1) := by
        rw [Nat.pow_succ, ← e1]; omega
      rw [e2]; exact hL1
    have hn : 8388608 ≤ FP.Core.nearest c (2 ^ (c.log2 - 23)) ∧ FP.Core.nearest c (2 ^ (c.log2 - 23)) ≤ 16777216 := by
      unfold FP.Core.nearest
      generalize c / 2 ^ (c.log2 - 23) = k at hd1 hd2 ⊢
      split
      · omega
      · split <;> omega
    generalize FP.Core.nearest c (2 ^ (c.log2 - 23)) = M at hn ⊢
    unfold FP.Core.settle FP.Core.bound
    rw [fz_p32, fz_t32, fz_x32]
    by_cases hM : M < 16777216
    · rw [if_pos hM, if_pos (by omega)]
      exact ⟨_, _, rfl, hn.1, hM, by omega, by omega⟩
    · rw [if_neg hM, if_pos (by omega)]
      exact ⟨_, _, rfl, by omega, by omega, by omega, by omega⟩
theorem fz_whole32 {b : Int32} (h0 : b ≠ 0) : ∃ (s : Bool) (d : Nat) (r : Int), FP.Core.decode FP.Core.b32 (FP.Core.fromInt FP.Core.b32 b.toInt) = .fin s d r ∧ d ≠ 0 := by
  unfold FP.Core.fromInt FP.Core.ofInt
  generalize decide (b.toInt < 0) = s
  have hc0 : b.toInt.natAbs ≠ 0 := by
    have : b.toInt ≠ 0 := fun q => h0 (by rw [← Int32.toInt_inj]; exact q)
    omega
  have hc1 : b.toInt.natAbs ≤ 2147483648 := by
    have h1 := b.toInt_lt
    have h2 := b.le_toInt
    omega
  generalize b.toInt.natAbs = c at hc0 hc1
  show ∃ (s2 : Bool) (d : Nat) (r : Int), FP.Core.decode FP.Core.b32 (FP.Core.encode FP.Core.b32 (FP.Core.roundRatio FP.Core.b32 s c 1 0)) = .fin s2 d r ∧ d ≠ 0
  obtain ⟨M, q, hr, m1, m2, q1, q2⟩ := fz_rnd32 (s := s) hc0 hc1
  rw [hr]
  have he : FP.Core.encode FP.Core.b32 (.fin s M q) = (s.toNat * 256 + ((q - -149).toNat + 1)) * 8388608 + (M - 8388608) := by
    unfold FP.Core.encode FP.Core.assemble
    dsimp only
    rw [fz_t32, fz_e32, fz_m32, if_neg (by omega)]
  rw [he]
  have hs : s.toNat = 0 ∨ s.toNat = 1 := by cases s <;> simp
  have hk : 126 ≤ (q - -149).toNat ∧ (q - -149).toNat ≤ 158 := by omega
  generalize (q - -149).toNat = k at hk
  generalize hn : (s.toNat * 256 + (k + 1)) * 8388608 + (M - 8388608) = n
  have hE : n / 8388608 % 256 = k + 1 := by rcases hs with e | e <;> rw [e] at hn <;> omega
  unfold FP.Core.decode FP.Core.fieldE
  rw [fz_t32, fz_e32, hE, if_neg (by omega), if_neg (by omega)]
  exact ⟨_, _, _, rfl, by omega⟩
theorem fz_int32 (a : Int32) : FP.Core.fromInt FP.Core.b32 a.toInt < 4294967296 ∧ FP.Core.decode FP.Core.b32 (FP.Core.fromInt FP.Core.b32 a.toInt) ≠ .nan := by
  have h := fz_enc32 (d := FP.Core.round FP.Core.b32 (FP.Core.ofInt a.toInt)) (fz_round fz_g32.1 fz_g32.2 (fun h => nomatch h))
  exact ⟨h.1, fz_dec32 h.2⟩
theorem fz_t64 : FP.Core.b64.tails = 4503599627370496 := by decide
theorem fz_e64 : FP.Core.b64.exps = 2048 := by decide
theorem fz_m64 : FP.Core.b64.qmin = -1074 := by decide
theorem fz_x64 : FP.Core.b64.qmax = 971 := by decide
theorem fz_p64 : 2 ^ FP.Core.b64.p = 9007199254740992 := by decide
theorem fz_g64 : FP.Core.b64.tails < 2 ^ FP.Core.b64.p ∧ FP.Core.b64.qmin ≤ FP.Core.b64.qmax := by decide
theorem fz_enc64 {d : FP.Core.Datum} (h : fzOk FP.Core.b64 d) : FP.Core.encode FP.Core.b64 d < 18446744073709551616 ∧ FP.Core.encode FP.Core.b64 d % 9223372036854775808 ≤ 9218868437227405312 := by
  cases d with
  | nan => exact absurd h id
  | inf s =>
    unfold FP.Core.encode FP.Core.assemble
    rw [fz_t64, fz_e64]
    cases s <;> decide
  | fin s c q =>
    obtain ⟨h1, h2⟩ := h
    rw [fz_p64] at h1
    rw [fz_x64] at h2
    unfold FP.Core.encode FP.Core.assemble
    dsimp only
    rw [fz_t64, fz_e64, fz_m64]
    have hs : s.toNat = 0 ∨ s.toNat = 1 := by cases s <;> simp
    generalize s.toNat = b at hs ⊢
    by_cases hc : c < 4503599627370496
    · rw [if_pos hc]
      rcases hs with rfl | rfl <;> omega
    · rw [if_neg hc]
      have h3 : (q - -1074).toNat ≤ 2045 := by omega
      generalize (q - -1074).toNat = k at h3 ⊢
      rcases hs with rfl | rfl <;> omega
theorem fz_dec64 {n : Nat} (h : n % 9223372036854775808 ≤ 9218868437227405312) : FP.Core.decode FP.Core.b64 n ≠ .nan := by
  unfold FP.Core.decode FP.Core.fieldE FP.Core.fieldT
  rw [fz_t64, fz_e64]
  by_cases h1 : n / 4503599627370496 % 2048 = 2048 - 1
  · rw [if_pos h1, if_pos (by omega)]
    exact fun h => nomatch h
  · rw [if_neg h1]
    split <;> exact fun h => nomatch h
theorem fz_n64 {n : Nat} (h1 : n < 18446744073709551616) (h : n % 9223372036854775808 ≤ 9218868437227405312) : vf_n64 (UInt64.ofNat n) := by
  unfold vf_n64
  rw [UInt64.le_iff_toNat_le, UInt64.toNat_and, UInt64.toNat_ofNat_of_lt' (by simpa using h1)]
  show n &&& (2 ^ 63 - 1) ≤ 9218868437227405312
  rw [Nat.and_two_pow_sub_one_eq_mod]
  exact h
theorem fz_of64 {n : Nat} (h1 : n < 18446744073709551616) : (UInt64.ofNat n).toNat = n := UInt64.toNat_ofNat_of_lt' (by simpa using h1)
theorem fz_rnd64 {s : Bool} {c : Nat} (hc0 : c ≠ 0) (hc1 : c ≤ 2147483648) : ∃ (M : Nat) (q : Int), FP.Core.roundRatio FP.Core.b64 s c 1 0 = .fin s M q ∧ 4503599627370496 ≤ M ∧ M < 9007199254740992 ∧ -52 ≤ q ∧ q ≤ 9 := by
  have hL0 := Nat.log2_self_le hc0
  have hL1 : c < 2 ^ (c.log2 + 1) := Nat.lt_log2_self
  have hL2 : c.log2 ≤ 31 := by
    refine Nat.le_of_lt_succ ((Nat.pow_lt_pow_iff_right (a := 2) (by decide)).mp (Nat.lt_of_le_of_lt hL0 ?_))
    show c < 4294967296
    omega
  have hq : FP.Core.quantum FP.Core.b64 c 1 0 = (c.log2 : Int) - 52 := by
    unfold FP.Core.quantum
    rw [fz_lead hc0, fz_m64, show (FP.Core.b64.p : Int) = 53 from rfl]
    omega
  unfold FP.Core.roundRatio
  rw [if_neg hc0, hq]
  unfold FP.Core.roundAt FP.Core.unitsNum FP.Core.unitsDen
  by_cases hs : c.log2 ≤ 52
  · have e1 : 2 ^ c.log2 * 2 ^ (52 - c.log2) = 4503599627370496 := by rw [← Nat.pow_add, show c.log2 + (52 - c.log2) = 52 by omega]
    have e2 : 2 ^ (c.log2 + 1) * 2 ^ (52 - c.log2) = 9007199254740992 := by rw [← Nat.pow_add, show c.log2 + 1 + (52 - c.log2) = 53 by omega]
    have p0 := Nat.two_pow_pos (52 - c.log2)
    have m1 : c * 2 ^ (52 - c.log2) < 9007199254740992 := by rw [← e2]; exact Nat.mul_lt_mul_of_pos_right hL1 p0
    have m2 : 4503599627370496 ≤ c * 2 ^ (52 - c.log2) := by rw [← e1]; exact Nat.mul_le_mul_right _ hL0
    rw [show ((0 : Int) - ((c.log2 : Int) - 52)).toNat = 52 - c.log2 by omega, show (((c.log2 : Int) - 52) - 0).toNat = 0 by omega, show 1 * 2 ^ 0 = 1 from rfl, fz_near]
    unfold FP.Core.settle FP.Core.bound
    rw [fz_p64, if_pos m1, fz_x64, if_pos (by omega)]
    exact ⟨_, _, rfl, m2, m1, by omega, by omega⟩
  · rw [show ((0 : Int) - ((c.log2 : Int) - 52)).toNat = 0 by omega, show (((c.log2 : Int) - 52) - 0).toNat = c.log2 - 52 by omega, Nat.pow_zero, Nat.mul_one, Nat.one_mul]
    have e1 : 4503599627370496 * 2 ^ (c.log2 - 52) = 2 ^ c.log2 := by rw [show 4503599627370496 = 2 ^ 52 from rfl, ← Nat.pow_add, show 52 + (c.log2 - 52) = c.log2 by omega]
    have p0 := Nat.two_pow_pos (c.log2 - 52)
    have hd1 : 4503599627370496 ≤ c / 2 ^ (c.log2 - 52) := by
      rw [Nat.le_div_iff_mul_le p0, e1]; exact hL0
    have hd2 : c / 2 ^ (c.log2 - 52) < 9007199254740992 := by
      rw [Nat.div_lt_iff_lt_mul p0]
      have e2 : 9007199254740992 * 2 ^ (c.log2 - 52) = 2 ^ (c.log2 + 1) := by
        rw [Nat.pow_succ, ← e1]; omega
      rw [e2]; exact hL1
    have hn : 4503599627370496 ≤ FP.Core.nearest c (2 ^ (c.log2 - 52)) ∧ FP.Core.nearest c (2 ^ (c.log2 - 52)) ≤ 9007199254740992 := by
      unfold FP.Core.nearest
      generalize c / 2 ^ (c.log2 - 52) = k at hd1 hd2 ⊢
      split
      · omega
      · split <;> omega
    generalize FP.Core.nearest c (2 ^ (c.log2 - 52)) = M at hn ⊢
    unfold FP.Core.settle FP.Core.bound
    rw [fz_p64, fz_t64, fz_x64]
    by_cases hM : M < 9007199254740992
    · rw [if_pos hM, if_pos (by omega)]
      exact ⟨_, _, rfl, hn.1, hM, by omega, by omega⟩
    · rw [if_neg hM, if_pos (by omega)]
      exact ⟨_, _, rfl, by omega, by omega, by omega, by omega⟩
theorem fz_whole64 {b : Int32} (h0 : b ≠ 0) : ∃ (s : Bool) (d : Nat) (r : Int), FP.Core.decode FP.Core.b64 (FP.Core.fromInt FP.Core.b64 b.toInt) = .fin s d r ∧ d ≠ 0 := by
  unfold FP.Core.fromInt FP.Core.ofInt
  generalize decide (b.toInt < 0) = s
  have hc0 : b.toInt.natAbs ≠ 0 := by
    have : b.toInt ≠ 0 := fun q => h0 (by rw [← Int32.toInt_inj]; exact q)
    omega
  have hc1 : b.toInt.natAbs ≤ 2147483648 := by
    have h1 := b.toInt_lt
    have h2 := b.le_toInt
    omega
  generalize b.toInt.natAbs = c at hc0 hc1
  show ∃ (s2 : Bool) (d : Nat) (r : Int), FP.Core.decode FP.Core.b64 (FP.Core.encode FP.Core.b64 (FP.Core.roundRatio FP.Core.b64 s c 1 0)) = .fin s2 d r ∧ d ≠ 0
  obtain ⟨M, q, hr, m1, m2, q1, q2⟩ := fz_rnd64 (s := s) hc0 hc1
  rw [hr]
  have he : FP.Core.encode FP.Core.b64 (.fin s M q) = (s.toNat * 2048 + ((q - -1074).toNat + 1)) * 4503599627370496 + (M - 4503599627370496) := by
    unfold FP.Core.encode FP.Core.assemble
    dsimp only
    rw [fz_t64, fz_e64, fz_m64, if_neg (by omega)]
  rw [he]
  have hs : s.toNat = 0 ∨ s.toNat = 1 := by cases s <;> simp
  have hk : 1022 ≤ (q - -1074).toNat ∧ (q - -1074).toNat ≤ 1083 := by omega
  generalize (q - -1074).toNat = k at hk
  generalize hn : (s.toNat * 2048 + (k + 1)) * 4503599627370496 + (M - 4503599627370496) = n
  have hE : n / 4503599627370496 % 2048 = k + 1 := by rcases hs with e | e <;> rw [e] at hn <;> omega
  unfold FP.Core.decode FP.Core.fieldE
  rw [fz_t64, fz_e64, hE, if_neg (by omega), if_neg (by omega)]
  exact ⟨_, _, _, rfl, by omega⟩
theorem fz_int64 (a : Int32) : FP.Core.fromInt FP.Core.b64 a.toInt < 18446744073709551616 ∧ FP.Core.decode FP.Core.b64 (FP.Core.fromInt FP.Core.b64 a.toInt) ≠ .nan := by
  have h := fz_enc64 (d := FP.Core.round FP.Core.b64 (FP.Core.ofInt a.toInt)) (fz_round fz_g64.1 fz_g64.2 (fun h => nomatch h))
  exact ⟨h.1, fz_dec64 h.2⟩
/-- the quotient of two whole numbers as floats, as doubles -/
def fzF (a b : Int32) : UInt32 := if b = 0 then FP.fconst0 else FP.fdiv (FP.i2f a) (FP.i2f b)
def fzD (a b : Int32) : UInt64 := if b = 0 then FP.dconst0 else FP.ddiv (FP.i2d a) (FP.i2d b)
theorem fz_fdiv {a b : Int32} (h0 : b ≠ 0) : vf_n32 (FP.fdiv (FP.i2f a) (FP.i2f b)) ∧ FP.Core.decode FP.Core.b32 (FP.fdiv (FP.i2f a) (FP.i2f b)).toNat ≠ .nan := by
  obtain ⟨s, d, r, e, hd⟩ := fz_whole32 h0
  have ha := fz_int32 a
  have hb := fz_int32 b
  have h := fz_enc32 (fz_quot fz_g32.1 fz_g32.2 (x := FP.Core.decode FP.Core.b32 (FP.Core.fromInt FP.Core.b32 a.toInt)) (t := s) (r := r) ha.2 hd)
  rw [← e] at h
  have hh : FP.fdiv (FP.i2f a) (FP.i2f b) = UInt32.ofNat (FP.Core.encode FP.Core.b32 (FP.Core.quotient FP.Core.b32 (FP.Core.decode FP.Core.b32 (FP.Core.fromInt FP.Core.b32 a.toInt)) (FP.Core.decode FP.Core.b32 (FP.Core.fromInt FP.Core.b32 b.toInt)))) := by
    show UInt32.ofNat (FP.Core.div FP.Core.b32 (UInt32.ofNat (FP.Core.fromInt FP.Core.b32 a.toInt)).toNat (UInt32.ofNat (FP.Core.fromInt FP.Core.b32 b.toInt)).toNat) = _
    rw [fz_of32 ha.1, fz_of32 hb.1]
    rfl
  rw [hh]
  exact ⟨fz_n32 h.1 h.2, by rw [fz_of32 h.1]; exact fz_dec32 h.2⟩
theorem fz_ddiv {a b : Int32} (h0 : b ≠ 0) : vf_n64 (FP.ddiv (FP.i2d a) (FP.i2d b)) ∧ FP.Core.decode FP.Core.b64 (FP.ddiv (FP.i2d a) (FP.i2d b)).toNat ≠ .nan := by
  obtain ⟨s, d, r, e, hd⟩ := fz_whole64 h0
  have ha := fz_int64 a
  have hb := fz_int64 b
  have h := fz_enc64 (fz_quot fz_g64.1 fz_g64.2 (x := FP.Core.decode FP.Core.b64 (FP.Core.fromInt FP.Core.b64 a.toInt)) (t := s) (r := r) ha.2 hd)
  rw [← e] at h
  have hh : FP.ddiv (FP.i2d a) (FP.i2d b) = UInt64.ofNat (FP.Core.encode FP.Core.b64 (FP.Core.quotient FP.Core.b64 (FP.Core.decode FP.Core.b64 (FP.Core.fromInt FP.Core.b64 a.toInt)) (FP.Core.decode FP.Core.b64 (FP.Core.fromInt FP.Core.b64 b.toInt)))) := by
    show UInt64.ofNat (FP.Core.div FP.Core.b64 (UInt64.ofNat (FP.Core.fromInt FP.Core.b64 a.toInt)).toNat (UInt64.ofNat (FP.Core.fromInt FP.Core.b64 b.toInt)).toNat) = _
    rw [fz_of64 ha.1, fz_of64 hb.1]
    rfl
  rw [hh]
  exact ⟨fz_n64 h.1 h.2, by rw [fz_of64 h.1]; exact fz_dec64 h.2⟩
theorem fz_F (a b : Int32) : FP.Core.decode FP.Core.b32 (fzF a b).toNat ≠ .nan := by
  unfold fzF
  by_cases h : b = 0
  · rw [if_pos h]; exact fz_dec32 (by decide)
  · rw [if_neg h]
    exact (fz_fdiv h).2
theorem fz_D (a b : Int32) : FP.Core.decode FP.Core.b64 (fzD a b).toNat ≠ .nan := by
  unfold fzD
  by_cases h : b = 0
  · rw [if_pos h]; exact fz_dec64 (by decide)
  · rw [if_neg h]
    exact (fz_ddiv h).2
theorem fz_f2d {x : UInt32} (h : FP.Core.decode FP.Core.b32 x.toNat ≠ .nan) : vf_n64 (FP.f2d x) ∧ FP.Core.decode FP.Core.b64 (FP.f2d x).toNat ≠ .nan := by
  unfold FP.f2d
  rw [if_neg (by show ¬ decide (FP.Core.decode FP.Core.b32 x.toNat = .nan) = true; rw [decide_eq_true_iff]; exact h)]
  have h2 := fz_enc64 (fz_round fz_g64.1 fz_g64.2 h)
  show vf_n64 (UInt64.ofNat (FP.Core.encode FP.Core.b64 (FP.Core.round FP.Core.b64 (FP.Core.decode FP.Core.b32 x.toNat)))) ∧ FP.Core.decode FP.Core.b64 (UInt64.ofNat (FP.Core.encode FP.Core.b64 (FP.Core.round FP.Core.b64 (FP.Core.decode FP.Core.b32 x.toNat)))).toNat ≠ .nan
  exact ⟨fz_n64 h2.1 h2.2, by rw [fz_of64 h2.1]; exact fz_dec64 h2.2⟩
theorem fz_same {x : UInt64} (h : FP.Core.decode FP.Core.b64 x.toNat ≠ .nan) : FP.dcmp x x = some .eq := by
  show FP.Core.order (FP.Core.decode FP.Core.b64 x.toNat) (FP.Core.decode FP.Core.b64 x.toNat) = some .eq
  generalize FP.Core.decode FP.Core.b64 x.toNat = d at h ⊢
  cases d with
  | nan => exact absurd rfl h
  | inf s => simp [FP.Core.order]
  | fin s c q => simp [FP.Core.order]
