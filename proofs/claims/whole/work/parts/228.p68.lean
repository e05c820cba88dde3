/-! WORDS, FAILURES, NUMBERS -/
def wAll (X : bsX) (e q t : Nat) : Nat → Nat → Bool
  | 0, _ => true
  | d + 1, i => if sn X e (q + i) = bsChr t i then wAll X e q t d (i + 1) else false
def isW (X : bsX) (e q r t : Nat) (kd : Int32) : Bool := if kd = 2 then (if r - q = bsSl.getD t 0 then wAll X e q t (bsSl.getD t 0) 0 else false) else false
theorem word_cL {X : bsX} {e q t : Nat} {kd te er ep : Int32} {mk : Nat → Int32} {Y : pY} (hX : PX X e) (hq : q ≤ e) : ∀ (d i f : Nat), i + d = bsSl.getD t 0 → d < f →
    fX4_isWord_28 t f (nI i) (cst X kd (nI q) te er ep mk Y) = some (b2 (wAll X e q t d i), cst X kd (nI q) te er ep mk Y) := by
  have he := hX.2
  have h9 := sl_9 t
  intro d
  induction d with
  | zero =>
    intro i f hi hf
    obtain ⟨f, rfl⟩ : ∃ z, f = z + 1 := ⟨f - 1, by omega⟩
    rw [fX4_isWord_28, if_pos (show bsLen t ≤ nI i from (pu_le (bsSl.getD t 0) i (by omega) (by omega)).mpr (by omega))]
    rfl
  | succ d ih =>
    intro i f hi hf
    obtain ⟨f, rfl⟩ : ∃ z, f = z + 1 := ⟨f - 1, by omega⟩
    rw [fX4_isWord_28, if_neg (show ¬ bsLen t ≤ nI i from fun z => by have := (pu_le (bsSl.getD t 0) i (by omega) (by omega)).mp z; omega), c6, pu_add, byte_c hX (by omega), Option.bind_some, if_pos ((pu_in i _ (by omega)).mpr (by omega)), pu_ix i (by omega)]
    unfold wAll
    by_cases h : sn X e (q + i) = bsChr t i
    · rw [if_pos h, if_pos h, pu_succ]
      exact ih (i + 1) f (by omega) (by omega)
    · rw [if_neg h, if_neg h]; rfl
theorem word_c {X : bsX} {e q r t : Nat} {kd er ep : Int32} {mk : Nat → Int32} {Y : pY} (hX : PX X e) (hq : q ≤ r) (hr : r ≤ e) :
    fX4_isWord t (cst X kd (nI q) (nI r) er ep mk Y) = some (b2 (isW X e q r t kd), cst X kd (nI q) (nI r) er ep mk Y) := by
  have he := hX.2
  have h9 := sl_9 t
  unfold fX4_isWord isW
  rw [c5, c6, c7, pu_sub r q hq]
  by_cases h2 : kd = 2
  · rw [if_pos h2, if_pos h2]
    by_cases hl : r - q = bsSl.getD t 0
    · rw [if_pos (show nI (r - q) = bsLen t by rw [hl]; rfl), if_pos hl]
      exact word_cL hX (by omega) _ 0 bsF (by omega) (by unfold bsF; omega)
    · rw [if_neg (show ¬ nI (r - q) = bsLen t from fun z => hl ((pu_eq _ _ (by omega) (by omega)).mp z)), if_neg hl]; rfl
  · rw [if_neg h2, if_neg h2]; rfl
theorem word_rL {X W : bsX} {e q t : Nat} {te kd nm er ep mr : Int32} {R : Nat → Int32} (hX : PX X e) (hW : PW X W e) (hq : q ≤ e) : ∀ (d i f : Nat), i + d = bsSl.getD t 0 → d < f →
    fX9_isWord_35 t f (nI i) (rst W te (nI q) kd nm er ep mr R) = some (b2 (wAll X e q t d i), rst W te (nI q) kd nm er ep mr R) := by
  have he := hX.2
  have h9 := sl_9 t
  intro d
  induction d with
  | zero =>
    intro i f hi hf
    obtain ⟨f, rfl⟩ : ∃ z, f = z + 1 := ⟨f - 1, by omega⟩
    rw [fX9_isWord_35, if_pos (show bsLen t ≤ nI i from (pu_le (bsSl.getD t 0) i (by omega) (by omega)).mpr (by omega))]
    rfl
  | succ d ih =>
    intro i f hi hf
    obtain ⟨f, rfl⟩ : ∃ z, f = z + 1 := ⟨f - 1, by omega⟩
    rw [fX9_isWord_35, if_neg (show ¬ bsLen t ≤ nI i from fun z => by have := (pu_le (bsSl.getD t 0) i (by omega) (by omega)).mp z; omega), r12, pu_add, seen_r hX hW (by omega), Option.bind_some, if_pos ((pu_in i _ (by omega)).mpr (by omega)), pu_ix i (by omega)]
    unfold wAll
    by_cases h : sn X e (q + i) = bsChr t i
    · rw [if_pos h, if_pos h, pu_succ]
      exact ih (i + 1) f (by omega) (by omega)
    · rw [if_neg h, if_neg h]; rfl
theorem tkR_1 {kd kr : Int32} (h : tkR kd kr) : (kr = 1 ↔ kd = 2) ∧ (kr = 2 ↔ kd = 3) ∧ (kr = 3 ↔ kd = 4) ∧ (kr = 0 ↔ kd = 0) := by
  rcases h with ⟨rfl, rfl⟩ | ⟨rfl, rfl⟩ | ⟨rfl, rfl⟩ | ⟨rfl, rfl⟩ | ⟨rfl, rfl⟩ <;> decide
theorem word_r {X W : bsX} {e q r t : Nat} {kd kr nm ep mr : Int32} {R : Nat → Int32} (hX : PX X e) (hW : PW X W e) (hq : q ≤ r) (hr : r ≤ e) (hk : tkR kd kr) :
    fX9_isWord t (rst W (nI r) (nI q) kr nm 0 ep mr R) = some (b2 (isW X e q r t kd), rst W (nI r) (nI q) kr nm 0 ep mr R) := by
  have he := hX.2
  have h9 := sl_9 t
  unfold fX9_isWord isW
  rw [r15, if_pos rfl, r13, r11, r12, pu_sub r q hq]
  by_cases h2 : kd = 2
  · rw [if_pos ((tkR_1 hk).1.mpr h2), if_pos h2]
    by_cases hl : r - q = bsSl.getD t 0
    · rw [if_pos (show nI (r - q) = bsLen t by rw [hl]; rfl), if_pos hl]
      exact word_rL hX hW (by omega) _ 0 bsF (by omega) (by unfold bsF; omega)
    · rw [if_neg (show ¬ nI (r - q) = bsLen t from fun z => hl ((pu_eq _ _ (by omega) (by omega)).mp z)), if_neg hl]; rfl
  · rw [if_neg (fun z => h2 ((tkR_1 hk).1.mp z)), if_neg h2]; rfl
theorem fail_c0 {X : bsX} {kd ts te ep c : Int32} {mk : Nat → Int32} {Y : pY} : fX4_fail c (cst X kd ts te 0 ep mk Y) = some (cst X kd ts te c ts mk Y) := by
  unfold fX4_fail; rw [c8, if_pos rfl, cw8, c6, cw9]
theorem fail_c1 {X : bsX} {kd ts te er ep c : Int32} {mk : Nat → Int32} {Y : pY} (h : er ≠ 0) : fX4_fail c (cst X kd ts te er ep mk Y) = some (cst X kd ts te er ep mk Y) := by
  unfold fX4_fail; rw [c8, if_neg h]
theorem fail_r0 {W : bsX} {te ts kd nm ep mr c : Int32} {R : Nat → Int32} : fX9_fails c (rst W te ts kd nm 0 ep mr R) = some (rst W te ts kd nm c ts mr R) := by
  unfold fX9_fails; rw [r15, if_pos rfl, rw15, r12, rw16]
theorem fail_r1 {W : bsX} {te ts kd nm er ep mr c : Int32} {R : Nat → Int32} (h : er ≠ 0) : fX9_fails c (rst W te ts kd nm er ep mr R) = some (rst W te ts kd nm er ep mr R) := by
  unfold fX9_fails; rw [r15, if_neg h]
def Tc (e : Nat) (kd : Int32) (q r : Nat) : Prop := q ≤ r ∧ r ≤ e ∧ (kd = 3 → r = q + 1 ∨ r = q + 2)
def Tk (X : bsX) (e : Nat) (kd kr : Int32) (q r : Nat) (nm : Int32) : Prop := q ≤ r ∧ r ≤ e ∧ tkR kd kr ∧ (kd ≠ 0 → q < r) ∧ (kd = 3 → (r = q + 1 ∨ r = q + 2) ∧ nm = nmF X e q (r - q))
theorem Tk.tc {X : bsX} {e q r : Nat} {kd kr nm : Int32} (h : Tk X e kd kr q r nm) : Tc e kd q r := ⟨h.1, h.2.1, fun z => (h.2.2.2.2 z).1⟩
/-- a number in the class -/
theorem num_c {X : bsX} {e q r : Nat} {er ep lo hi : Int32} {mk : Nat → Int32} {Y : pY} (hX : PX X e) (hr : r ≤ e) (hqr : r = q + 1 ∨ r = q + 2) :
    fX4_numberWithin lo hi (cst X 3 (nI q) (nI r) er ep mk Y) = if lo ≤ nmF X e q (r - q) ∧ nmF X e q (r - q) ≤ hi then some (nmF X e q (r - q), cst X 3 (nI q) (nI r) er ep mk Y) else fX4_numberWithin_63 (cst X 3 (nI q) (nI r) er ep mk Y) := by
  have he := hX.2
  obtain ⟨f, hf⟩ := bsF_5
  have fin : ∀ (m : Nat) (v : Int32), fX4_numberWithin_23 (m + 1) lo hi v (nI r) (cst X 3 (nI q) (nI r) er ep mk Y) = if lo ≤ v ∧ v ≤ hi then some (v, cst X 3 (nI q) (nI r) er ep mk Y) else fX4_numberWithin_63 (cst X 3 (nI q) (nI r) er ep mk Y) := by
    intro m v
    rw [fX4_numberWithin_23, c7, if_pos (Int32.le_refl _)]
    by_cases h1 : v < lo
    · rw [if_pos h1, if_neg (fun z => absurd z.1 (pu_nle.mpr h1))]
    · rw [if_neg h1]
      by_cases h2 : v ≤ hi
      · rw [if_pos h2, if_pos ⟨pu_nlt.mp h1, h2⟩]
      · rw [if_neg h2, if_neg (fun z => h2 z.2)]
  have step : ∀ (m i : Nat) (v : Int32), i < r → fX4_numberWithin_23 (m + 1) lo hi v (nI i) (cst X 3 (nI q) (nI r) er ep mk Y) = fX4_numberWithin_23 m lo hi (((v * (10 : Int32)) + sn X e i) - 48) (nI (i + 1)) (cst X 3 (nI q) (nI r) er ep mk Y) := by
    intro m i v hi'
    rw [fX4_numberWithin_23, c7, if_neg (fun z => by have := (pu_le r i (by omega) (by omega)).mp z; omega), byte_c hX (by omega), Option.bind_some, pu_succ]
  unfold fX4_numberWithin
  rw [c5, if_pos rfl, c6, hf]
  rcases hqr with rfl | rfl
  · have e1 : q + 1 - q = 1 := by omega
    rw [step _ q _ (by omega), fin, e1]
    have : ((0 : Int32) * 10 + sn X e q) - 48 = nmF X e q 1 := by rw [Int32.mul_comm]; rfl
    rw [this]
  · have e1 : q + 2 - q = 2 := by omega
    rw [step _ q _ (by omega), step _ (q + 1) _ (by omega), fin, e1]
    have : ((((0 : Int32) * 10 + sn X e q) - 48) * 10 + sn X e (q + 1)) - 48 = nmF X e q 2 := by
      rw [Int32.mul_comm 0 10, Int32.mul_comm _ 10]; rfl
    rw [this]
theorem num_c' {X : bsX} {kd ts te er ep lo hi : Int32} {mk : Nat → Int32} {Y : pY} (h : kd ≠ 3) : fX4_numberWithin lo hi (cst X kd ts te er ep mk Y) = ((fX4_fail 1 (cst X kd ts te er ep mk Y)).bind fun r8 => some ((-1 : Int32), r8)) := by
  unfold fX4_numberWithin; rw [c5, if_neg h]
theorem go0 {W : bsX} {te ts kd nm ep mr : Int32} {R : Nat → Int32} : fX9_goesOn (rst W te ts kd nm 0 ep mr R) = fX9_token (rst W te ts kd nm 0 ep mr R) := by
  unfold fX9_goesOn
  rw [r15, if_pos rfl]
  cases fX9_token (rst W te ts kd nm 0 ep mr R) <;> rfl
theorem go1 {W : bsX} {te ts kd nm er ep mr : Int32} {R : Nat → Int32} (he : er ≠ 0) : fX9_goesOn (rst W te ts kd nm er ep mr R) = some (rst W te ts kd nm er ep mr R) := by
  unfold fX9_goesOn
  rw [r15, if_neg he]
theorem lk0 {W : bsX} {te ts kd nm ep mr lo : Int32} {R : Nat → Int32} : fX9_looks_36 lo (rst W te ts kd nm 0 ep mr R) = some (nm, rst W te ts kd nm 0 ep mr R) := by
  unfold fX9_looks_36
  rw [r15, if_pos rfl, r14]
theorem lk1 {W : bsX} {te ts kd nm er ep mr lo : Int32} {R : Nat → Int32} (he : er ≠ 0) : fX9_looks_36 lo (rst W te ts kd nm er ep mr R) = some (lo, rst W te ts kd nm er ep mr R) := by
  unfold fX9_looks_36
  rw [r15, if_neg he]
/-- both sides look at a number, no error being known yet -/
theorem look_ex {X W : bsX} {e q r : Nat} {kd kr nm ep mr lo hi : Int32} {mk : Nat → Int32} {Y : pY} {R : Nat → Int32} (hX : PX X e) (hW : PW X W e) (hT : Tk X e kd kr q r nm) :
    (∃ v, lo ≤ v ∧ v ≤ hi ∧ kd = 3 ∧ fX4_numberWithin lo hi (cst X kd (nI q) (nI r) 0 ep mk Y) = some (v, cst X kd (nI q) (nI r) 0 ep mk Y) ∧ fX9_looks lo hi (rst W (nI r) (nI q) kr nm 0 ep mr R) = some (v, rst W (nI r) (nI q) kr nm 0 ep mr R)) ∨
    (∃ c, c ≠ 0 ∧ fX4_numberWithin lo hi (cst X kd (nI q) (nI r) 0 ep mk Y) = some (-1, cst X kd (nI q) (nI r) c (nI q) mk Y) ∧ fX9_looks lo hi (rst W (nI r) (nI q) kr nm 0 ep mr R) = some (lo, rst W (nI r) (nI q) kr nm c (nI q) mr R)) := by
  obtain ⟨t1, t2, t3, t4, t5⟩ := hT
  have c10 : ¬ (1 : Int32) = 0 := by decide
  have c20 : ¬ (2 : Int32) = 0 := by decide
  by_cases h3 : kd = 3
  · obtain ⟨u1, u2⟩ := t5 h3
    have k2 : kr = 2 := (tkR_1 t3).2.1.mpr h3
    subst h3
    rw [num_c hX t2 u1, ← u2]
    by_cases g : lo ≤ nm ∧ nm ≤ hi
    · left
      refine ⟨nm, g.1, g.2, rfl, by rw [if_pos g], ?_⟩
      unfold fX9_looks
      rw [r13, if_pos k2, r14, q9_in, Option.bind_some, decide_eq_true g, b2_t, if_neg c10]
      exact lk0
    · right
      refine ⟨2, c20, ?_, ?_⟩
      · rw [if_neg g]; unfold fX4_numberWithin_63; rw [fail_c0, Option.bind_some]
      · unfold fX9_looks
        rw [r13, if_pos k2, r14, q9_in, Option.bind_some, decide_eq_false g, b2_f, if_pos rfl]
        dsimp only
        rw [fail_r0, Option.bind_some, lk1 c20]
  · right
    have k2 : ¬ kr = 2 := fun z => h3 ((tkR_1 t3).2.1.mp z)
    refine ⟨1, c10, ?_, ?_⟩
    · rw [num_c' h3, fail_c0, Option.bind_some]
    · unfold fX9_looks
      rw [r13, if_neg k2, fail_r0, Option.bind_some, lk1 c10]
/-- behind an error nothing but tokens is read -/
theorem e_tok {X W : bsX} {e q r : Nat} {kd er ep : Int32} {mk : Nat → Int32} {Y : pY} (hX : PX X e) (hW : PW X W e) (hT : Tc e kd q r) : ∃ kd' q' r', fX4_readToken (cst X kd (nI q) (nI r) er ep mk Y) = some (cst X kd' (nI q') (nI r') er ep mk Y) ∧ Tc e kd' q' r' := by
  obtain ⟨kd', kr', q', r', a1, a2, a3, a4, a5, a6, a7, a8⟩ := tok_ex hX hW hT.2.1
  exact ⟨kd', q', r', a7 _ _ _ _ _ _, a2, a3, a6⟩
theorem e_num {X : bsX} {e q r : Nat} {kd er ep lo hi : Int32} {mk : Nat → Int32} {Y : pY} (hX : PX X e) (hT : Tc e kd q r) (he : er ≠ 0) : ∃ x, fX4_numberWithin lo hi (cst X kd (nI q) (nI r) er ep mk Y) = some (x, cst X kd (nI q) (nI r) er ep mk Y) := by
  by_cases h3 : kd = 3
  · have u := hT.2.2 h3
    subst h3
    rw [num_c hX hT.2.1 u]
    by_cases g : lo ≤ nmF X e q (r - q) ∧ nmF X e q (r - q) ≤ hi
    · rw [if_pos g]; exact ⟨_, rfl⟩
    · rw [if_neg g]; unfold fX4_numberWithin_63; rw [fail_c1 he, Option.bind_some]; exact ⟨_, rfl⟩
  · rw [num_c' h3, fail_c1 he, Option.bind_some]; exact ⟨_, rfl⟩
theorem e_take {X W : bsX} {e q r : Nat} {kd er ep lo hi : Int32} {mk : Nat → Int32} {Y : pY} (hX : PX X e) (hW : PW X W e) (hT : Tc e kd q r) (he : er ≠ 0) : ∃ x kd' q' r', fX4_takeNumber lo hi (cst X kd (nI q) (nI r) er ep mk Y) = some (x, cst X kd' (nI q') (nI r') er ep mk Y) ∧ Tc e kd' q' r' := by
  obtain ⟨x, hx⟩ := e_num (lo := lo) (hi := hi) (ep := ep) (mk := mk) (Y := Y) hX hT he
  obtain ⟨kd', q', r', h1, h2⟩ := e_tok (er := er) (ep := ep) (mk := mk) (Y := Y) hX hW hT
  refine ⟨x, kd', q', r', ?_, h2⟩
  unfold fX4_takeNumber
  rw [hx, Option.bind_some]
  dsimp only
  rw [h1, Option.bind_some]
theorem e_word {X W : bsX} {e q r t : Nat} {kd er ep : Int32} {mk : Nat → Int32} {Y : pY} (hX : PX X e) (hW : PW X W e) (hT : Tc e kd q r) : ∃ b kd' q' r', fX4_takeIfWord t (cst X kd (nI q) (nI r) er ep mk Y) = some (b2 b, cst X kd' (nI q') (nI r') er ep mk Y) ∧ Tc e kd' q' r' := by
  have c10 : ¬ (1 : Int32) = 0 := by decide
  unfold fX4_takeIfWord
  rw [word_c hX hT.1 hT.2.1, Option.bind_some]
  dsimp only
  cases h : isW X e q r t kd
  · refine ⟨false, kd, q, r, ?_, hT⟩
    rw [b2_f, if_pos rfl, if_pos (Or.inl rfl)]
  · obtain ⟨kd', q', r', h1, h2⟩ := e_tok (er := er) (ep := ep) (mk := mk) (Y := Y) hX hW hT
    refine ⟨true, kd', q', r', ?_, h2⟩
    rw [b2_t, if_neg c10, h1, Option.bind_some, if_pos (Or.inr rfl)]
/-- both sides take a number -/
theorem take_ex {X W : bsX} {e q r : Nat} {kd kr nm ep mr lo hi : Int32} {mk : Nat → Int32} {Y : pY} {R : Nat → Int32} (hX : PX X e) (hW : PW X W e) (hT : Tk X e kd kr q r nm) :
    (∃ v kd' kr' q' r' nm', lo ≤ v ∧ v ≤ hi ∧ fX4_takeNumber lo hi (cst X kd (nI q) (nI r) 0 ep mk Y) = some (v, cst X kd' (nI q') (nI r') 0 ep mk Y) ∧ fX9_takes lo hi (rst W (nI r) (nI q) kr nm 0 ep mr R) = some (v, rst W (nI r') (nI q') kr' nm' 0 ep mr R) ∧ Tk X e kd' kr' q' r' nm' ∧ r ≤ q') ∨
    (∃ c x y kd' q' r', c ≠ 0 ∧ fX4_takeNumber lo hi (cst X kd (nI q) (nI r) 0 ep mk Y) = some (x, cst X kd' (nI q') (nI r') c (nI q) mk Y) ∧ Tc e kd' q' r' ∧ fX9_takes lo hi (rst W (nI r) (nI q) kr nm 0 ep mr R) = some (y, rst W (nI r) (nI q) kr nm c (nI q) mr R)) := by
  rcases look_ex (ep := ep) (mr := mr) (lo := lo) (hi := hi) (mk := mk) (Y := Y) (R := R) hX hW hT with ⟨v, v1, v2, _, v3, v4⟩ | ⟨c, k0, k1, k2⟩
  · left
    obtain ⟨kd', kr', q', r', a1, a2, a3, a4, a5, a6, a7, a8⟩ := tok_ex hX hW hT.2.1
    obtain ⟨nm', b1, b2⟩ := a8 (nI q) kr nm 0 ep mr R
    refine ⟨v, kd', kr', q', r', nm', v1, v2, ?_, ?_, ⟨a2, a3, a4, a5, fun z => ⟨a6 z, b2 z⟩⟩, a1⟩
    · unfold fX4_takeNumber
      rw [v3, Option.bind_some]
      dsimp only
      rw [a7, Option.bind_some]
    · unfold fX9_takes
      rw [v4, Option.bind_some]
      dsimp only
      rw [go0, b1, Option.bind_some]
  · right
    obtain ⟨kd', q', r', h1, h2⟩ := e_tok (er := c) (ep := nI q) (mk := mk) (Y := Y) hX hW hT.tc
    refine ⟨c, -1, lo, kd', q', r', k0, ?_, h2, ?_⟩
    · unfold fX4_takeNumber
      rw [k1, Option.bind_some]
      dsimp only
      rw [h1, Option.bind_some]
    · unfold fX9_takes
      rw [k2, Option.bind_some]
      dsimp only
      rw [go1 k0, Option.bind_some]
/-- in the reference nothing is taken behind an error -/
theorem e_takes {W : bsX} {te ts kd nm er ep mr lo hi : Int32} {R : Nat → Int32} (he : er ≠ 0) : ∃ y, fX9_takes lo hi (rst W te ts kd nm er ep mr R) = some (y, rst W te ts kd nm er ep mr R) := by
  have hl : fX9_looks lo hi (rst W te ts kd nm er ep mr R) = some (lo, rst W te ts kd nm er ep mr R) := by
    unfold fX9_looks
    rw [r13, r14]
    by_cases h2 : kd = 2
    · rw [if_pos h2, q9_in, Option.bind_some]
      dsimp only
      rw [fail_r1 he, Option.bind_some, lk1 he, ite_self]
    · rw [if_neg h2, fail_r1 he, Option.bind_some, lk1 he]
  refine ⟨lo, ?_⟩
  unfold fX9_takes
  rw [hl, Option.bind_some]
  dsimp only
  rw [go1 he, Option.bind_some]
