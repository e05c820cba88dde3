/-! THE START: what the tables and the claim say of it -/
section BSST
variable {args : Array Value} {s : State}
def tmS (i : Nat) : Term := match i with
  | 0 => .string "BootSlots$Parser" 65
  | 1 => .string "BootSlots$Parser" 87
  | 2 => .string "BootSlots$Parser" 92
  | 3 => .string "BootSlots$Parser" 124
  | 4 => .string "BootSlots$Parser" 131
  | 5 => .string "BootSlots$Parser" 97
  | 6 => .string "BootSlots$Parser" 139
  | 7 => .string "BootSlotsLaw" 310
  | 8 => .string "BootSlotsLaw$World" 71
  | 9 => .string "BootSlots" 375
  | 10 => .string "BootSlotsLaw$World" 87
  | 11 => .string "BootSlotsLaw$World" 91
  | 12 => .string "BootSlots" 381
  | 13 => .string "BootSlotsLaw$World" 99
  | 14 => .string "BootSlotsLaw$World" 48
  | 15 => .string "BootSlotsLaw$World" 85
  | 16 => .string "BootSlotsLaw$World" 89
  | 17 => .string "BootSlotsLaw$World" 97
  | 18 => .string "BootSlotsLaw" 291
  | 19 => .string "BootSlotsLaw" 295
  | 20 => .string "BootSlotsLaw" 297
  | _ => .string "BootSlotsLaw" 326
def narW : List Cond := flatC (Jvm.Cond.and given_1 narrow_1)
theorem st_ne {t1 t2 : Term} {x y : Nat} (h1 : t1.eval args s none [] s = some (.ref x)) (h2 : t2.eval args s none [] s = some (.ref y)) (h : x ≠ y) : (Cond.not (Cond.eq t1 t2)).before args s = true := by
  simp [Cond.before, Cond.holds, Cond.value, h1, h2, h]
theorem st_eqr {t1 t2 : Term} {x : Nat} (h : (Cond.eq t1 t2).before args s = true) (h1 : t1.eval args s none [] s = some (.ref x)) : t2.eval args s none [] s = some (.ref x) := by
  cases hb : t2.eval args s none [] s with
  | none => simp [Cond.before, Cond.holds, Cond.value, h1, hb] at h
  | some y =>
    simp only [Cond.before, Cond.holds, Cond.value, h1, hb] at h
    cases y <;> simp_all
def offS : List Nat := [396, 407, 415, 424, 436, 447, 455, 566, 328, 620, 348, 365, 659, 387, 316, 337, 361, 377, 486, 496, 501, 592]
theorem st_in {i : Nat} {w : Cond} (h : narW[i]? = some w) : w ∈ narW := List.mem_of_getElem? h
theorem st_n1 : ∀ i, i < 22 → narW[offS.getD i 0]? = some (Cond.exactly (tmS i) "java/lang/String") ∧ narW[offS.getD i 0 + 1]? = some (Cond.eq (.field (tmS i) "java/lang/String" "coder" "B") (.int 0)) ∧ narW[offS.getD i 0 + 2]? = some (Cond.arrayOf (.field (tmS i) "java/lang/String" "value" "[B") .byte) ∧ narW[offS.getD i 0 + 3]? = some (Cond.eq (.length (.field (tmS i) "java/lang/String" "value" "[B")) (.int (Int32.ofNat (bsSl.getD i 0)))) := by decide +kernel
theorem st_m1 (i : Nat) (h : i < 22) : (Cond.exactly (tmS i) "java/lang/String") ∈ narW := st_in (st_n1 i h).1
theorem st_m2 (i : Nat) (h : i < 22) : (Cond.eq (.field (tmS i) "java/lang/String" "coder" "B") (.int 0)) ∈ narW := st_in (st_n1 i h).2.1
theorem st_m3 (i : Nat) (h : i < 22) : (Cond.arrayOf (.field (tmS i) "java/lang/String" "value" "[B") .byte) ∈ narW := st_in (st_n1 i h).2.2.1
theorem st_m4 (i : Nat) (h : i < 22) : (Cond.eq (.length (.field (tmS i) "java/lang/String" "value" "[B")) (.int (Int32.ofNat (bsSl.getD i 0)))) ∈ narW := st_in (st_n1 i h).2.2.2
theorem st_n5 : ∀ i, i < 22 → ∀ j, j < bsSl.getD i 0 → narW[offS.getD i 0 + 4 + j]? = some (Cond.eq (.elem (.field (tmS i) "java/lang/String" "value" "[B") (.int (Int32.ofNat j))) (.int ((bsSb.getD i []).getD j 0))) := by decide +kernel
theorem st_m5 (i : Nat) (h : i < 22) (j : Nat) (hj : j < bsSl.getD i 0) : (Cond.eq (.elem (.field (tmS i) "java/lang/String" "value" "[B") (.int (Int32.ofNat j))) (.int ((bsSb.getD i []).getD j 0))) ∈ narW := st_in (st_n5 i h j hj)
theorem st_df : ∀ i, i < 22 → ∀ j, j < 22 → i ≠ j → Int32.ofNat (bsSl.getD i 0) ≠ Int32.ofNat (bsSl.getD j 0) ∨ ((List.range 9).any fun k => decide (k < bsSl.getD i 0 ∧ k < bsSl.getD j 0 ∧ (bsSb.getD i []).getD k 0 ≠ (bsSb.getD j []).getD k 0)) = true := by decide +kernel
theorem st_str (hf : ∀ w ∈ narW, w.before args s = true) {A : Nat → Prop} (hA : ∀ a : Nat, a < s.heap.size → ¬ A a) : ∃ adK adV : Nat → Nat, vk_S 22 bsSl bsSb adK adV A s s.heap ∧ ∀ i : Nat, i < 22 → (tmS i).eval args s none [] s = some (.ref (adK i)) := by
  refine vk_Sof (tm := tmS) (by decide) (fun i hi => hf _ (st_m1 i hi)) (fun i hi => hf _ (st_m2 i hi)) (fun i hi => hf _ (st_m3 i hi)) (fun i hi => hf _ (st_m4 i hi)) (fun i hi j hj => hf _ (st_m5 i hi j hj)) (fun i j hi hj hij => Or.inl ?_) hA
  obtain ⟨a, _, _, _, q1, -⟩ := Cond.exactly_spec (args := args) (first := s) (o := none) (s := s) (idx := []) (t := tmS i) (cls := "java/lang/String") (hf _ (st_m1 i hi))
  obtain ⟨b, _, _, _, q2, -⟩ := Cond.exactly_spec (args := args) (first := s) (o := none) (s := s) (idx := []) (t := tmS j) (cls := "java/lang/String") (hf _ (st_m1 j hj))
  refine st_ne q1 q2 (fun e => ?_)
  subst e
  have e2 : (tmS i).eval args s none [] s = (tmS j).eval args s none [] s := q1.trans q2.symm
  have e3 : (Term.field (tmS i) "java/lang/String" "value" "[B").eval args s none [] s = (Term.field (tmS j) "java/lang/String" "value" "[B").eval args s none [] s := by simp only [Term.eval, e2]
  rcases st_df i hi j hj hij with h | h
  · have l1 := va_eqt (hf _ (st_m4 i hi))
    have l2 := va_eqt (hf _ (st_m4 j hj))
    have e4 : (Term.length (Term.field (tmS i) "java/lang/String" "value" "[B")).eval args s none [] s = (Term.length (Term.field (tmS j) "java/lang/String" "value" "[B")).eval args s none [] s := by
      unfold Term.eval
      rw [e3]
    rw [l1, l2] at e4
    exact h (by injection e4 with e4; injection e4)
  · obtain ⟨k, -, hk⟩ := List.any_eq_true.mp h
    obtain ⟨k1, k2, k3⟩ := of_decide_eq_true hk
    have l1 := va_eqt (hf _ (st_m5 i hi k k1))
    have l2 := va_eqt (hf _ (st_m5 j hj k k2))
    have e4 : (Term.elem (Term.field (tmS i) "java/lang/String" "value" "[B") (.int (Int32.ofNat k))).eval args s none [] s = (Term.elem (Term.field (tmS j) "java/lang/String" "value" "[B") (.int (Int32.ofNat k))).eval args s none [] s := by
      unfold Term.eval
      rw [e3]
    rw [l1, l2] at e4
    exact k3 (by injection e4 with e4; injection e4)
theorem st_r1 : ∀ t ∈ bsSR, (Cond.stringRef t.1 t.2.1 t.2.2.1) ∈ lw_tbl ∧ t.2.2.2 < 22 ∧ (tmS t.2.2.2 = .string t.1 t.2.1 ∨ (Cond.eq (tmS t.2.2.2) (.string t.1 t.2.1)) ∈ narW) := by decide +kernel
theorem st_r2 : ∀ E ∈ ["java/lang/IllegalStateException", "java/lang/IndexOutOfBoundsException", "java/lang/IllegalArgumentException"], Cond.castable E E ∈ lw_tbl := by decide +kernel
theorem st_r3 : ∀ Y ∈ bsDc, Cond.declares Y ∈ lw_tbl := by decide +kernel
theorem st_r4 : ∀ E ∈ ["java/lang/IllegalStateException", "java/lang/IndexOutOfBoundsException", "java/lang/IllegalArgumentException"], ∀ F ∈ ["java/lang/IllegalStateException", "java/lang/IndexOutOfBoundsException", "java/lang/IllegalArgumentException"], E ≠ F → (Cond.not (Cond.castable E F)) ∈ narW := by decide +kernel
theorem st_ex (hts : ∀ w ∈ lw_tbl, w.before args s = true) (hf : ∀ w ∈ narW, w.before args s = true) {A : Nat → Prop} (hA : ∀ a : Nat, a < s.heap.size → ¬ A a) : ∃ adK adV : Nat → Nat, ∀ ρ : bsR, ρ 16 0 = adK → ρ 16 1 = adV → bsEx ρ A s s.heap := by
  obtain ⟨adK, adV, h1, h2⟩ := st_str hf hA
  refine ⟨adK, adV, fun ρ r0 r1 => ?_⟩
  refine ⟨by rw [r0, r1]; exact h1, fun t ht => ?_, va_Zof (hts _ (by decide +kernel)) (hts _ (by decide +kernel)) (va_eqi (hf _ (by decide +kernel))) hA, va_Zqof (hts _ (by decide +kernel)) (hts _ (by decide +kernel)) (hf _ (by decide +kernel)) hA, ⟨vx_Zqof (hts _ (by decide +kernel)) (hts _ (by decide +kernel)) (hf _ (by decide +kernel)) hA, vx_Zqof (hts _ (by decide +kernel)) (hts _ (by decide +kernel)) (hf _ (by decide +kernel)) hA⟩, ⟨fun E hE => va_Nw.of rfl (hts _ (st_r2 E hE)), fun Y hY => va_Nw.of rfl (hts _ (st_r3 Y hY))⟩, fun E hE F hF hne => va_Nc.of (hf _ (st_r4 E hE F hF hne))⟩
  obtain ⟨g1, g2, g3⟩ := st_r1 t ht
  rw [r0]
  have g4 := h2 t.2.2.2 g2
  have g5 : (Term.string t.1 t.2.1).eval args s none [] s = some (.ref (adK t.2.2.2)) := by
    rcases g3 with g3 | g3
    · rw [← g3]; exact g4
    · exact st_eqr (hf _ g3) g4
  exact vk_R.of (A := args) (hts _ g1) g5
theorem st_w1 : ∀ t ∈ bsNF, (Cond.fieldLinkNest t.1 t.2.1 t.2.2.1 t.2.2.2.1 t.2.2.2.2.1 t.2.2.2.2.2) ∈ lw_tbl := by decide +kernel
theorem st_w2 : ∀ t ∈ bsNM, (Cond.methodLinkNest t.1 t.2.1 t.2.2.1 t.2.2.2) ∈ lw_tbl := by decide +kernel
theorem st_nw (hts : ∀ w ∈ lw_tbl, w.before args s = true) : bsNw s ∧ bsNc s := ⟨fun t ht => va_Nw.of rfl (hts _ (st_w1 t ht)), fun t ht => va_Nw.of rfl (hts _ (st_w2 t ht)), va_AO.of (hts _ (by decide +kernel)), va_AO.of (hts _ (by decide +kernel))⟩
theorem st_arr {ty : FieldType} (h : (Cond.arrayClass ty).before args s = true) (hp : ∀ c : ClassId, s.vm.findClass ("[" ++ ty.toString) = some c → va_RA s c ty) : ∃ c : ClassId, ArrOfT s c ty ∧ va_RA s c ty := by
  obtain ⟨c, k, comp, h1, h2, h3⟩ := Cond.arrayClass_spec (args := args) (first := s) (o := none) (s := s) (idx := []) h
  exact ⟨c, fun n z => ⟨fun k h => (by cases h), k, h2, comp, h3⟩, hp c h1⟩
theorem st_arO {C : String} (h : (Cond.arrayOver (.object C)).before args s = true) : ∃ c : ClassId, ArrOfT s c (.object C) ∧ va_RA s c (.object C) := by
  obtain ⟨comp, c, k, h1, h2, h3, h4, h5⟩ := Cond.arrayOver_spec h
  exact ⟨c, fun n z => ⟨fun k h => (by cases h), k, h3, comp, h4⟩, k, comp, h3, h4, h1, h5⟩
/-! what lies beside the law's world -/
theorem st_e1 : ∀ j, j < 100 → narW[12 + j]? = some (Cond.eq (.elem (.static "java/lang/Integer" "DigitOnes" "[B") (.int (Int32.ofNat j))) (.int (nI (48 + j % 10)))) := by decide +kernel
theorem st_d1 (j : Nat) (h : j < 100) : (Cond.eq (.elem (.static "java/lang/Integer" "DigitOnes" "[B") (.int (Int32.ofNat j))) (.int (nI (48 + j % 10)))) ∈ narW := st_in (st_e1 j h)
theorem st_e2 : ∀ j, j < 100 → narW[115 + j]? = some (Cond.eq (.elem (.static "java/lang/Integer" "DigitTens" "[B") (.int (Int32.ofNat j))) (.int (nI (48 + j / 10)))) := by decide +kernel
theorem st_d2 (j : Nat) (h : j < 100) : (Cond.eq (.elem (.static "java/lang/Integer" "DigitTens" "[B") (.int (Int32.ofNat j))) (.int (nI (48 + j / 10)))) ∈ narW := st_in (st_e2 j h)
theorem st_x1 : ∀ t ∈ xLk, (Cond.methodLinkNest t.1 t.2.1 t.2.2.1 t.2.2.2) ∈ lw_tbl := by decide +kernel
theorem st_x2 : ∀ y ∈ xPv, (Cond.privateMethod y) ∈ lw_tbl ∧ (Cond.instanceMethod y) ∈ lw_tbl ∧ (Cond.sameMethod y.cls y.cls y.name y.desc) ∈ lw_tbl := by decide +kernel
theorem st_x3 : ∀ y ∈ xPv, y.cls ≠ "java/lang/invoke/MethodHandle" ∧ y.cls ≠ "java/lang/invoke/VarHandle" := by decide +kernel
theorem st_dig (hts : ∀ w ∈ lw_tbl, w.before args s = true) (hf : ∀ w ∈ narW, w.before args s = true) {A : Nat → Prop} (hA : ∀ a : Nat, a < s.heap.size → ¬ A a) : ∃ d1 d2 : Nat, (va_Z "java/lang/Integer" "DigitOnes" "[B" (.ref d1) A s s.heap ∧ va_T .byte d1 100 (fun j => .int (nI (48 + j % 10))) A s s.heap) ∧ (va_Z "java/lang/Integer" "DigitTens" "[B" (.ref d2) A s s.heap ∧ va_T .byte d2 100 (fun j => .int (nI (48 + j / 10))) A s s.heap) := by
  obtain ⟨d1, a1, a2⟩ := va_Tof (tm := .static "java/lang/Integer" "DigitOnes" "[B") (ty := .byte) (N := 100) (f := fun j => .int (nI (48 + j % 10))) (A := A) (by decide) (hf _ (by decide +kernel)) (va_eqt (hf _ (by decide +kernel))) (fun j hj => va_eqt (hf _ (st_d1 j hj))) hA
  obtain ⟨d2, b1, b2⟩ := va_Tof (tm := .static "java/lang/Integer" "DigitTens" "[B") (ty := .byte) (N := 100) (f := fun j => .int (nI (48 + j / 10))) (A := A) (by decide) (hf _ (by decide +kernel)) (va_eqt (hf _ (by decide +kernel))) (fun j hj => va_eqt (hf _ (st_d2 j hj))) hA
  exact ⟨d1, d2, ⟨va_Zof (hts _ (by decide +kernel)) (hts _ (by decide +kernel)) a1 hA, a2⟩, va_Zof (hts _ (by decide +kernel)) (hts _ (by decide +kernel)) b1 hA, b2⟩
theorem st_xe (hts : ∀ w ∈ lw_tbl, w.before args s = true) (hf : ∀ w ∈ narW, w.before args s = true) {A : Nat → Prop} (hA : ∀ a : Nat, a < s.heap.size → ¬ A a) {cA : Nat → ClassId} (hR : xRow cA s) : ∃ d1 d2 : Nat, ∀ (ρ : bsR) (sc L : Nat) (xs : Nat → Int32), ρ 17 0 0 = d1 → ρ 17 1 0 = d2 → va_T .int sc L (fun j => .int (xs j)) A s s.heap → L ≤ 260 → xEx ρ sc L xs cA A s s.heap := by
  obtain ⟨d1, d2, h1, h2⟩ := st_dig hts hf hA
  refine ⟨d1, d2, fun ρ sc L xs r1 r2 hx hL => ⟨⟨hx, hL⟩, ⟨by rw [r1]; exact h1, by rw [r2]; exact h2⟩, fun t ht => va_Nw.of rfl (hts _ (st_x1 t ht)), va_AO.of (hts _ (by decide +kernel)), hts (Cond.arrayOver (.array .int)) (by decide +kernel), hR, va_Nw.of rfl (hts _ (by decide +kernel)), va_Nw.of rfl (hts _ (by decide +kernel)), fun y hy => ?_⟩⟩
  obtain ⟨g1, g2, g3⟩ := st_x2 y hy
  exact va_Nw.of rfl (x_selP (hts _ (by decide +kernel)) (hts _ g1) (hts _ g2) (hts _ g3) (st_x3 y hy))
end BSST
