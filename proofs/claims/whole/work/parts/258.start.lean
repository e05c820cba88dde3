/-! THE START: what the tables and the claim say of it -/
section BSST
variable {args : Array Value} {s : State}
def tmS (i : Nat) : Term := match i with
  | 0 => .string "BootSlots$Parser" 65
  | 1 => .string "BootSlots$Parser" 87
  | 2 => .string "BootSlots$Parser" 92
  | 3 => .string "BootSlots$Parser" 124
  | 4 => .string "BootSlots$Parser" 131
  | 5 => .string "BootSlots$Parser" 97
  | 6 => .string "BootSlots$Parser" 139
  | 7 => .string "BootSlots" 349
  | 8 => .string "BootSlots" 367
  | 9 => .string "BootSlots" 375
  | 10 => .string "BootSlots" 377
  | 11 => .string "BootSlots" 379
  | 12 => .string "BootSlots" 381
  | _ => .string "BootSlots" 383
def narW : List Cond := flatC (Jvm.Cond.and given_1 narrow_1)
theorem st_ne {t1 t2 : Term} {x y : Nat} (h1 : t1.eval args s none [] s = some (.ref x)) (h2 : t2.eval args s none [] s = some (.ref y)) (h : x ≠ y) : (Cond.not (Cond.eq t1 t2)).before args s = true := by
  simp [Cond.before, Cond.holds, Cond.value, h1, h2, h]
theorem st_eqr {t1 t2 : Term} {x : Nat} (h : (Cond.eq t1 t2).before args s = true) (h1 : t1.eval args s none [] s = some (.ref x)) : t2.eval args s none [] s = some (.ref x) := by
  cases hb : t2.eval args s none [] s with
  | none => simp [Cond.before, Cond.holds, Cond.value, h1, hb] at h
  | some y =>
    simp only [Cond.before, Cond.holds, Cond.value, h1, hb] at h
    cases y <;> simp_all
theorem st_m1 : ∀ i, i < 14 → (Cond.exactly (tmS i) "java/lang/String") ∈ narW := by decide +kernel
theorem st_m2 : ∀ i, i < 14 → (Cond.eq (.field (tmS i) "java/lang/String" "coder" "B") (.int 0)) ∈ narW := by decide +kernel
theorem st_m3 : ∀ i, i < 14 → (Cond.arrayOf (.field (tmS i) "java/lang/String" "value" "[B") .byte) ∈ narW := by decide +kernel
theorem st_m4 : ∀ i, i < 14 → (Cond.eq (.length (.field (tmS i) "java/lang/String" "value" "[B")) (.int (Int32.ofNat (bsSl.getD i 0)))) ∈ narW := by decide +kernel
theorem st_m5 : ∀ i, i < 14 → ∀ j, j < bsSl.getD i 0 → (Cond.eq (.elem (.field (tmS i) "java/lang/String" "value" "[B") (.int (Int32.ofNat j))) (.int ((bsSb.getD i []).getD j 0))) ∈ narW := by decide +kernel
theorem st_df : ∀ i, i < 14 → ∀ j, j < 14 → i ≠ j → Int32.ofNat (bsSl.getD i 0) ≠ Int32.ofNat (bsSl.getD j 0) ∨ ((List.range 9).any fun k => decide (k < bsSl.getD i 0 ∧ k < bsSl.getD j 0 ∧ (bsSb.getD i []).getD k 0 ≠ (bsSb.getD j []).getD k 0)) = true := by decide +kernel
theorem st_str (hf : ∀ w ∈ narW, w.before args s = true) {A : Nat → Prop} (hA : ∀ a : Nat, a < s.heap.size → ¬ A a) : ∃ adK adV : Nat → Nat, vk_S 14 bsSl bsSb adK adV A s s.heap ∧ ∀ i : Nat, i < 14 → (tmS i).eval args s none [] s = some (.ref (adK i)) := by
  refine vk_Sof (tm := tmS) (by decide) (fun i hi => hf _ (st_m1 i hi)) (fun i hi => hf _ (st_m2 i hi)) (fun i hi => hf _ (st_m3 i hi)) (fun i hi => hf _ (st_m4 i hi)) (fun i hi j hj => hf _ (st_m5 i hi j hj)) (fun i j hi hj hij => Or.inl ?_) hA
  obtain ⟨a, _, _, _, q1, -⟩ := Cond.exactly_spec (args := args) (first := s) (o := none) (s := s) (idx := []) (t := tmS i) (cls := "java/lang/String") (hf _ (st_m1 i hi))
  obtain ⟨b, _, _, _, q2, -⟩ := Cond.exactly_spec (args := args) (first := s) (o := none) (s := s) (idx := []) (t := tmS j) (cls := "java/lang/String") (hf _ (st_m1 j hj))
  refine st_ne q1 q2 (fun e => ?_)
  subst e
  have e2 : (tmS i).eval args s none [] s = (tmS j).eval args s none [] s := q1.trans q2.symm
  have e3 : (Term.field (tmS i) "java/lang/String" "value" "[B").eval args s none [] s = (Term.field (tmS j) "java/lang/String" "value" "[B").eval args s none [] s := by simp only [Term.eval, e2]
  rcases st_df i hi j hj hij with h | h
  · have l1 := va_eqt (hf _ (st_m4 i hi))
    have l2 := va_eqt (hf _ (st_m4 j hj))
    have e4 : (Term.length (Term.field (tmS i) "java/lang/String" "value" "[B")).eval args s none [] s = (Term.length (Term.field (tmS j) "java/lang/String" "value" "[B")).eval args s none [] s := by
      unfold Term.eval
      rw [e3]
    rw [l1, l2] at e4
    exact h (by injection e4 with e4; injection e4)
  · obtain ⟨k, -, hk⟩ := List.any_eq_true.mp h
    obtain ⟨k1, k2, k3⟩ := of_decide_eq_true hk
    have l1 := va_eqt (hf _ (st_m5 i hi k k1))
    have l2 := va_eqt (hf _ (st_m5 j hj k k2))
    have e4 : (Term.elem (Term.field (tmS i) "java/lang/String" "value" "[B") (.int (Int32.ofNat k))).eval args s none [] s = (Term.elem (Term.field (tmS j) "java/lang/String" "value" "[B") (.int (Int32.ofNat k))).eval args s none [] s := by
      unfold Term.eval
      rw [e3]
    rw [l1, l2] at e4
    exact k3 (by injection e4 with e4; injection e4)
theorem st_r1 : ∀ t ∈ bsSR, (Cond.stringRef t.1 t.2.1 t.2.2.1) ∈ lw_tbl ∧ t.2.2.2 < 14 ∧ (tmS t.2.2.2 = .string t.1 t.2.1 ∨ (Cond.eq (tmS t.2.2.2) (.string t.1 t.2.1)) ∈ narW) := by decide +kernel
theorem st_r2 : ∀ E ∈ ["java/lang/IllegalStateException", "java/lang/IndexOutOfBoundsException", "java/lang/IllegalArgumentException"], Cond.castable E E ∈ lw_tbl := by decide +kernel
theorem st_r3 : ∀ Y ∈ bsDc, Cond.declares Y ∈ lw_tbl := by decide +kernel
theorem st_r4 : ∀ E ∈ ["java/lang/IllegalStateException", "java/lang/IndexOutOfBoundsException", "java/lang/IllegalArgumentException"], ∀ F ∈ ["java/lang/IllegalStateException", "java/lang/IndexOutOfBoundsException", "java/lang/IllegalArgumentException"], E ≠ F → (Cond.not (Cond.castable E F)) ∈ narW := by decide +kernel
theorem st_ex (hts : ∀ w ∈ lw_tbl, w.before args s = true) (hf : ∀ w ∈ narW, w.before args s = true) {A : Nat → Prop} (hA : ∀ a : Nat, a < s.heap.size → ¬ A a) : ∃ adK adV : Nat → Nat, ∀ ρ : bsR, ρ 16 0 = adK → ρ 16 1 = adV → bsEx ρ A s s.heap := by
  obtain ⟨adK, adV, h1, h2⟩ := st_str hf hA
  refine ⟨adK, adV, fun ρ r0 r1 => ?_⟩
  refine ⟨by rw [r0, r1]; exact h1, fun t ht => ?_, va_Zof (hts _ (by decide +kernel)) (hts _ (by decide +kernel)) (va_eqi (hf _ (by decide +kernel))) hA, va_Zqof (hts _ (by decide +kernel)) (hts _ (by decide +kernel)) (hf _ (by decide +kernel)) hA, ⟨vx_Zqof (hts _ (by decide +kernel)) (hts _ (by decide +kernel)) (hf _ (by decide +kernel)) hA, vx_Zqof (hts _ (by decide +kernel)) (hts _ (by decide +kernel)) (hf _ (by decide +kernel)) hA⟩, ⟨fun E hE => va_Nw.of rfl (hts _ (st_r2 E hE)), fun Y hY => va_Nw.of rfl (hts _ (st_r3 Y hY))⟩, fun E hE F hF hne => va_Nc.of (hf _ (st_r4 E hE F hF hne))⟩
  obtain ⟨g1, g2, g3⟩ := st_r1 t ht
  rw [r0]
  have g4 := h2 t.2.2.2 g2
  have g5 : (Term.string t.1 t.2.1).eval args s none [] s = some (.ref (adK t.2.2.2)) := by
    rcases g3 with g3 | g3
    · rw [← g3]; exact g4
    · exact st_eqr (hf _ g3) g4
  exact vk_R.of (A := args) (hts _ g1) g5
theorem st_w1 : ∀ t ∈ bsNF, (Cond.fieldLinkNest t.1 t.2.1 t.2.2.1 t.2.2.2.1 t.2.2.2.2.1 t.2.2.2.2.2) ∈ lw_tbl := by decide +kernel
theorem st_w2 : ∀ t ∈ bsNM, (Cond.methodLinkNest t.1 t.2.1 t.2.2.1 t.2.2.2) ∈ lw_tbl := by decide +kernel
theorem st_nw (hts : ∀ w ∈ lw_tbl, w.before args s = true) : bsNw s ∧ bsNc s := ⟨fun t ht => va_Nw.of rfl (hts _ (st_w1 t ht)), fun t ht => va_Nw.of rfl (hts _ (st_w2 t ht)), va_AO.of (hts _ (by decide +kernel)), va_AO.of (hts _ (by decide +kernel))⟩
theorem st_arr {ty : FieldType} (h : (Cond.arrayClass ty).before args s = true) (hp : ∀ c : ClassId, s.vm.findClass ("[" ++ ty.toString) = some c → va_RA s c ty) : ∃ c : ClassId, ArrOfT s c ty ∧ va_RA s c ty := by
  obtain ⟨c, k, comp, h1, h2, h3⟩ := Cond.arrayClass_spec (args := args) (first := s) (o := none) (s := s) (idx := []) h
  exact ⟨c, fun n z => ⟨fun k h => (by cases h), k, h2, comp, h3⟩, hp c h1⟩
theorem st_arO {C : String} (h : (Cond.arrayOver (.object C)).before args s = true) : ∃ c : ClassId, ArrOfT s c (.object C) ∧ va_RA s c (.object C) := by
  obtain ⟨comp, c, k, h1, h2, h3, h4, h5⟩ := Cond.arrayOver_spec h
  exact ⟨c, fun n z => ⟨fun k h => (by cases h), k, h3, comp, h4⟩, k, comp, h3, h4, h1, h5⟩
theorem st_K (hts : ∀ w ∈ lw_tbl, w.before args s = true) : ∃ (cA : Nat → ClassId) (dC : Nat → ClassId) (dI : Nat → Nat → Nat), va_K (dC, dI) vwCl (bsTys cA) s := by
  obtain ⟨a0, h0⟩ := st_arr (ty := .int) (hts _ (by decide +kernel)) (fun c h => h)
  obtain ⟨a1, h1⟩ := st_arr (ty := .byte) (hts _ (by decide +kernel)) (fun c h => h)
  obtain ⟨a2, h2⟩ := st_arr (ty := .boolean) (hts _ (by decide +kernel)) (fun c h => h)
  obtain ⟨a3, h3⟩ := st_arO (C := "BootSlots$Slot") (hts _ (by decide +kernel))
  obtain ⟨a4, h4⟩ := st_arO (C := "BootSlots$Machine") (hts _ (by decide +kernel))
  obtain ⟨a5, h5⟩ := st_arr (ty := .long) (hts _ (by decide +kernel)) (fun c h => h)
  obtain ⟨a6, h6⟩ := st_arr (ty := .double) (hts _ (by decide +kernel)) (fun c h => h)
  have hT : ∀ w ∈ bsG, w ∈ lw_tbl := fun w h => (List.mem_filter.mp h).1
  obtain ⟨c0, i0, k0⟩ := u_known (C := RX0) (T := TX0) (N := 5) (n := 5) hts (fun w h => hT w (bsin_X0 w h)) (hts _ (by decide +kernel))
  obtain ⟨c1, i1, k1⟩ := u_known (C := RX1) (T := TX1) (N := 6) (n := 6) hts (fun w h => hT w (bsin_X1 w h)) (hts _ (by decide +kernel))
  obtain ⟨c2, i2, k2⟩ := u_known (C := RX2) (T := TX2) (N := 4) (n := 4) hts (fun w h => hT w (bsin_X2 w h)) (hts _ (by decide +kernel))
  obtain ⟨c3, i3, k3⟩ := u_known (C := RX3) (T := TX3) (N := 13) (n := 13) hts (fun w h => hT w (bsin_X3 w h)) (hts _ (by decide +kernel))
  obtain ⟨c4, i4, k4⟩ := u_known (C := RX4) (T := TX4) (N := 10) (n := 10) hts (fun w h => hT w (bsin_X4 w h)) (hts _ (by decide +kernel))
  obtain ⟨c5, i5, k5⟩ := u_known (C := RX5) (T := TX5) (N := 9) (n := 9) hts (fun w h => hT w (bsin_X5 w h)) (hts _ (by decide +kernel))
  obtain ⟨c6, i6, k6⟩ := u_known (C := RX6) (T := TX6) (N := 7) (n := 7) hts (fun w h => hT w (bsin_X6 w h)) (hts _ (by decide +kernel))
  obtain ⟨c7, i7, k7⟩ := u_known (C := RX7) (T := TX7) (N := 2) (n := 2) hts (fun w h => hT w (bsin_X7 w h)) (hts _ (by decide +kernel))
  obtain ⟨c8, i8, k8⟩ := u_known (C := RX8) (T := TX8) (N := 10) (n := 10) hts (fun w h => hT w (bsin_X8 w h)) (hts _ (by decide +kernel))
  obtain ⟨c9, i9, k9⟩ := u_known (C := RX9) (T := TX9) (N := 21) (n := 21) hts (fun w h => hT w (bsin_X9 w h)) (hts _ (by decide +kernel))
  refine ⟨fun k => match k with | 0 => a0 | 1 => a1 | 2 => a2 | 3 => a3 | 4 => a4 | 5 => a5 | _ => a6, fun k => match k with | 0 => c0 | 1 => c1 | 2 => c2 | 3 => c3 | 4 => c4 | 5 => c5 | 6 => c6 | 7 => c7 | 8 => c8 | _ => c9, fun k => match k with | 0 => i0 | 1 => i1 | 2 => i2 | 3 => i3 | 4 => i4 | 5 => i5 | 6 => i6 | 7 => i7 | 8 => i8 | _ => i9, fun k q hq => ?_, fun k q hq => ?_⟩
  · match k, hq with
    | 0, hq => cases hq; exact k0
    | 1, hq => cases hq; exact k1
    | 2, hq => cases hq; exact k2
    | 3, hq => cases hq; exact k3
    | 4, hq => cases hq; exact k4
    | 5, hq => cases hq; exact k5
    | 6, hq => cases hq; exact k6
    | 7, hq => cases hq; exact k7
    | 8, hq => cases hq; exact k8
    | 9, hq => cases hq; exact k9
    | k + 10, hq => simp at hq
  · match k, hq with
    | 0, hq => cases hq; exact h0
    | 1, hq => cases hq; exact h1
    | 2, hq => cases hq; exact h2
    | 3, hq => cases hq; exact h3
    | 4, hq => cases hq; exact h4
    | 5, hq => cases hq; exact h5
    | 6, hq => cases hq; exact h6
    | k + 7, hq => simp [bsTys] at hq
end BSST
