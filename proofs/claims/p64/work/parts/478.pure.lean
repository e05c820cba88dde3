section BSST
variable {args : Array Value} {s : State}
theorem st_K (hts : ∀ w ∈ lw_tbl, w.before args s = true) : ∃ (cA : Nat → ClassId) (dC : Nat → ClassId) (dI : Nat → Nat → Nat), va_K (dC, dI) vwCl (bsTys cA) s ∧ xRow cA s := by
  obtain ⟨a0, h0⟩ := st_arr (ty := .int) (hts _ (by decide +kernel)) (fun c h => h)
  obtain ⟨a1, h1⟩ := st_arr (ty := .byte) (hts _ (by decide +kernel)) (fun c h => h)
  obtain ⟨a2, h2⟩ := st_arr (ty := .boolean) (hts _ (by decide +kernel)) (fun c h => h)
  obtain ⟨a3, h3⟩ := st_arO (C := "BootSlots$Slot") (hts _ (by decide +kernel))
  obtain ⟨a4, h4⟩ := st_arO (C := "BootSlots$Machine") (hts _ (by decide +kernel))
  obtain ⟨a7, h7⟩ := st_arO (C := "BootSlotsLaw$Place") (hts _ (by decide +kernel))
  obtain ⟨comp, a8, k8', g1, g2, g3, g4, g5⟩ := arrayOverA_spec (hts (Cond.arrayOver (.array .int)) (by decide +kernel))
  have e0 : comp = a0 := Option.some.inj (g1.symm.trans h0.2)
  have h8 : ArrOfT s a8 (.array .int) ∧ va_RA s a8 (.array .int) := ⟨fun n z => ⟨fun k h => (by cases h), k8', g3, comp, g4⟩, g5⟩
  have hT : ∀ w ∈ bsG, w ∈ lw_tbl := fun w h => (List.mem_filter.mp h).1
  obtain ⟨c0, i0, k0⟩ := u_known (C := RJ0) (T := TJ0) (N := 4) (n := 4) hts (fun w h => hT w (bsin_J0 w h)) (hts _ (by decide +kernel))
  obtain ⟨c1, i1, k1⟩ := u_known (C := RJ4) (T := TJ4) (N := 4) (n := 4) hts (fun w h => hT w (bsin_J4 w h)) (hts _ (by decide +kernel))
  obtain ⟨c2, i2, k2⟩ := u_known (C := RX0) (T := TX0) (N := 5) (n := 5) hts (fun w h => hT w (bsin_X0 w h)) (hts _ (by decide +kernel))
  obtain ⟨c3, i3, k3⟩ := u_known (C := RX1) (T := TX1) (N := 6) (n := 6) hts (fun w h => hT w (bsin_X1 w h)) (hts _ (by decide +kernel))
  obtain ⟨c4, i4, k4⟩ := u_known (C := RX2) (T := TX2) (N := 4) (n := 4) hts (fun w h => hT w (bsin_X2 w h)) (hts _ (by decide +kernel))
  obtain ⟨c5, i5, k5⟩ := u_known (C := RX3) (T := TX3) (N := 13) (n := 13) hts (fun w h => hT w (bsin_X3 w h)) (hts _ (by decide +kernel))
  obtain ⟨c6, i6, k6⟩ := u_known (C := RX4) (T := TX4) (N := 10) (n := 10) hts (fun w h => hT w (bsin_X4 w h)) (hts _ (by decide +kernel))
  obtain ⟨c7, i7, k7⟩ := u_known (C := RX5) (T := TX5) (N := 9) (n := 9) hts (fun w h => hT w (bsin_X5 w h)) (hts _ (by decide +kernel))
  obtain ⟨c8, i8, k8⟩ := u_known (C := RX6) (T := TX6) (N := 7) (n := 7) hts (fun w h => hT w (bsin_X6 w h)) (hts _ (by decide +kernel))
  obtain ⟨c9, i9, k9⟩ := u_known (C := RX7) (T := TX7) (N := 2) (n := 2) hts (fun w h => hT w (bsin_X7 w h)) (hts _ (by decide +kernel))
  obtain ⟨c10, i10, k10⟩ := u_known (C := RX8) (T := TX8) (N := 10) (n := 10) hts (fun w h => hT w (bsin_X8 w h)) (hts _ (by decide +kernel))
  obtain ⟨c11, i11, k11⟩ := u_known (C := RX9) (T := TX9) (N := 2) (n := 2) hts (fun w h => hT w (bsin_X9 w h)) (hts _ (by decide +kernel))
  obtain ⟨c12, i12, k12⟩ := u_known (C := RX10) (T := TX10) (N := 8) (n := 8) hts (fun w h => hT w (bsin_X10 w h)) (hts _ (by decide +kernel))
  obtain ⟨c13, i13, k13⟩ := u_known (C := RX11) (T := TX11) (N := 15) (n := 15) hts (fun w h => hT w (bsin_X11 w h)) (hts _ (by decide +kernel))
  refine ⟨fun k => match k with | 0 => a0 | 1 => a1 | 2 => a2 | 3 => a3 | 4 => a4 | 5 => a0 | 6 => a0 | 7 => a7 | _ => a8, fun k => match k with | 0 => c0 | 1 => c1 | 2 => c2 | 3 => c3 | 4 => c4 | 5 => c5 | 6 => c6 | 7 => c7 | 8 => c8 | 9 => c9 | 10 => c10 | 11 => c11 | 12 => c12 | _ => c13, fun k => match k with | 0 => i0 | 1 => i1 | 2 => i2 | 3 => i3 | 4 => i4 | 5 => i5 | 6 => i6 | 7 => i7 | 8 => i8 | 9 => i9 | 10 => i10 | 11 => i11 | 12 => i12 | _ => i13, ⟨fun k q hq => ?_, fun k q hq => ?_⟩, ⟨k8', g3, by rw [g4, e0] <;> rfl⟩⟩
  · match k, hq with
    | 0, hq => cases hq; exact k0
    | 1, hq => cases hq; exact k1
    | 2, hq => cases hq; exact k2
    | 3, hq => cases hq; exact k3
    | 4, hq => cases hq; exact k4
    | 5, hq => cases hq; exact k5
    | 6, hq => cases hq; exact k6
    | 7, hq => cases hq; exact k7
    | 8, hq => cases hq; exact k8
    | 9, hq => cases hq; exact k9
    | 10, hq => cases hq; exact k10
    | 11, hq => cases hq; exact k11
    | 12, hq => cases hq; exact k12
    | 13, hq => cases hq; exact k13
    | k + 14, hq => simp at hq
  · match k, hq with
    | 0, hq => cases hq; exact h0
    | 1, hq => cases hq; exact h1
    | 2, hq => cases hq; exact h2
    | 3, hq => cases hq; exact h3
    | 4, hq => cases hq; exact h4
    | 5, hq => cases hq; exact h0
    | 6, hq => cases hq; exact h0
    | 7, hq => cases hq; exact h7
    | 8, hq => cases hq; exact h8
    | k + 9, hq => simp [bsTys] at hq
end BSST
