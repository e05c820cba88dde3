/-! THE CLASS's cells in the order of making -/
theorem iX_m {m : Nat} (hm : m < 13) : iX m = iX 0 := by
  funext K j i
  unfold iX
  rw [if_pos hm, if_pos (by decide)]
theorem bsCell_m {ρ : bsR} {cA : Nat → ClassId} {m K j : Nat} {c : Nat → Int32} (hm : m < 13) : bsCell ρ cA m K j c = bsCell (fun _ => ρ m) cA 0 K j c := by
  unfold bsCell
  rw [if_pos hm, if_pos (by decide)]
def mk9 (m : Nat) : List (Nat × Nat × Nat) := mkC.map (fun q => (m, q.1, q.2))
def cellF (ρ : bsR) (cA : Nat → ClassId) (t : Nat × Nat × Nat) : Nat × va_E := (ρ t.1 t.2.1 t.2.2, bsCell ρ cA t.1 t.2.1 t.2.2 (iX t.1 t.2.1 t.2.2))
theorem mk9_at {ρ : bsR} {cA : Nat → ClassId} {m : Nat} (hm : m < 13) : (mk9 m).map (cellF ρ cA) = mB cA (ρ m) := by
  unfold mk9 mB
  rw [List.map_map]
  refine List.map_congr_left (fun q _ => ?_)
  show (ρ m q.1 q.2, bsCell ρ cA m q.1 q.2 (iX m q.1 q.2)) = _
  rw [bsCell_m hm, iX_m hm]
def k13 : List (Nat × Nat × Nat) := [(13, 0, 0), (13, 1, 0), (13, 6, 0), (13, 7, 0), (13, 3, 0), (13, 4, 0), (13, 5, 0), (13, 2, 0), (13, 8, 0)]
def kMs : List (Nat × Nat × Nat) := ((((((((((((mk9 12 ++ mk9 0) ++ mk9 1) ++ mk9 2) ++ mk9 3) ++ mk9 4) ++ mk9 5) ++ mk9 6) ++ mk9 7) ++ mk9 8) ++ mk9 9) ++ mk9 10) ++ mk9 11)
theorem keys_perm : (k13 ++ kMs).Perm bsKeys := by decide +kernel
theorem b8_at {ρ : bsR} {cA : Nat → ClassId} : b8 cA ρ = (k13 ++ kMs).map (cellF ρ cA) := by
  unfold kMs
  simp only [List.map_append]
  rw [mk9_at (m := 12) (by decide), mk9_at (m := 0) (by decide), mk9_at (m := 1) (by decide), mk9_at (m := 2) (by decide), mk9_at (m := 3) (by decide), mk9_at (m := 4) (by decide), mk9_at (m := 5) (by decide), mk9_at (m := 6) (by decide), mk9_at (m := 7) (by decide), mk9_at (m := 8) (by decide), mk9_at (m := 9) (by decide), mk9_at (m := 10) (by decide), mk9_at (m := 11) (by decide)]
  rfl
theorem world_perm {ρ : bsR} {cA : Nat → ClassId} {Rz : va_W} : (b8 cA ρ ++ Rz).Perm (bsWs ρ cA iX Rz) := by
  refine List.Perm.append_right Rz ?_
  rw [b8_at]
  exact keys_perm.map _
theorem iX_7 : iX 13 0 0 7 = 0 := rfl
theorem iX_9 : iX 13 0 0 9 = 0 := rfl
theorem iX_2 : iX 13 2 0 1 = 0 := rfl
theorem iX_3 : iX 13 1 0 3 = 0 := rfl
theorem iX_b : alike (iX 12) blankY := fun _ _ _ _ => rfl
