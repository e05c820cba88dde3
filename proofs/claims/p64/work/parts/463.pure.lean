/-! WORLD(DRAWS): its cells as the law's world -/
def likeE (z y : va_E) : Prop := z = y ∨ ∃ (c0 : ClassId) (a b : vp_A), z = .inl (c0, a) ∧ y = .inl (c0, b) ∧ vp_cell c0 a = vp_cell c0 b
theorem x_likeY {p : Program} {l : Launch} {e : Env} {R : Room} {s : State} {m : MethodId} {args : Array Value} {below : List Frame} {meth : Method} {c : Code} {cells slots : Nat} {Q : State → Prop} {ρ : bsR} {cA : Nat → ClassId} {dC : Nat → ClassId} {dI : Nat → Nat → Nat} {A : Nat → Prop} {Rz Rz' : va_W} {nL pc : Nat} {lv : List (Nat × Value)} {st : List Value} {X : bsX}
    (h : ∀ q ∈ Rz', ∃ z, (q.1, z) ∈ Rz ∧ likeE z q.2) (hn : (Rz.map Prod.fst).Nodup → (Rz'.map Prod.fst).Nodup) (kk : xVY p l e R s m args below meth c cells slots Q ρ cA dC dI A Rz' nL pc lv st X) : xVY p l e R s m args below meth c cells slots Q ρ cA dC dI A Rz nL pc lv st X := by
  intro ls H locs hl hP hD hS
  have hP1 := xP_iff.mp hP
  have hD1 := xD_iff.mp hD
  refine kk ls H locs hl (xP_iff.mpr fun q hq => ?_) (xD_iff.mpr ⟨?_, fun q hq => ?_⟩) hS
  · rcases List.mem_append.mp hq with z | z
    · exact hP1 q (List.mem_append_left _ z)
    · obtain ⟨y, h1, h2⟩ := h q z
      have h3 := hP1 (q.1, y) (List.mem_append_right _ h1)
      obtain ⟨q1, q2⟩ := q
      rcases h2 with h2 | ⟨c0, a, b, ea, eb, hc⟩
      · have h2 : y = q2 := h2
        rw [← h2]
        exact h3
      · have eb : q2 = .inl (c0, b) := eb
        rw [eb]
        rw [ea] at h3
        show H[q1]? = some (vp_cell c0 b)
        rw [← hc]
        exact h3
  · have h1 := hD1.1
    rw [bsWsY, List.map_append, List.nodup_append] at h1
    rw [bsWsY, List.map_append, List.nodup_append]
    refine ⟨h1.1, hn h1.2.1, fun a ha b hb => ?_⟩
    obtain ⟨q, hq, rfl⟩ := List.mem_map.mp hb
    obtain ⟨y, h3, _⟩ := h q hq
    exact h1.2.2 a ha q.1 (List.mem_map.mpr ⟨(q.1, y), h3, rfl⟩)
  · rcases List.mem_append.mp hq with z | z
    · exact hD1.2 q (List.mem_append_left _ z)
    · obtain ⟨y, h3, _⟩ := h q z
      exact hD1.2 (q.1, y) (List.mem_append_right _ h3)
theorem wPL_mem {cA : Nat → ClassId} {pa ia : Nat → Nat} {j : Nat} : ∀ k, j < k → (pa j, pOne (ia j)) ∈ wPL cA k pa ia ∧ (ia j, .inl (cA 0, 5, .inl pIm0)) ∈ wPL cA k pa ia := by
  intro k
  induction k with
  | zero => intro h; omega
  | succ k ih =>
    intro h
    show _ ∈ wPL cA k pa ia ++ [(pa k, pOne (ia k)), (ia k, .inl (cA 0, 5, .inl pIm0))] ∧ _ ∈ wPL cA k pa ia ++ [(pa k, pOne (ia k)), (ia k, .inl (cA 0, 5, .inl pIm0))]
    by_cases e : j = k
    · subst e
      exact ⟨List.mem_append_right _ (List.mem_cons_self ..), List.mem_append_right _ (List.mem_cons_of_mem _ (List.mem_cons_self ..))⟩
    · obtain ⟨a, b⟩ := ih (by omega)
      exact ⟨List.mem_append_left _ a, List.mem_append_left _ b⟩
theorem wPL_perm {cA : Nat → ClassId} {pa ia : Nat → Nat} : ∀ k, List.Perm ((wPL cA k pa ia).map Prod.fst) ((List.range k).map pa ++ (List.range k).map ia) := by
  intro k
  induction k with
  | zero => exact List.Perm.refl _
  | succ k ih =>
    have e1 : (wPL cA (k + 1) pa ia).map Prod.fst = (wPL cA k pa ia).map Prod.fst ++ ([pa k] ++ [ia k]) := by
      show (wPL cA k pa ia ++ [(pa k, pOne (ia k)), (ia k, .inl (cA 0, 5, .inl pIm0))]).map Prod.fst = _
      rw [List.map_append]
      rfl
    rw [e1, List.range_succ, List.map_append, List.map_append]
    refine (ih.append_right _).trans ?_
    show List.Perm (((List.range k).map pa ++ (List.range k).map ia) ++ ([pa k] ++ [ia k])) (((List.range k).map pa ++ [pa k]) ++ ((List.range k).map ia ++ [ia k]))
    rw [List.append_assoc, List.append_assoc]
    refine List.Perm.append_left _ ?_
    rw [← List.append_assoc, ← List.append_assoc]
    exact List.perm_append_comm.append_right _
