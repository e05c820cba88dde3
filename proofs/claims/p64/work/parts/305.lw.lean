/-! THE LAW'S WORLD: contents Z in the machine's coordinates (0 0 4 the places; 0 0 10 the state; 5 k, 6 k a place and its image; 2 0 the install; 11 0 the counts; 12 j a boot; 13 0 what comes; 14 0 0 the number of boots); σ: addresses that stay, θ: addresses that change -/
abbrev xA2 : Type := Nat → Nat → Nat
def ln (Z : pY) : Nat := bsIx (Z 0 0 4)
def lm (Z : pY) : Nat := bsIx (Z 14 0 0)
def lwK (n m : Nat) : List (Nat × Nat) := [(0, 0), (1, 0), (2, 0), (3, 0), (4, 0)] ++ ((List.range n).map (fun k => (5, k)) ++ ((List.range n).map (fun k => (6, k)) ++ (List.range m).map (fun j => (7, j))))
def lwA (σ θ : xA2) (K j : Nat) : Nat := match K with
  | 3 => θ 3 j
  | 6 => θ 6 j
  | 7 => θ 7 j
  | k => σ k j
abbrev lwF0 (σ θ : xA2) (Z : pY) : List Value := [.ref (σ 9 0), .int (Z 0 0 5), .int (Z 0 0 6), .int (Z 0 0 7), .int (Z 0 0 8), .int (Z 0 0 9), .int (Z 0 0 10), .int (Z 0 0 11), .int (Z 0 0 12), .ref (σ 1 0), .ref (σ 2 0), .int (Z 2 0 1), .int (Z 2 0 2), .ref (σ 4 0), .ref (θ 3 0)]
abbrev lwF5 (θ : xA2) (Z : pY) (j : Nat) : List Value := [.ref (θ 6 j), .int (Z 5 j 2), .int (Z 5 j 3), .int (Z 5 j 5), .int (Z 5 j 6), .int (Z 5 j 7), .int (Z 5 j 8), .int (Z 5 j 4)]
def lwC (σ θ : xA2) (cA : Nat → ClassId) (Z : pY) (K j : Nat) : va_E := match K with
  | 0 => .inr (13, lwF0 σ θ Z)
  | 1 => .inl (cA 0, 20, .inl (fun i => Z 11 0 i))
  | 2 => .inl (cA 7, ln Z, .inr (.inr (.inr (.inr (fun i => some (σ 5 i))))))
  | 3 => .inl (cA 8, lm Z, .inr (.inr (.inr (.inr (fun i => some (θ 7 i))))))
  | 4 => .inl (cA 0, 5, .inl (fun i => Z 13 0 (i + 1)))
  | 5 => .inr (12, lwF5 θ Z j)
  | 6 => .inl (cA 0, 5, .inl (fun i => Z 6 j (i + 1)))
  | _ => .inl (cA 0, 4, .inl (fun i => Z 12 j i))
def lwWs (σ θ : xA2) (cA : Nat → ClassId) (Z : pY) : va_W := (lwK (ln Z) (lm Z)).map (fun t => (lwA σ θ t.1 t.2, lwC σ θ cA Z t.1 t.2))
theorem lwK_mem {n m K j : Nat} : (K, j) ∈ lwK n m ↔ ((K < 5 ∧ j = 0) ∨ (K = 5 ∧ j < n) ∨ (K = 6 ∧ j < n) ∨ (K = 7 ∧ j < m)) := by
  simp only [lwK, List.mem_append, List.mem_map, List.mem_range, List.mem_cons, Prod.mk.injEq, List.not_mem_nil, or_false]
  constructor
  · rintro (h | ⟨a, h1, h2, h3⟩ | ⟨a, h1, h2, h3⟩ | ⟨a, h1, h2, h3⟩)
    · omega
    · omega
    · omega
    · omega
  · rintro (h | h | h | h)
    · left; omega
    · right; left; exact ⟨j, h.2, h.1.symm, rfl⟩
    · right; right; left; exact ⟨j, h.2, h.1.symm, rfl⟩
    · right; right; right; exact ⟨j, h.2, h.1.symm, rfl⟩
theorem lwK_nd (n m : Nat) : (lwK n m).Nodup := by
  have inj : ∀ K : Nat, ∀ n, ((List.range n).map (fun k => (K, k))).Nodup := fun K n => by
    rw [List.nodup_iff_pairwise_ne, List.pairwise_map]
    exact List.Pairwise.imp (fun h e => h (Prod.mk.inj e).2) (List.nodup_iff_pairwise_ne.mp List.nodup_range)
  unfold lwK
  refine List.nodup_append.mpr ⟨by decide, List.nodup_append.mpr ⟨inj 5 n, List.nodup_append.mpr ⟨inj 6 n, inj 7 m, ?_⟩, ?_⟩, ?_⟩
  · intro a ha b hb e
    obtain ⟨x, -, rfl⟩ := List.mem_map.mp ha
    obtain ⟨y, -, rfl⟩ := List.mem_map.mp hb
    exact absurd (Prod.mk.inj e).1 (by decide)
  · intro a ha b hb e
    obtain ⟨x, -, rfl⟩ := List.mem_map.mp ha
    rcases List.mem_append.mp hb with hb | hb <;> (obtain ⟨y, -, rfl⟩ := List.mem_map.mp hb; exact absurd (Prod.mk.inj e).1 (by decide))
  · intro a ha b hb e
    subst e
    rcases List.mem_append.mp hb with hb | hb
    · obtain ⟨y, -, rfl⟩ := List.mem_map.mp hb; simp at ha
    · rcases List.mem_append.mp hb with hb | hb <;> (obtain ⟨y, -, rfl⟩ := List.mem_map.mp hb; simp at ha)
theorem lw_at {σ θ : xA2} {cA : Nat → ClassId} {Z : pY} {K j : Nat} (h : (K, j) ∈ lwK (ln Z) (lm Z)) (F : va_W) : ∃ q0 : Nat, (lwK (ln Z) (lm Z))[q0]? = some (K, j) ∧ (lwWs σ θ cA Z ++ F)[q0]? = some (lwA σ θ K j, lwC σ θ cA Z K j) := by
  obtain ⟨q0, hq⟩ := List.getElem?_of_mem h
  have hl := (List.getElem?_eq_some_iff.mp hq).1
  refine ⟨q0, hq, ?_⟩
  rw [List.getElem?_append_left (by simpa [lwWs] using hl), lwWs, List.getElem?_map, hq]
  rfl
theorem lw_set {σ θ : xA2} {cA : Nat → ClassId} {Z Z' : pY} {K j q0 : Nat} {e : va_E} (F : va_W) (hq : (lwK (ln Z) (lm Z))[q0]? = some (K, j)) (h1 : ln Z' = ln Z) (h2 : lm Z' = lm Z) (he : lwC σ θ cA Z' K j = e) (hs : ∀ a b, (a, b) ∈ lwK (ln Z) (lm Z) → (a, b) ≠ (K, j) → lwC σ θ cA Z' a b = lwC σ θ cA Z a b) : (lwWs σ θ cA Z ++ F).set q0 (lwA σ θ K j, e) = lwWs σ θ cA Z' ++ F := by
  subst he
  have hl := (List.getElem?_eq_some_iff.mp hq).1
  have hlen : (lwWs σ θ cA Z).length = (lwK (ln Z) (lm Z)).length := List.length_map _
  rw [List.set_append, if_pos (by omega)]
  refine congrArg (· ++ F) ?_
  unfold lwWs
  rw [h1, h2]
  refine List.ext_getElem? fun n => ?_
  rw [List.getElem?_set]
  by_cases hn : q0 = n
  · subst hn
    rw [if_pos rfl, if_pos (by simpa using hl), List.getElem?_map, hq]
    rfl
  · rw [if_neg hn, List.getElem?_map, List.getElem?_map]
    cases ht : (lwK (ln Z) (lm Z))[n]? with
    | none => rfl
    | some t =>
      obtain ⟨a, b⟩ := t
      have hne : (a, b) ≠ (K, j) := fun q => hn (by
        rw [q] at ht
        exact ((List.getElem?_inj hl (lwK_nd _ _)).mp (by rw [hq, ht])))
      simp only [Option.map_some]
      rw [hs a b (List.mem_of_getElem? ht) hne]
theorem wr_no {Z : pY} {a b c K j i : Nat} {v : Int32} (h : ¬ (K = a ∧ j = b ∧ i = c)) : wr Z a b c v K j i = Z K j i := if_neg h
theorem wr_arr (Z : pY) (a b c : Nat) (v : Int32) : (fun i => wr Z a b c v a b i) = upd (fun i => Z a b i) c v := by
  funext i
  simp [wr, upd]
theorem wr_arr1 (Z : pY) (a b c : Nat) (v : Int32) : (fun i => wr Z a b (c + 1) v a b (i + 1)) = upd (fun i => Z a b (i + 1)) c v := by
  funext i
  simp [wr, upd]
theorem lw_oth {σ θ : xA2} {cA : Nat → ClassId} {Z : pY} {K j x y z a b : Nat} {v : Int32} (hc : (K = 0 ∧ ((x = 0 ∧ y = 0 ∧ 5 ≤ z ∧ z ≤ 12) ∨ (x = 2 ∧ y = 0 ∧ (z = 1 ∨ z = 2)))) ∨ (K = 1 ∧ x = 11 ∧ y = 0) ∨ (K = 4 ∧ x = 13 ∧ y = 0) ∨ (K = 5 ∧ x = 5 ∧ y = j) ∨ (K = 6 ∧ x = 6 ∧ y = j)) (hj : K < 5 → j = 0) (hm : (a, b) ∈ lwK (ln Z) (lm Z)) (hne : (a, b) ≠ (K, j)) : lwC σ θ cA (wr Z x y z v) a b = lwC σ θ cA Z a b := by
  have h1 : ln (wr Z x y z v) = ln Z := by unfold ln; rw [wr_no (by omega)]
  have h2 : lm (wr Z x y z v) = lm Z := by unfold lm; rw [wr_no (by omega)]
  have hne' : ¬ (a = K ∧ b = j) := fun h => hne (by rw [h.1, h.2])
  have hm' := lwK_mem.mp hm
  have n9 : ∀ {A B C : Nat}, ¬ (A = x ∧ B = y ∧ C = z) → wr Z x y z v A B C = Z A B C := fun h => wr_no h
  rcases hm' with h | h | h | h
  · obtain ⟨ha, rfl⟩ := h
    have : a = 0 ∨ a = 1 ∨ a = 2 ∨ a = 3 ∨ a = 4 := by omega
    rcases this with rfl | rfl | rfl | rfl | rfl
    · simp only [lwC, lwF0]
      rw [n9 (by omega), n9 (by omega), n9 (by omega), n9 (by omega), n9 (by omega), n9 (by omega), n9 (by omega), n9 (by omega), n9 (by omega), n9 (by omega)]
    · simp only [lwC]
      have e : (fun i => wr Z x y z v 11 0 i) = fun i => Z 11 0 i := funext fun i => n9 (by omega)
      rw [e]
    · simp only [lwC, h1]
    · simp only [lwC, h2]
    · simp only [lwC]
      have e : (fun i => wr Z x y z v 13 0 (i + 1)) = fun i => Z 13 0 (i + 1) := funext fun i => n9 (by omega)
      rw [e]
  · obtain ⟨rfl, -⟩ := h
    simp only [lwC, lwF5]
    rw [n9 (by omega), n9 (by omega), n9 (by omega), n9 (by omega), n9 (by omega), n9 (by omega), n9 (by omega)]
  · obtain ⟨rfl, -⟩ := h
    simp only [lwC]
    have e : (fun i => wr Z x y z v 6 b (i + 1)) = fun i => Z 6 b (i + 1) := funext fun i => n9 (by omega)
    rw [e]
  · obtain ⟨rfl, -⟩ := h
    simp only [lwC]
    have e : (fun i => wr Z x y z v 12 b i) = fun i => Z 12 b i := funext fun i => n9 (by omega)
    rw [e]
section XF
variable {p : Program} {l : Launch} {e : Env} {R : Room} {s : State} {m : MethodId} {args : Array Value} {below : List Frame} {meth : Method} {c : Code} {cells slots : Nat} {Q : State → Prop} {ρ : bsR} {sc L : Nat} {xs : Nat → Int32} {cA : Nat → ClassId} {dC : Nat → ClassId} {dI : Nat → Nat → Nat} {A : Nat → Prop} {Rz Rz' : va_W} {nL : Nat} {cc : ByteArray} {Ts : List Cond} {own : String} {ret : Option FieldType} {pc : Nat} {lv : List (Nat × Value)} {st : List Value} {X : bsX} {σ θ : xA2} {Z : pY} {F : va_W}
theorem bsin_X10 : ∀ w ∈ u_ws RX10 TX10 8, w ∈ bsG := by decide +kernel
theorem bsin_X11 : ∀ w ∈ u_ws RX11 TX11 15, w ∈ bsG := by decide +kernel
theorem xg_L_114 (C : xCx p m c cc nL s args Ts RL ρ sc L xs cA dC dI A meth ret) (hd : decode cc pc = .ok (.getfield 114, 3)) (kk : xV p l e R s m args below meth c cells slots Q ρ cA dC dI A (lwWs σ θ cA Z ++ F) nL (pc + 3) lv (.ref (σ 2 0) :: st) X) : xV p l e R s m args below meth c cells slots Q ρ cA dC dI A (lwWs σ θ cA Z ++ F) nL pc lv (.ref (σ 0 0) :: st) X := by
  obtain ⟨q0, -, he⟩ := lw_at (σ := σ) (θ := θ) (cA := cA) (Z := Z) (K := 0) (j := 0) (lwK_mem.mpr (Or.inl ⟨by decide, rfl⟩)) F
  exact x_getN C (N := 15) (k := 10) (T := TX11) (Cn := RX11) (ref := "BootSlotsLaw$World") (host := "BootSlotsLaw") (fs := (lwF0 σ θ Z)) he rfl bsin_X11 (by decide) (by decide +kernel) rfl rfl hd kk
theorem xg_L_123 (C : xCx p m c cc nL s args Ts RL ρ sc L xs cA dC dI A meth ret) {j : Nat} (hj : j < ln Z) (hd : decode cc pc = .ok (.getfield 123, 3)) (kk : xV p l e R s m args below meth c cells slots Q ρ cA dC dI A (lwWs σ θ cA Z ++ F) nL (pc + 3) lv (.int (Z 5 j 4) :: st) X) : xV p l e R s m args below meth c cells slots Q ρ cA dC dI A (lwWs σ θ cA Z ++ F) nL pc lv (.ref (σ 5 j) :: st) X := by
  obtain ⟨q0, -, he⟩ := lw_at (σ := σ) (θ := θ) (cA := cA) (Z := Z) (K := 5) (j := j) (lwK_mem.mpr (Or.inr (Or.inl ⟨rfl, hj⟩))) F
  exact x_getN C (N := 8) (k := 7) (T := TX10) (Cn := RX10) (ref := "BootSlotsLaw$Place") (host := "BootSlotsLaw") (fs := (lwF5 θ Z j)) he rfl bsin_X10 (by decide) (by decide +kernel) rfl rfl hd kk
theorem xg_L_129 (C : xCx p m c cc nL s args Ts RL ρ sc L xs cA dC dI A meth ret) {j : Nat} (hj : j < ln Z) (hd : decode cc pc = .ok (.getfield 129, 3)) (kk : xV p l e R s m args below meth c cells slots Q ρ cA dC dI A (lwWs σ θ cA Z ++ F) nL (pc + 3) lv (.int (Z 5 j 3) :: st) X) : xV p l e R s m args below meth c cells slots Q ρ cA dC dI A (lwWs σ θ cA Z ++ F) nL pc lv (.ref (σ 5 j) :: st) X := by
  obtain ⟨q0, -, he⟩ := lw_at (σ := σ) (θ := θ) (cA := cA) (Z := Z) (K := 5) (j := j) (lwK_mem.mpr (Or.inr (Or.inl ⟨rfl, hj⟩))) F
  exact x_getN C (N := 8) (k := 2) (T := TX10) (Cn := RX10) (ref := "BootSlotsLaw$Place") (host := "BootSlotsLaw") (fs := (lwF5 θ Z j)) he rfl bsin_X10 (by decide) (by decide +kernel) rfl rfl hd kk
theorem xp_L_129 (C : xCx p m c cc nL s args Ts RL ρ sc L xs cA dC dI A meth ret) {j : Nat} (hj : j < ln Z) {x : Int32} (hd : decode cc pc = .ok (.putfield 129, 3)) (kk : xV p l e R s m args below meth c cells slots Q ρ cA dC dI A (lwWs σ θ cA (wr Z 5 j 3 x) ++ F) nL (pc + 3) lv st X) : xV p l e R s m args below meth c cells slots Q ρ cA dC dI A (lwWs σ θ cA Z ++ F) nL pc lv (.int x :: .ref (σ 5 j) :: st) X := by
  obtain ⟨q0, hq, he⟩ := lw_at (σ := σ) (θ := θ) (cA := cA) (Z := Z) (K := 5) (j := j) (lwK_mem.mpr (Or.inr (Or.inl ⟨rfl, hj⟩))) F
  refine x_putN C (N := 8) (k := 2) (T := TX10) (Cn := RX10) (ref := "BootSlotsLaw$Place") (host := "BootSlotsLaw") (fs := (lwF5 θ Z j)) (ty := .int) he rfl bsin_X10 tyX10 tyX10_ok nmX10 (by decide) (by decide +kernel) rfl rfl rfl rfl rfl (Nat.le_of_ble_eq_true rfl) (lw_set F hq ?_ ?_ ?_ (fun a b hm hne => lw_oth (K := 5) (j := j) (Or.inr (Or.inr (Or.inr (Or.inl ⟨rfl, rfl, rfl⟩)))) (fun h => absurd h (by decide)) hm hne)) hd kk
  · unfold ln; rw [wr_no (by omega)]
  · unfold lm; rw [wr_no (by omega)]
  · simp [lwC, wr]
theorem xg_L_133 (C : xCx p m c cc nL s args Ts RL ρ sc L xs cA dC dI A meth ret) (hd : decode cc pc = .ok (.getfield 133, 3)) (kk : xV p l e R s m args below meth c cells slots Q ρ cA dC dI A (lwWs σ θ cA Z ++ F) nL (pc + 3) lv (.int (Z 0 0 9) :: st) X) : xV p l e R s m args below meth c cells slots Q ρ cA dC dI A (lwWs σ θ cA Z ++ F) nL pc lv (.ref (σ 0 0) :: st) X := by
  obtain ⟨q0, -, he⟩ := lw_at (σ := σ) (θ := θ) (cA := cA) (Z := Z) (K := 0) (j := 0) (lwK_mem.mpr (Or.inl ⟨by decide, rfl⟩)) F
  exact x_getN C (N := 15) (k := 5) (T := TX11) (Cn := RX11) (ref := "BootSlotsLaw$World") (host := "BootSlotsLaw") (fs := (lwF0 σ θ Z)) he rfl bsin_X11 (by decide) (by decide +kernel) rfl rfl hd kk
theorem xg_L_136 (C : xCx p m c cc nL s args Ts RL ρ sc L xs cA dC dI A meth ret) (hd : decode cc pc = .ok (.getfield 136, 3)) (kk : xV p l e R s m args below meth c cells slots Q ρ cA dC dI A (lwWs σ θ cA Z ++ F) nL (pc + 3) lv (.int (Z 0 0 5) :: st) X) : xV p l e R s m args below meth c cells slots Q ρ cA dC dI A (lwWs σ θ cA Z ++ F) nL pc lv (.ref (σ 0 0) :: st) X := by
  obtain ⟨q0, -, he⟩ := lw_at (σ := σ) (θ := θ) (cA := cA) (Z := Z) (K := 0) (j := 0) (lwK_mem.mpr (Or.inl ⟨by decide, rfl⟩)) F
  exact x_getN C (N := 15) (k := 1) (T := TX11) (Cn := RX11) (ref := "BootSlotsLaw$World") (host := "BootSlotsLaw") (fs := (lwF0 σ θ Z)) he rfl bsin_X11 (by decide) (by decide +kernel) rfl rfl hd kk
theorem xp_L_136 (C : xCx p m c cc nL s args Ts RL ρ sc L xs cA dC dI A meth ret) {x : Int32} (hd : decode cc pc = .ok (.putfield 136, 3)) (kk : xV p l e R s m args below meth c cells slots Q ρ cA dC dI A (lwWs σ θ cA (wr Z 0 0 5 x) ++ F) nL (pc + 3) lv st X) : xV p l e R s m args below meth c cells slots Q ρ cA dC dI A (lwWs σ θ cA Z ++ F) nL pc lv (.int x :: .ref (σ 0 0) :: st) X := by
  obtain ⟨q0, hq, he⟩ := lw_at (σ := σ) (θ := θ) (cA := cA) (Z := Z) (K := 0) (j := 0) (lwK_mem.mpr (Or.inl ⟨by decide, rfl⟩)) F
  refine x_putN C (N := 15) (k := 1) (T := TX11) (Cn := RX11) (ref := "BootSlotsLaw$World") (host := "BootSlotsLaw") (fs := (lwF0 σ θ Z)) (ty := .int) he rfl bsin_X11 tyX11 tyX11_ok nmX11 (by decide) (by decide +kernel) rfl rfl rfl rfl rfl (Nat.le_of_ble_eq_true rfl) (lw_set F hq ?_ ?_ ?_ (fun a b hm hne => lw_oth (K := 0) (j := 0) (Or.inl ⟨rfl, by decide⟩) (fun _ => rfl) hm hne)) hd kk
  · unfold ln; rw [wr_no (by omega)]
  · unfold lm; rw [wr_no (by omega)]
  · simp [lwC, wr]
theorem xg_L_139 (C : xCx p m c cc nL s args Ts RL ρ sc L xs cA dC dI A meth ret) (hd : decode cc pc = .ok (.getfield 139, 3)) (kk : xV p l e R s m args below meth c cells slots Q ρ cA dC dI A (lwWs σ θ cA Z ++ F) nL (pc + 3) lv (.int (Z 0 0 6) :: st) X) : xV p l e R s m args below meth c cells slots Q ρ cA dC dI A (lwWs σ θ cA Z ++ F) nL pc lv (.ref (σ 0 0) :: st) X := by
  obtain ⟨q0, -, he⟩ := lw_at (σ := σ) (θ := θ) (cA := cA) (Z := Z) (K := 0) (j := 0) (lwK_mem.mpr (Or.inl ⟨by decide, rfl⟩)) F
  exact x_getN C (N := 15) (k := 2) (T := TX11) (Cn := RX11) (ref := "BootSlotsLaw$World") (host := "BootSlotsLaw") (fs := (lwF0 σ θ Z)) he rfl bsin_X11 (by decide) (by decide +kernel) rfl rfl hd kk
theorem xp_L_139 (C : xCx p m c cc nL s args Ts RL ρ sc L xs cA dC dI A meth ret) {x : Int32} (hd : decode cc pc = .ok (.putfield 139, 3)) (kk : xV p l e R s m args below meth c cells slots Q ρ cA dC dI A (lwWs σ θ cA (wr Z 0 0 6 x) ++ F) nL (pc + 3) lv st X) : xV p l e R s m args below meth c cells slots Q ρ cA dC dI A (lwWs σ θ cA Z ++ F) nL pc lv (.int x :: .ref (σ 0 0) :: st) X := by
  obtain ⟨q0, hq, he⟩ := lw_at (σ := σ) (θ := θ) (cA := cA) (Z := Z) (K := 0) (j := 0) (lwK_mem.mpr (Or.inl ⟨by decide, rfl⟩)) F
  refine x_putN C (N := 15) (k := 2) (T := TX11) (Cn := RX11) (ref := "BootSlotsLaw$World") (host := "BootSlotsLaw") (fs := (lwF0 σ θ Z)) (ty := .int) he rfl bsin_X11 tyX11 tyX11_ok nmX11 (by decide) (by decide +kernel) rfl rfl rfl rfl rfl (Nat.le_of_ble_eq_true rfl) (lw_set F hq ?_ ?_ ?_ (fun a b hm hne => lw_oth (K := 0) (j := 0) (Or.inl ⟨rfl, by decide⟩) (fun _ => rfl) hm hne)) hd kk
  · unfold ln; rw [wr_no (by omega)]
  · unfold lm; rw [wr_no (by omega)]
  · simp [lwC, wr]
theorem xg_L_142 (C : xCx p m c cc nL s args Ts RL ρ sc L xs cA dC dI A meth ret) (hd : decode cc pc = .ok (.getfield 142, 3)) (kk : xV p l e R s m args below meth c cells slots Q ρ cA dC dI A (lwWs σ θ cA Z ++ F) nL (pc + 3) lv (.int (Z 0 0 7) :: st) X) : xV p l e R s m args below meth c cells slots Q ρ cA dC dI A (lwWs σ θ cA Z ++ F) nL pc lv (.ref (σ 0 0) :: st) X := by
  obtain ⟨q0, -, he⟩ := lw_at (σ := σ) (θ := θ) (cA := cA) (Z := Z) (K := 0) (j := 0) (lwK_mem.mpr (Or.inl ⟨by decide, rfl⟩)) F
  exact x_getN C (N := 15) (k := 3) (T := TX11) (Cn := RX11) (ref := "BootSlotsLaw$World") (host := "BootSlotsLaw") (fs := (lwF0 σ θ Z)) he rfl bsin_X11 (by decide) (by decide +kernel) rfl rfl hd kk
theorem xp_L_142 (C : xCx p m c cc nL s args Ts RL ρ sc L xs cA dC dI A meth ret) {x : Int32} (hd : decode cc pc = .ok (.putfield 142, 3)) (kk : xV p l e R s m args below meth c cells slots Q ρ cA dC dI A (lwWs σ θ cA (wr Z 0 0 7 x) ++ F) nL (pc + 3) lv st X) : xV p l e R s m args below meth c cells slots Q ρ cA dC dI A (lwWs σ θ cA Z ++ F) nL pc lv (.int x :: .ref (σ 0 0) :: st) X := by
  obtain ⟨q0, hq, he⟩ := lw_at (σ := σ) (θ := θ) (cA := cA) (Z := Z) (K := 0) (j := 0) (lwK_mem.mpr (Or.inl ⟨by decide, rfl⟩)) F
  refine x_putN C (N := 15) (k := 3) (T := TX11) (Cn := RX11) (ref := "BootSlotsLaw$World") (host := "BootSlotsLaw") (fs := (lwF0 σ θ Z)) (ty := .int) he rfl bsin_X11 tyX11 tyX11_ok nmX11 (by decide) (by decide +kernel) rfl rfl rfl rfl rfl (Nat.le_of_ble_eq_true rfl) (lw_set F hq ?_ ?_ ?_ (fun a b hm hne => lw_oth (K := 0) (j := 0) (Or.inl ⟨rfl, by decide⟩) (fun _ => rfl) hm hne)) hd kk
  · unfold ln; rw [wr_no (by omega)]
  · unfold lm; rw [wr_no (by omega)]
  · simp [lwC, wr]
theorem xg_L_145 (C : xCx p m c cc nL s args Ts RL ρ sc L xs cA dC dI A meth ret) (hd : decode cc pc = .ok (.getfield 145, 3)) (kk : xV p l e R s m args below meth c cells slots Q ρ cA dC dI A (lwWs σ θ cA Z ++ F) nL (pc + 3) lv (.int (Z 0 0 8) :: st) X) : xV p l e R s m args below meth c cells slots Q ρ cA dC dI A (lwWs σ θ cA Z ++ F) nL pc lv (.ref (σ 0 0) :: st) X := by
  obtain ⟨q0, -, he⟩ := lw_at (σ := σ) (θ := θ) (cA := cA) (Z := Z) (K := 0) (j := 0) (lwK_mem.mpr (Or.inl ⟨by decide, rfl⟩)) F
  exact x_getN C (N := 15) (k := 4) (T := TX11) (Cn := RX11) (ref := "BootSlotsLaw$World") (host := "BootSlotsLaw") (fs := (lwF0 σ θ Z)) he rfl bsin_X11 (by decide) (by decide +kernel) rfl rfl hd kk
theorem xp_L_145 (C : xCx p m c cc nL s args Ts RL ρ sc L xs cA dC dI A meth ret) {x : Int32} (hd : decode cc pc = .ok (.putfield 145, 3)) (kk : xV p l e R s m args below meth c cells slots Q ρ cA dC dI A (lwWs σ θ cA (wr Z 0 0 8 x) ++ F) nL (pc + 3) lv st X) : xV p l e R s m args below meth c cells slots Q ρ cA dC dI A (lwWs σ θ cA Z ++ F) nL pc lv (.int x :: .ref (σ 0 0) :: st) X := by
  obtain ⟨q0, hq, he⟩ := lw_at (σ := σ) (θ := θ) (cA := cA) (Z := Z) (K := 0) (j := 0) (lwK_mem.mpr (Or.inl ⟨by decide, rfl⟩)) F
  refine x_putN C (N := 15) (k := 4) (T := TX11) (Cn := RX11) (ref := "BootSlotsLaw$World") (host := "BootSlotsLaw") (fs := (lwF0 σ θ Z)) (ty := .int) he rfl bsin_X11 tyX11 tyX11_ok nmX11 (by decide) (by decide +kernel) rfl rfl rfl rfl rfl (Nat.le_of_ble_eq_true rfl) (lw_set F hq ?_ ?_ ?_ (fun a b hm hne => lw_oth (K := 0) (j := 0) (Or.inl ⟨rfl, by decide⟩) (fun _ => rfl) hm hne)) hd kk
  · unfold ln; rw [wr_no (by omega)]
  · unfold lm; rw [wr_no (by omega)]
  · simp [lwC, wr]
theorem xg_L_148 (C : xCx p m c cc nL s args Ts RL ρ sc L xs cA dC dI A meth ret) (hd : decode cc pc = .ok (.getfield 148, 3)) (kk : xV p l e R s m args below meth c cells slots Q ρ cA dC dI A (lwWs σ θ cA Z ++ F) nL (pc + 3) lv (.int (Z 0 0 10) :: st) X) : xV p l e R s m args below meth c cells slots Q ρ cA dC dI A (lwWs σ θ cA Z ++ F) nL pc lv (.ref (σ 0 0) :: st) X := by
  obtain ⟨q0, -, he⟩ := lw_at (σ := σ) (θ := θ) (cA := cA) (Z := Z) (K := 0) (j := 0) (lwK_mem.mpr (Or.inl ⟨by decide, rfl⟩)) F
  exact x_getN C (N := 15) (k := 6) (T := TX11) (Cn := RX11) (ref := "BootSlotsLaw$World") (host := "BootSlotsLaw") (fs := (lwF0 σ θ Z)) he rfl bsin_X11 (by decide) (by decide +kernel) rfl rfl hd kk
theorem xp_L_148 (C : xCx p m c cc nL s args Ts RL ρ sc L xs cA dC dI A meth ret) {x : Int32} (hd : decode cc pc = .ok (.putfield 148, 3)) (kk : xV p l e R s m args below meth c cells slots Q ρ cA dC dI A (lwWs σ θ cA (wr Z 0 0 10 x) ++ F) nL (pc + 3) lv st X) : xV p l e R s m args below meth c cells slots Q ρ cA dC dI A (lwWs σ θ cA Z ++ F) nL pc lv (.int x :: .ref (σ 0 0) :: st) X := by
  obtain ⟨q0, hq, he⟩ := lw_at (σ := σ) (θ := θ) (cA := cA) (Z := Z) (K := 0) (j := 0) (lwK_mem.mpr (Or.inl ⟨by decide, rfl⟩)) F
  refine x_putN C (N := 15) (k := 6) (T := TX11) (Cn := RX11) (ref := "BootSlotsLaw$World") (host := "BootSlotsLaw") (fs := (lwF0 σ θ Z)) (ty := .int) he rfl bsin_X11 tyX11 tyX11_ok nmX11 (by decide) (by decide +kernel) rfl rfl rfl rfl rfl (Nat.le_of_ble_eq_true rfl) (lw_set F hq ?_ ?_ ?_ (fun a b hm hne => lw_oth (K := 0) (j := 0) (Or.inl ⟨rfl, by decide⟩) (fun _ => rfl) hm hne)) hd kk
  · unfold ln; rw [wr_no (by omega)]
  · unfold lm; rw [wr_no (by omega)]
  · simp [lwC, wr]
theorem xg_L_151 (C : xCx p m c cc nL s args Ts RL ρ sc L xs cA dC dI A meth ret) (hd : decode cc pc = .ok (.getfield 151, 3)) (kk : xV p l e R s m args below meth c cells slots Q ρ cA dC dI A (lwWs σ θ cA Z ++ F) nL (pc + 3) lv (.int (Z 0 0 11) :: st) X) : xV p l e R s m args below meth c cells slots Q ρ cA dC dI A (lwWs σ θ cA Z ++ F) nL pc lv (.ref (σ 0 0) :: st) X := by
  obtain ⟨q0, -, he⟩ := lw_at (σ := σ) (θ := θ) (cA := cA) (Z := Z) (K := 0) (j := 0) (lwK_mem.mpr (Or.inl ⟨by decide, rfl⟩)) F
  exact x_getN C (N := 15) (k := 7) (T := TX11) (Cn := RX11) (ref := "BootSlotsLaw$World") (host := "BootSlotsLaw") (fs := (lwF0 σ θ Z)) he rfl bsin_X11 (by decide) (by decide +kernel) rfl rfl hd kk
theorem xp_L_151 (C : xCx p m c cc nL s args Ts RL ρ sc L xs cA dC dI A meth ret) {x : Int32} (hd : decode cc pc = .ok (.putfield 151, 3)) (kk : xV p l e R s m args below meth c cells slots Q ρ cA dC dI A (lwWs σ θ cA (wr Z 0 0 11 x) ++ F) nL (pc + 3) lv st X) : xV p l e R s m args below meth c cells slots Q ρ cA dC dI A (lwWs σ θ cA Z ++ F) nL pc lv (.int x :: .ref (σ 0 0) :: st) X := by
  obtain ⟨q0, hq, he⟩ := lw_at (σ := σ) (θ := θ) (cA := cA) (Z := Z) (K := 0) (j := 0) (lwK_mem.mpr (Or.inl ⟨by decide, rfl⟩)) F
  refine x_putN C (N := 15) (k := 7) (T := TX11) (Cn := RX11) (ref := "BootSlotsLaw$World") (host := "BootSlotsLaw") (fs := (lwF0 σ θ Z)) (ty := .int) he rfl bsin_X11 tyX11 tyX11_ok nmX11 (by decide) (by decide +kernel) rfl rfl rfl rfl rfl (Nat.le_of_ble_eq_true rfl) (lw_set F hq ?_ ?_ ?_ (fun a b hm hne => lw_oth (K := 0) (j := 0) (Or.inl ⟨rfl, by decide⟩) (fun _ => rfl) hm hne)) hd kk
  · unfold ln; rw [wr_no (by omega)]
  · unfold lm; rw [wr_no (by omega)]
  · simp [lwC, wr]
theorem xg_L_154 (C : xCx p m c cc nL s args Ts RL ρ sc L xs cA dC dI A meth ret) (hd : decode cc pc = .ok (.getfield 154, 3)) (kk : xV p l e R s m args below meth c cells slots Q ρ cA dC dI A (lwWs σ θ cA Z ++ F) nL (pc + 3) lv (.int (Z 0 0 12) :: st) X) : xV p l e R s m args below meth c cells slots Q ρ cA dC dI A (lwWs σ θ cA Z ++ F) nL pc lv (.ref (σ 0 0) :: st) X := by
  obtain ⟨q0, -, he⟩ := lw_at (σ := σ) (θ := θ) (cA := cA) (Z := Z) (K := 0) (j := 0) (lwK_mem.mpr (Or.inl ⟨by decide, rfl⟩)) F
  exact x_getN C (N := 15) (k := 8) (T := TX11) (Cn := RX11) (ref := "BootSlotsLaw$World") (host := "BootSlotsLaw") (fs := (lwF0 σ θ Z)) he rfl bsin_X11 (by decide) (by decide +kernel) rfl rfl hd kk
theorem xp_L_154 (C : xCx p m c cc nL s args Ts RL ρ sc L xs cA dC dI A meth ret) {x : Int32} (hd : decode cc pc = .ok (.putfield 154, 3)) (kk : xV p l e R s m args below meth c cells slots Q ρ cA dC dI A (lwWs σ θ cA (wr Z 0 0 12 x) ++ F) nL (pc + 3) lv st X) : xV p l e R s m args below meth c cells slots Q ρ cA dC dI A (lwWs σ θ cA Z ++ F) nL pc lv (.int x :: .ref (σ 0 0) :: st) X := by
  obtain ⟨q0, hq, he⟩ := lw_at (σ := σ) (θ := θ) (cA := cA) (Z := Z) (K := 0) (j := 0) (lwK_mem.mpr (Or.inl ⟨by decide, rfl⟩)) F
  refine x_putN C (N := 15) (k := 8) (T := TX11) (Cn := RX11) (ref := "BootSlotsLaw$World") (host := "BootSlotsLaw") (fs := (lwF0 σ θ Z)) (ty := .int) he rfl bsin_X11 tyX11 tyX11_ok nmX11 (by decide) (by decide +kernel) rfl rfl rfl rfl rfl (Nat.le_of_ble_eq_true rfl) (lw_set F hq ?_ ?_ ?_ (fun a b hm hne => lw_oth (K := 0) (j := 0) (Or.inl ⟨rfl, by decide⟩) (fun _ => rfl) hm hne)) hd kk
  · unfold ln; rw [wr_no (by omega)]
  · unfold lm; rw [wr_no (by omega)]
  · simp [lwC, wr]
theorem xg_L_160 (C : xCx p m c cc nL s args Ts RL ρ sc L xs cA dC dI A meth ret) (hd : decode cc pc = .ok (.getfield 160, 3)) (kk : xV p l e R s m args below meth c cells slots Q ρ cA dC dI A (lwWs σ θ cA Z ++ F) nL (pc + 3) lv (.ref (σ 1 0) :: st) X) : xV p l e R s m args below meth c cells slots Q ρ cA dC dI A (lwWs σ θ cA Z ++ F) nL pc lv (.ref (σ 0 0) :: st) X := by
  obtain ⟨q0, -, he⟩ := lw_at (σ := σ) (θ := θ) (cA := cA) (Z := Z) (K := 0) (j := 0) (lwK_mem.mpr (Or.inl ⟨by decide, rfl⟩)) F
  exact x_getN C (N := 15) (k := 9) (T := TX11) (Cn := RX11) (ref := "BootSlotsLaw$World") (host := "BootSlotsLaw") (fs := (lwF0 σ θ Z)) he rfl bsin_X11 (by decide) (by decide +kernel) rfl rfl hd kk
theorem xg_L_168 (C : xCx p m c cc nL s args Ts RL ρ sc L xs cA dC dI A meth ret) {j : Nat} (hj : j < ln Z) (hd : decode cc pc = .ok (.getfield 168, 3)) (kk : xV p l e R s m args below meth c cells slots Q ρ cA dC dI A (lwWs σ θ cA Z ++ F) nL (pc + 3) lv (.int (Z 5 j 2) :: st) X) : xV p l e R s m args below meth c cells slots Q ρ cA dC dI A (lwWs σ θ cA Z ++ F) nL pc lv (.ref (σ 5 j) :: st) X := by
  obtain ⟨q0, -, he⟩ := lw_at (σ := σ) (θ := θ) (cA := cA) (Z := Z) (K := 5) (j := j) (lwK_mem.mpr (Or.inr (Or.inl ⟨rfl, hj⟩))) F
  exact x_getN C (N := 8) (k := 1) (T := TX10) (Cn := RX10) (ref := "BootSlotsLaw$Place") (host := "BootSlotsLaw") (fs := (lwF5 θ Z j)) he rfl bsin_X10 (by decide) (by decide +kernel) rfl rfl hd kk
theorem xp_L_168 (C : xCx p m c cc nL s args Ts RL ρ sc L xs cA dC dI A meth ret) {j : Nat} (hj : j < ln Z) {x : Int32} (hd : decode cc pc = .ok (.putfield 168, 3)) (kk : xV p l e R s m args below meth c cells slots Q ρ cA dC dI A (lwWs σ θ cA (wr Z 5 j 2 x) ++ F) nL (pc + 3) lv st X) : xV p l e R s m args below meth c cells slots Q ρ cA dC dI A (lwWs σ θ cA Z ++ F) nL pc lv (.int x :: .ref (σ 5 j) :: st) X := by
  obtain ⟨q0, hq, he⟩ := lw_at (σ := σ) (θ := θ) (cA := cA) (Z := Z) (K := 5) (j := j) (lwK_mem.mpr (Or.inr (Or.inl ⟨rfl, hj⟩))) F
  refine x_putN C (N := 8) (k := 1) (T := TX10) (Cn := RX10) (ref := "BootSlotsLaw$Place") (host := "BootSlotsLaw") (fs := (lwF5 θ Z j)) (ty := .int) he rfl bsin_X10 tyX10 tyX10_ok nmX10 (by decide) (by decide +kernel) rfl rfl rfl rfl rfl (Nat.le_of_ble_eq_true rfl) (lw_set F hq ?_ ?_ ?_ (fun a b hm hne => lw_oth (K := 5) (j := j) (Or.inr (Or.inr (Or.inr (Or.inl ⟨rfl, rfl, rfl⟩)))) (fun h => absurd h (by decide)) hm hne)) hd kk
  · unfold ln; rw [wr_no (by omega)]
  · unfold lm; rw [wr_no (by omega)]
  · simp [lwC, wr]
theorem xg_L_171 (C : xCx p m c cc nL s args Ts RL ρ sc L xs cA dC dI A meth ret) {j : Nat} (hj : j < ln Z) (hd : decode cc pc = .ok (.getfield 171, 3)) (kk : xV p l e R s m args below meth c cells slots Q ρ cA dC dI A (lwWs σ θ cA Z ++ F) nL (pc + 3) lv (.int (Z 5 j 5) :: st) X) : xV p l e R s m args below meth c cells slots Q ρ cA dC dI A (lwWs σ θ cA Z ++ F) nL pc lv (.ref (σ 5 j) :: st) X := by
  obtain ⟨q0, -, he⟩ := lw_at (σ := σ) (θ := θ) (cA := cA) (Z := Z) (K := 5) (j := j) (lwK_mem.mpr (Or.inr (Or.inl ⟨rfl, hj⟩))) F
  exact x_getN C (N := 8) (k := 3) (T := TX10) (Cn := RX10) (ref := "BootSlotsLaw$Place") (host := "BootSlotsLaw") (fs := (lwF5 θ Z j)) he rfl bsin_X10 (by decide) (by decide +kernel) rfl rfl hd kk
theorem xg_L_174 (C : xCx p m c cc nL s args Ts RL ρ sc L xs cA dC dI A meth ret) {j : Nat} (hj : j < ln Z) (hd : decode cc pc = .ok (.getfield 174, 3)) (kk : xV p l e R s m args below meth c cells slots Q ρ cA dC dI A (lwWs σ θ cA Z ++ F) nL (pc + 3) lv (.int (Z 5 j 6) :: st) X) : xV p l e R s m args below meth c cells slots Q ρ cA dC dI A (lwWs σ θ cA Z ++ F) nL pc lv (.ref (σ 5 j) :: st) X := by
  obtain ⟨q0, -, he⟩ := lw_at (σ := σ) (θ := θ) (cA := cA) (Z := Z) (K := 5) (j := j) (lwK_mem.mpr (Or.inr (Or.inl ⟨rfl, hj⟩))) F
  exact x_getN C (N := 8) (k := 4) (T := TX10) (Cn := RX10) (ref := "BootSlotsLaw$Place") (host := "BootSlotsLaw") (fs := (lwF5 θ Z j)) he rfl bsin_X10 (by decide) (by decide +kernel) rfl rfl hd kk
theorem xg_L_177 (C : xCx p m c cc nL s args Ts RL ρ sc L xs cA dC dI A meth ret) {j : Nat} (hj : j < ln Z) (hd : decode cc pc = .ok (.getfield 177, 3)) (kk : xV p l e R s m args below meth c cells slots Q ρ cA dC dI A (lwWs σ θ cA Z ++ F) nL (pc + 3) lv (.int (Z 5 j 7) :: st) X) : xV p l e R s m args below meth c cells slots Q ρ cA dC dI A (lwWs σ θ cA Z ++ F) nL pc lv (.ref (σ 5 j) :: st) X := by
  obtain ⟨q0, -, he⟩ := lw_at (σ := σ) (θ := θ) (cA := cA) (Z := Z) (K := 5) (j := j) (lwK_mem.mpr (Or.inr (Or.inl ⟨rfl, hj⟩))) F
  exact x_getN C (N := 8) (k := 5) (T := TX10) (Cn := RX10) (ref := "BootSlotsLaw$Place") (host := "BootSlotsLaw") (fs := (lwF5 θ Z j)) he rfl bsin_X10 (by decide) (by decide +kernel) rfl rfl hd kk
theorem xg_L_180 (C : xCx p m c cc nL s args Ts RL ρ sc L xs cA dC dI A meth ret) {j : Nat} (hj : j < ln Z) (hd : decode cc pc = .ok (.getfield 180, 3)) (kk : xV p l e R s m args below meth c cells slots Q ρ cA dC dI A (lwWs σ θ cA Z ++ F) nL (pc + 3) lv (.int (Z 5 j 8) :: st) X) : xV p l e R s m args below meth c cells slots Q ρ cA dC dI A (lwWs σ θ cA Z ++ F) nL pc lv (.ref (σ 5 j) :: st) X := by
  obtain ⟨q0, -, he⟩ := lw_at (σ := σ) (θ := θ) (cA := cA) (Z := Z) (K := 5) (j := j) (lwK_mem.mpr (Or.inr (Or.inl ⟨rfl, hj⟩))) F
  exact x_getN C (N := 8) (k := 6) (T := TX10) (Cn := RX10) (ref := "BootSlotsLaw$Place") (host := "BootSlotsLaw") (fs := (lwF5 θ Z j)) he rfl bsin_X10 (by decide) (by decide +kernel) rfl rfl hd kk
theorem xg_L_183 (C : xCx p m c cc nL s args Ts RL ρ sc L xs cA dC dI A meth ret) {j : Nat} (hj : j < ln Z) (hd : decode cc pc = .ok (.getfield 183, 3)) (kk : xV p l e R s m args below meth c cells slots Q ρ cA dC dI A (lwWs σ θ cA Z ++ F) nL (pc + 3) lv (.ref (θ 6 j) :: st) X) : xV p l e R s m args below meth c cells slots Q ρ cA dC dI A (lwWs σ θ cA Z ++ F) nL pc lv (.ref (σ 5 j) :: st) X := by
  obtain ⟨q0, -, he⟩ := lw_at (σ := σ) (θ := θ) (cA := cA) (Z := Z) (K := 5) (j := j) (lwK_mem.mpr (Or.inr (Or.inl ⟨rfl, hj⟩))) F
  exact x_getN C (N := 8) (k := 0) (T := TX10) (Cn := RX10) (ref := "BootSlotsLaw$Place") (host := "BootSlotsLaw") (fs := (lwF5 θ Z j)) he rfl bsin_X10 (by decide) (by decide +kernel) rfl rfl hd kk
theorem xg_L_185 (C : xCx p m c cc nL s args Ts RL ρ sc L xs cA dC dI A meth ret) (hd : decode cc pc = .ok (.getfield 185, 3)) (kk : xV p l e R s m args below meth c cells slots Q ρ cA dC dI A (lwWs σ θ cA Z ++ F) nL (pc + 3) lv (.int (Z 2 0 1) :: st) X) : xV p l e R s m args below meth c cells slots Q ρ cA dC dI A (lwWs σ θ cA Z ++ F) nL pc lv (.ref (σ 0 0) :: st) X := by
  obtain ⟨q0, -, he⟩ := lw_at (σ := σ) (θ := θ) (cA := cA) (Z := Z) (K := 0) (j := 0) (lwK_mem.mpr (Or.inl ⟨by decide, rfl⟩)) F
  exact x_getN C (N := 15) (k := 11) (T := TX11) (Cn := RX11) (ref := "BootSlotsLaw$World") (host := "BootSlotsLaw") (fs := (lwF0 σ θ Z)) he rfl bsin_X11 (by decide) (by decide +kernel) rfl rfl hd kk
theorem xp_L_185 (C : xCx p m c cc nL s args Ts RL ρ sc L xs cA dC dI A meth ret) {x : Int32} (hd : decode cc pc = .ok (.putfield 185, 3)) (kk : xV p l e R s m args below meth c cells slots Q ρ cA dC dI A (lwWs σ θ cA (wr Z 2 0 1 x) ++ F) nL (pc + 3) lv st X) : xV p l e R s m args below meth c cells slots Q ρ cA dC dI A (lwWs σ θ cA Z ++ F) nL pc lv (.int x :: .ref (σ 0 0) :: st) X := by
  obtain ⟨q0, hq, he⟩ := lw_at (σ := σ) (θ := θ) (cA := cA) (Z := Z) (K := 0) (j := 0) (lwK_mem.mpr (Or.inl ⟨by decide, rfl⟩)) F
  refine x_putN C (N := 15) (k := 11) (T := TX11) (Cn := RX11) (ref := "BootSlotsLaw$World") (host := "BootSlotsLaw") (fs := (lwF0 σ θ Z)) (ty := .int) he rfl bsin_X11 tyX11 tyX11_ok nmX11 (by decide) (by decide +kernel) rfl rfl rfl rfl rfl (Nat.le_of_ble_eq_true rfl) (lw_set F hq ?_ ?_ ?_ (fun a b hm hne => lw_oth (K := 0) (j := 0) (Or.inl ⟨rfl, by decide⟩) (fun _ => rfl) hm hne)) hd kk
  · unfold ln; rw [wr_no (by omega)]
  · unfold lm; rw [wr_no (by omega)]
  · simp [lwC, wr]
theorem xg_L_188 (C : xCx p m c cc nL s args Ts RL ρ sc L xs cA dC dI A meth ret) (hd : decode cc pc = .ok (.getfield 188, 3)) (kk : xV p l e R s m args below meth c cells slots Q ρ cA dC dI A (lwWs σ θ cA Z ++ F) nL (pc + 3) lv (.int (Z 2 0 2) :: st) X) : xV p l e R s m args below meth c cells slots Q ρ cA dC dI A (lwWs σ θ cA Z ++ F) nL pc lv (.ref (σ 0 0) :: st) X := by
  obtain ⟨q0, -, he⟩ := lw_at (σ := σ) (θ := θ) (cA := cA) (Z := Z) (K := 0) (j := 0) (lwK_mem.mpr (Or.inl ⟨by decide, rfl⟩)) F
  exact x_getN C (N := 15) (k := 12) (T := TX11) (Cn := RX11) (ref := "BootSlotsLaw$World") (host := "BootSlotsLaw") (fs := (lwF0 σ θ Z)) he rfl bsin_X11 (by decide) (by decide +kernel) rfl rfl hd kk
theorem xp_L_188 (C : xCx p m c cc nL s args Ts RL ρ sc L xs cA dC dI A meth ret) {x : Int32} (hd : decode cc pc = .ok (.putfield 188, 3)) (kk : xV p l e R s m args below meth c cells slots Q ρ cA dC dI A (lwWs σ θ cA (wr Z 2 0 2 x) ++ F) nL (pc + 3) lv st X) : xV p l e R s m args below meth c cells slots Q ρ cA dC dI A (lwWs σ θ cA Z ++ F) nL pc lv (.int x :: .ref (σ 0 0) :: st) X := by
  obtain ⟨q0, hq, he⟩ := lw_at (σ := σ) (θ := θ) (cA := cA) (Z := Z) (K := 0) (j := 0) (lwK_mem.mpr (Or.inl ⟨by decide, rfl⟩)) F
  refine x_putN C (N := 15) (k := 12) (T := TX11) (Cn := RX11) (ref := "BootSlotsLaw$World") (host := "BootSlotsLaw") (fs := (lwF0 σ θ Z)) (ty := .int) he rfl bsin_X11 tyX11 tyX11_ok nmX11 (by decide) (by decide +kernel) rfl rfl rfl rfl rfl (Nat.le_of_ble_eq_true rfl) (lw_set F hq ?_ ?_ ?_ (fun a b hm hne => lw_oth (K := 0) (j := 0) (Or.inl ⟨rfl, by decide⟩) (fun _ => rfl) hm hne)) hd kk
  · unfold ln; rw [wr_no (by omega)]
  · unfold lm; rw [wr_no (by omega)]
  · simp [lwC, wr]
theorem xg_L_191 (C : xCx p m c cc nL s args Ts RL ρ sc L xs cA dC dI A meth ret) (hd : decode cc pc = .ok (.getfield 191, 3)) (kk : xV p l e R s m args below meth c cells slots Q ρ cA dC dI A (lwWs σ θ cA Z ++ F) nL (pc + 3) lv (.ref (σ 4 0) :: st) X) : xV p l e R s m args below meth c cells slots Q ρ cA dC dI A (lwWs σ θ cA Z ++ F) nL pc lv (.ref (σ 0 0) :: st) X := by
  obtain ⟨q0, -, he⟩ := lw_at (σ := σ) (θ := θ) (cA := cA) (Z := Z) (K := 0) (j := 0) (lwK_mem.mpr (Or.inl ⟨by decide, rfl⟩)) F
  exact x_getN C (N := 15) (k := 13) (T := TX11) (Cn := RX11) (ref := "BootSlotsLaw$World") (host := "BootSlotsLaw") (fs := (lwF0 σ θ Z)) he rfl bsin_X11 (by decide) (by decide +kernel) rfl rfl hd kk
theorem xg_L_194 (C : xCx p m c cc nL s args Ts RL ρ sc L xs cA dC dI A meth ret) (hd : decode cc pc = .ok (.getfield 194, 3)) (kk : xV p l e R s m args below meth c cells slots Q ρ cA dC dI A (lwWs σ θ cA Z ++ F) nL (pc + 3) lv (.ref (θ 3 0) :: st) X) : xV p l e R s m args below meth c cells slots Q ρ cA dC dI A (lwWs σ θ cA Z ++ F) nL pc lv (.ref (σ 0 0) :: st) X := by
  obtain ⟨q0, -, he⟩ := lw_at (σ := σ) (θ := θ) (cA := cA) (Z := Z) (K := 0) (j := 0) (lwK_mem.mpr (Or.inl ⟨by decide, rfl⟩)) F
  exact x_getN C (N := 15) (k := 14) (T := TX11) (Cn := RX11) (ref := "BootSlotsLaw$World") (host := "BootSlotsLaw") (fs := (lwF0 σ θ Z)) he rfl bsin_X11 (by decide) (by decide +kernel) rfl rfl hd kk
theorem xg_L_349 (C : xCx p m c cc nL s args Ts RL ρ sc L xs cA dC dI A meth ret) (hd : decode cc pc = .ok (.getfield 349, 3)) (kk : xV p l e R s m args below meth c cells slots Q ρ cA dC dI A (lwWs σ θ cA Z ++ F) nL (pc + 3) lv (.ref (σ 9 0) :: st) X) : xV p l e R s m args below meth c cells slots Q ρ cA dC dI A (lwWs σ θ cA Z ++ F) nL pc lv (.ref (σ 0 0) :: st) X := by
  obtain ⟨q0, -, he⟩ := lw_at (σ := σ) (θ := θ) (cA := cA) (Z := Z) (K := 0) (j := 0) (lwK_mem.mpr (Or.inl ⟨by decide, rfl⟩)) F
  exact x_getN C (N := 15) (k := 0) (T := TX11) (Cn := RX11) (ref := "BootSlotsLaw$World") (host := "BootSlotsLaw") (fs := (lwF0 σ θ Z)) he rfl bsin_X11 (by decide) (by decide +kernel) rfl rfl hd kk
theorem xg_X10_7 (C : xCx p m c cc nL s args Ts RX10 ρ sc L xs cA dC dI A meth ret) {j : Nat} (hj : j < ln Z) (hd : decode cc pc = .ok (.getfield 7, 3)) (kk : xV p l e R s m args below meth c cells slots Q ρ cA dC dI A (lwWs σ θ cA Z ++ F) nL (pc + 3) lv (.ref (θ 6 j) :: st) X) : xV p l e R s m args below meth c cells slots Q ρ cA dC dI A (lwWs σ θ cA Z ++ F) nL pc lv (.ref (σ 5 j) :: st) X := by
  obtain ⟨q0, -, he⟩ := lw_at (σ := σ) (θ := θ) (cA := cA) (Z := Z) (K := 5) (j := j) (lwK_mem.mpr (Or.inr (Or.inl ⟨rfl, hj⟩))) F
  exact x_get C (N := 8) (k := 0) (T := TX10) (Cn := RX10) (ref := "BootSlotsLaw$Place") (fs := (lwF5 θ Z j)) he rfl bsin_X10 (by decide) (bsG_in 676 (by decide +kernel) rfl) rfl rfl hd kk
theorem xp_X10_19 (C : xCx p m c cc nL s args Ts RX10 ρ sc L xs cA dC dI A meth ret) {j : Nat} (hj : j < ln Z) {x : Int32} (hd : decode cc pc = .ok (.putfield 19, 3)) (kk : xV p l e R s m args below meth c cells slots Q ρ cA dC dI A (lwWs σ θ cA (wr Z 5 j 2 x) ++ F) nL (pc + 3) lv st X) : xV p l e R s m args below meth c cells slots Q ρ cA dC dI A (lwWs σ θ cA Z ++ F) nL pc lv (.int x :: .ref (σ 5 j) :: st) X := by
  obtain ⟨q0, hq, he⟩ := lw_at (σ := σ) (θ := θ) (cA := cA) (Z := Z) (K := 5) (j := j) (lwK_mem.mpr (Or.inr (Or.inl ⟨rfl, hj⟩))) F
  refine x_put C (N := 8) (k := 1) (T := TX10) (Cn := RX10) (ref := "BootSlotsLaw$Place") (fs := (lwF5 θ Z j)) (ty := .int) he rfl bsin_X10 tyX10 tyX10_ok nmX10 (by decide) (bsG_in 680 (by decide +kernel) rfl) rfl rfl rfl rfl rfl (Nat.le_of_ble_eq_true rfl) (lw_set F hq ?_ ?_ ?_ (fun a b hm hne => lw_oth (K := 5) (j := j) (Or.inr (Or.inr (Or.inr (Or.inl ⟨rfl, rfl, rfl⟩)))) (fun h => absurd h (by decide)) hm hne)) hd kk
  · unfold ln; rw [wr_no (by omega)]
  · unfold lm; rw [wr_no (by omega)]
  · simp [lwC, wr]
theorem xp_X10_23 (C : xCx p m c cc nL s args Ts RX10 ρ sc L xs cA dC dI A meth ret) {j : Nat} (hj : j < ln Z) {x : Int32} (hd : decode cc pc = .ok (.putfield 23, 3)) (kk : xV p l e R s m args below meth c cells slots Q ρ cA dC dI A (lwWs σ θ cA (wr Z 5 j 3 x) ++ F) nL (pc + 3) lv st X) : xV p l e R s m args below meth c cells slots Q ρ cA dC dI A (lwWs σ θ cA Z ++ F) nL pc lv (.int x :: .ref (σ 5 j) :: st) X := by
  obtain ⟨q0, hq, he⟩ := lw_at (σ := σ) (θ := θ) (cA := cA) (Z := Z) (K := 5) (j := j) (lwK_mem.mpr (Or.inr (Or.inl ⟨rfl, hj⟩))) F
  refine x_put C (N := 8) (k := 2) (T := TX10) (Cn := RX10) (ref := "BootSlotsLaw$Place") (fs := (lwF5 θ Z j)) (ty := .int) he rfl bsin_X10 tyX10 tyX10_ok nmX10 (by decide) (bsG_in 683 (by decide +kernel) rfl) rfl rfl rfl rfl rfl (Nat.le_of_ble_eq_true rfl) (lw_set F hq ?_ ?_ ?_ (fun a b hm hne => lw_oth (K := 5) (j := j) (Or.inr (Or.inr (Or.inr (Or.inl ⟨rfl, rfl, rfl⟩)))) (fun h => absurd h (by decide)) hm hne)) hd kk
  · unfold ln; rw [wr_no (by omega)]
  · unfold lm; rw [wr_no (by omega)]
  · simp [lwC, wr]
theorem xp_X10_26 (C : xCx p m c cc nL s args Ts RX10 ρ sc L xs cA dC dI A meth ret) {j : Nat} (hj : j < ln Z) {x : Int32} (hd : decode cc pc = .ok (.putfield 26, 3)) (kk : xV p l e R s m args below meth c cells slots Q ρ cA dC dI A (lwWs σ θ cA (wr Z 5 j 5 x) ++ F) nL (pc + 3) lv st X) : xV p l e R s m args below meth c cells slots Q ρ cA dC dI A (lwWs σ θ cA Z ++ F) nL pc lv (.int x :: .ref (σ 5 j) :: st) X := by
  obtain ⟨q0, hq, he⟩ := lw_at (σ := σ) (θ := θ) (cA := cA) (Z := Z) (K := 5) (j := j) (lwK_mem.mpr (Or.inr (Or.inl ⟨rfl, hj⟩))) F
  refine x_put C (N := 8) (k := 3) (T := TX10) (Cn := RX10) (ref := "BootSlotsLaw$Place") (fs := (lwF5 θ Z j)) (ty := .int) he rfl bsin_X10 tyX10 tyX10_ok nmX10 (by decide) (bsG_in 685 (by decide +kernel) rfl) rfl rfl rfl rfl rfl (Nat.le_of_ble_eq_true rfl) (lw_set F hq ?_ ?_ ?_ (fun a b hm hne => lw_oth (K := 5) (j := j) (Or.inr (Or.inr (Or.inr (Or.inl ⟨rfl, rfl, rfl⟩)))) (fun h => absurd h (by decide)) hm hne)) hd kk
  · unfold ln; rw [wr_no (by omega)]
  · unfold lm; rw [wr_no (by omega)]
  · simp [lwC, wr]
theorem xp_X10_38 (C : xCx p m c cc nL s args Ts RX10 ρ sc L xs cA dC dI A meth ret) {j : Nat} (hj : j < ln Z) {x : Int32} (hb : x = 0 ∨ x = 1) (hd : decode cc pc = .ok (.putfield 38, 3)) (kk : xV p l e R s m args below meth c cells slots Q ρ cA dC dI A (lwWs σ θ cA (wr Z 5 j 4 x) ++ F) nL (pc + 3) lv st X) : xV p l e R s m args below meth c cells slots Q ρ cA dC dI A (lwWs σ θ cA Z ++ F) nL pc lv (.int x :: .ref (σ 5 j) :: st) X := by
  obtain ⟨q0, hq, he⟩ := lw_at (σ := σ) (θ := θ) (cA := cA) (Z := Z) (K := 5) (j := j) (lwK_mem.mpr (Or.inr (Or.inl ⟨rfl, hj⟩))) F
  refine x_put C (N := 8) (k := 7) (T := TX10) (Cn := RX10) (ref := "BootSlotsLaw$Place") (fs := (lwF5 θ Z j)) (ty := .boolean) he rfl bsin_X10 tyX10 tyX10_ok nmX10 (by decide) (bsG_in 695 (by decide +kernel) rfl) rfl rfl rfl (bsZ01 hb).1 (bsZ01 hb).2 (Nat.le_of_ble_eq_true rfl) (lw_set F hq ?_ ?_ ?_ (fun a b hm hne => lw_oth (K := 5) (j := j) (Or.inr (Or.inr (Or.inr (Or.inl ⟨rfl, rfl, rfl⟩)))) (fun h => absurd h (by decide)) hm hne)) hd kk
  · unfold ln; rw [wr_no (by omega)]
  · unfold lm; rw [wr_no (by omega)]
  · simp [lwC, wr]
theorem xg_X11_7 (C : xCx p m c cc nL s args Ts RX11 ρ sc L xs cA dC dI A meth ret) (hd : decode cc pc = .ok (.getfield 7, 3)) (kk : xV p l e R s m args below meth c cells slots Q ρ cA dC dI A (lwWs σ θ cA Z ++ F) nL (pc + 3) lv (.int (Z 0 0 11) :: st) X) : xV p l e R s m args below meth c cells slots Q ρ cA dC dI A (lwWs σ θ cA Z ++ F) nL pc lv (.ref (σ 0 0) :: st) X := by
  obtain ⟨q0, -, he⟩ := lw_at (σ := σ) (θ := θ) (cA := cA) (Z := Z) (K := 0) (j := 0) (lwK_mem.mpr (Or.inl ⟨by decide, rfl⟩)) F
  exact x_get C (N := 15) (k := 7) (T := TX11) (Cn := RX11) (ref := "BootSlotsLaw$World") (fs := (lwF0 σ θ Z)) he rfl bsin_X11 (by decide) (bsG_in 736 (by decide +kernel) rfl) rfl rfl hd kk
theorem xp_X11_7 (C : xCx p m c cc nL s args Ts RX11 ρ sc L xs cA dC dI A meth ret) {x : Int32} (hd : decode cc pc = .ok (.putfield 7, 3)) (kk : xV p l e R s m args below meth c cells slots Q ρ cA dC dI A (lwWs σ θ cA (wr Z 0 0 11 x) ++ F) nL (pc + 3) lv st X) : xV p l e R s m args below meth c cells slots Q ρ cA dC dI A (lwWs σ θ cA Z ++ F) nL pc lv (.int x :: .ref (σ 0 0) :: st) X := by
  obtain ⟨q0, hq, he⟩ := lw_at (σ := σ) (θ := θ) (cA := cA) (Z := Z) (K := 0) (j := 0) (lwK_mem.mpr (Or.inl ⟨by decide, rfl⟩)) F
  refine x_put C (N := 15) (k := 7) (T := TX11) (Cn := RX11) (ref := "BootSlotsLaw$World") (fs := (lwF0 σ θ Z)) (ty := .int) he rfl bsin_X11 tyX11 tyX11_ok nmX11 (by decide) (bsG_in 736 (by decide +kernel) rfl) rfl rfl rfl rfl rfl (Nat.le_of_ble_eq_true rfl) (lw_set F hq ?_ ?_ ?_ (fun a b hm hne => lw_oth (K := 0) (j := 0) (Or.inl ⟨rfl, by decide⟩) (fun _ => rfl) hm hne)) hd kk
  · unfold ln; rw [wr_no (by omega)]
  · unfold lm; rw [wr_no (by omega)]
  · simp [lwC, wr]
theorem xg_X11_13 (C : xCx p m c cc nL s args Ts RX11 ρ sc L xs cA dC dI A meth ret) (hd : decode cc pc = .ok (.getfield 13, 3)) (kk : xV p l e R s m args below meth c cells slots Q ρ cA dC dI A (lwWs σ θ cA Z ++ F) nL (pc + 3) lv (.ref (σ 1 0) :: st) X) : xV p l e R s m args below meth c cells slots Q ρ cA dC dI A (lwWs σ θ cA Z ++ F) nL pc lv (.ref (σ 0 0) :: st) X := by
  obtain ⟨q0, -, he⟩ := lw_at (σ := σ) (θ := θ) (cA := cA) (Z := Z) (K := 0) (j := 0) (lwK_mem.mpr (Or.inl ⟨by decide, rfl⟩)) F
  exact x_get C (N := 15) (k := 9) (T := TX11) (Cn := RX11) (ref := "BootSlotsLaw$World") (fs := (lwF0 σ θ Z)) he rfl bsin_X11 (by decide) (bsG_in 740 (by decide +kernel) rfl) rfl rfl hd kk
theorem xg_X11_17 (C : xCx p m c cc nL s args Ts RX11 ρ sc L xs cA dC dI A meth ret) (hd : decode cc pc = .ok (.getfield 17, 3)) (kk : xV p l e R s m args below meth c cells slots Q ρ cA dC dI A (lwWs σ θ cA Z ++ F) nL (pc + 3) lv (.int (Z 2 0 1) :: st) X) : xV p l e R s m args below meth c cells slots Q ρ cA dC dI A (lwWs σ θ cA Z ++ F) nL pc lv (.ref (σ 0 0) :: st) X := by
  obtain ⟨q0, -, he⟩ := lw_at (σ := σ) (θ := θ) (cA := cA) (Z := Z) (K := 0) (j := 0) (lwK_mem.mpr (Or.inl ⟨by decide, rfl⟩)) F
  exact x_get C (N := 15) (k := 11) (T := TX11) (Cn := RX11) (ref := "BootSlotsLaw$World") (fs := (lwF0 σ θ Z)) he rfl bsin_X11 (by decide) (bsG_in 744 (by decide +kernel) rfl) rfl rfl hd kk
theorem xp_X11_17 (C : xCx p m c cc nL s args Ts RX11 ρ sc L xs cA dC dI A meth ret) {x : Int32} (hd : decode cc pc = .ok (.putfield 17, 3)) (kk : xV p l e R s m args below meth c cells slots Q ρ cA dC dI A (lwWs σ θ cA (wr Z 2 0 1 x) ++ F) nL (pc + 3) lv st X) : xV p l e R s m args below meth c cells slots Q ρ cA dC dI A (lwWs σ θ cA Z ++ F) nL pc lv (.int x :: .ref (σ 0 0) :: st) X := by
  obtain ⟨q0, hq, he⟩ := lw_at (σ := σ) (θ := θ) (cA := cA) (Z := Z) (K := 0) (j := 0) (lwK_mem.mpr (Or.inl ⟨by decide, rfl⟩)) F
  refine x_put C (N := 15) (k := 11) (T := TX11) (Cn := RX11) (ref := "BootSlotsLaw$World") (fs := (lwF0 σ θ Z)) (ty := .int) he rfl bsin_X11 tyX11 tyX11_ok nmX11 (by decide) (bsG_in 744 (by decide +kernel) rfl) rfl rfl rfl rfl rfl (Nat.le_of_ble_eq_true rfl) (lw_set F hq ?_ ?_ ?_ (fun a b hm hne => lw_oth (K := 0) (j := 0) (Or.inl ⟨rfl, by decide⟩) (fun _ => rfl) hm hne)) hd kk
  · unfold ln; rw [wr_no (by omega)]
  · unfold lm; rw [wr_no (by omega)]
  · simp [lwC, wr]
theorem xg_X11_20 (C : xCx p m c cc nL s args Ts RX11 ρ sc L xs cA dC dI A meth ret) (hd : decode cc pc = .ok (.getfield 20, 3)) (kk : xV p l e R s m args below meth c cells slots Q ρ cA dC dI A (lwWs σ θ cA Z ++ F) nL (pc + 3) lv (.ref (σ 4 0) :: st) X) : xV p l e R s m args below meth c cells slots Q ρ cA dC dI A (lwWs σ θ cA Z ++ F) nL pc lv (.ref (σ 0 0) :: st) X := by
  obtain ⟨q0, -, he⟩ := lw_at (σ := σ) (θ := θ) (cA := cA) (Z := Z) (K := 0) (j := 0) (lwK_mem.mpr (Or.inl ⟨by decide, rfl⟩)) F
  exact x_get C (N := 15) (k := 13) (T := TX11) (Cn := RX11) (ref := "BootSlotsLaw$World") (fs := (lwF0 σ θ Z)) he rfl bsin_X11 (by decide) (bsG_in 748 (by decide +kernel) rfl) rfl rfl hd kk
theorem xg_X11_24 (C : xCx p m c cc nL s args Ts RX11 ρ sc L xs cA dC dI A meth ret) (hd : decode cc pc = .ok (.getfield 24, 3)) (kk : xV p l e R s m args below meth c cells slots Q ρ cA dC dI A (lwWs σ θ cA Z ++ F) nL (pc + 3) lv (.ref (θ 3 0) :: st) X) : xV p l e R s m args below meth c cells slots Q ρ cA dC dI A (lwWs σ θ cA Z ++ F) nL pc lv (.ref (σ 0 0) :: st) X := by
  obtain ⟨q0, -, he⟩ := lw_at (σ := σ) (θ := θ) (cA := cA) (Z := Z) (K := 0) (j := 0) (lwK_mem.mpr (Or.inl ⟨by decide, rfl⟩)) F
  exact x_get C (N := 15) (k := 14) (T := TX11) (Cn := RX11) (ref := "BootSlotsLaw$World") (fs := (lwF0 σ θ Z)) he rfl bsin_X11 (by decide) (bsG_in 750 (by decide +kernel) rfl) rfl rfl hd kk
theorem xg_X11_34 (C : xCx p m c cc nL s args Ts RX11 ρ sc L xs cA dC dI A meth ret) (hd : decode cc pc = .ok (.getfield 34, 3)) (kk : xV p l e R s m args below meth c cells slots Q ρ cA dC dI A (lwWs σ θ cA Z ++ F) nL (pc + 3) lv (.int (Z 0 0 5) :: st) X) : xV p l e R s m args below meth c cells slots Q ρ cA dC dI A (lwWs σ θ cA Z ++ F) nL pc lv (.ref (σ 0 0) :: st) X := by
  obtain ⟨q0, -, he⟩ := lw_at (σ := σ) (θ := θ) (cA := cA) (Z := Z) (K := 0) (j := 0) (lwK_mem.mpr (Or.inl ⟨by decide, rfl⟩)) F
  exact x_get C (N := 15) (k := 1) (T := TX11) (Cn := RX11) (ref := "BootSlotsLaw$World") (fs := (lwF0 σ θ Z)) he rfl bsin_X11 (by decide) (bsG_in 724 (by decide +kernel) rfl) rfl rfl hd kk
theorem xp_X11_34 (C : xCx p m c cc nL s args Ts RX11 ρ sc L xs cA dC dI A meth ret) {x : Int32} (hd : decode cc pc = .ok (.putfield 34, 3)) (kk : xV p l e R s m args below meth c cells slots Q ρ cA dC dI A (lwWs σ θ cA (wr Z 0 0 5 x) ++ F) nL (pc + 3) lv st X) : xV p l e R s m args below meth c cells slots Q ρ cA dC dI A (lwWs σ θ cA Z ++ F) nL pc lv (.int x :: .ref (σ 0 0) :: st) X := by
  obtain ⟨q0, hq, he⟩ := lw_at (σ := σ) (θ := θ) (cA := cA) (Z := Z) (K := 0) (j := 0) (lwK_mem.mpr (Or.inl ⟨by decide, rfl⟩)) F
  refine x_put C (N := 15) (k := 1) (T := TX11) (Cn := RX11) (ref := "BootSlotsLaw$World") (fs := (lwF0 σ θ Z)) (ty := .int) he rfl bsin_X11 tyX11 tyX11_ok nmX11 (by decide) (bsG_in 724 (by decide +kernel) rfl) rfl rfl rfl rfl rfl (Nat.le_of_ble_eq_true rfl) (lw_set F hq ?_ ?_ ?_ (fun a b hm hne => lw_oth (K := 0) (j := 0) (Or.inl ⟨rfl, by decide⟩) (fun _ => rfl) hm hne)) hd kk
  · unfold ln; rw [wr_no (by omega)]
  · unfold lm; rw [wr_no (by omega)]
  · simp [lwC, wr]
theorem xg_X11_37 (C : xCx p m c cc nL s args Ts RX11 ρ sc L xs cA dC dI A meth ret) (hd : decode cc pc = .ok (.getfield 37, 3)) (kk : xV p l e R s m args below meth c cells slots Q ρ cA dC dI A (lwWs σ θ cA Z ++ F) nL (pc + 3) lv (.int (Z 0 0 6) :: st) X) : xV p l e R s m args below meth c cells slots Q ρ cA dC dI A (lwWs σ θ cA Z ++ F) nL pc lv (.ref (σ 0 0) :: st) X := by
  obtain ⟨q0, -, he⟩ := lw_at (σ := σ) (θ := θ) (cA := cA) (Z := Z) (K := 0) (j := 0) (lwK_mem.mpr (Or.inl ⟨by decide, rfl⟩)) F
  exact x_get C (N := 15) (k := 2) (T := TX11) (Cn := RX11) (ref := "BootSlotsLaw$World") (fs := (lwF0 σ θ Z)) he rfl bsin_X11 (by decide) (bsG_in 726 (by decide +kernel) rfl) rfl rfl hd kk
theorem xp_X11_37 (C : xCx p m c cc nL s args Ts RX11 ρ sc L xs cA dC dI A meth ret) {x : Int32} (hd : decode cc pc = .ok (.putfield 37, 3)) (kk : xV p l e R s m args below meth c cells slots Q ρ cA dC dI A (lwWs σ θ cA (wr Z 0 0 6 x) ++ F) nL (pc + 3) lv st X) : xV p l e R s m args below meth c cells slots Q ρ cA dC dI A (lwWs σ θ cA Z ++ F) nL pc lv (.int x :: .ref (σ 0 0) :: st) X := by
  obtain ⟨q0, hq, he⟩ := lw_at (σ := σ) (θ := θ) (cA := cA) (Z := Z) (K := 0) (j := 0) (lwK_mem.mpr (Or.inl ⟨by decide, rfl⟩)) F
  refine x_put C (N := 15) (k := 2) (T := TX11) (Cn := RX11) (ref := "BootSlotsLaw$World") (fs := (lwF0 σ θ Z)) (ty := .int) he rfl bsin_X11 tyX11 tyX11_ok nmX11 (by decide) (bsG_in 726 (by decide +kernel) rfl) rfl rfl rfl rfl rfl (Nat.le_of_ble_eq_true rfl) (lw_set F hq ?_ ?_ ?_ (fun a b hm hne => lw_oth (K := 0) (j := 0) (Or.inl ⟨rfl, by decide⟩) (fun _ => rfl) hm hne)) hd kk
  · unfold ln; rw [wr_no (by omega)]
  · unfold lm; rw [wr_no (by omega)]
  · simp [lwC, wr]
theorem xg_X11_40 (C : xCx p m c cc nL s args Ts RX11 ρ sc L xs cA dC dI A meth ret) (hd : decode cc pc = .ok (.getfield 40, 3)) (kk : xV p l e R s m args below meth c cells slots Q ρ cA dC dI A (lwWs σ θ cA Z ++ F) nL (pc + 3) lv (.int (Z 0 0 7) :: st) X) : xV p l e R s m args below meth c cells slots Q ρ cA dC dI A (lwWs σ θ cA Z ++ F) nL pc lv (.ref (σ 0 0) :: st) X := by
  obtain ⟨q0, -, he⟩ := lw_at (σ := σ) (θ := θ) (cA := cA) (Z := Z) (K := 0) (j := 0) (lwK_mem.mpr (Or.inl ⟨by decide, rfl⟩)) F
  exact x_get C (N := 15) (k := 3) (T := TX11) (Cn := RX11) (ref := "BootSlotsLaw$World") (fs := (lwF0 σ θ Z)) he rfl bsin_X11 (by decide) (bsG_in 728 (by decide +kernel) rfl) rfl rfl hd kk
theorem xp_X11_40 (C : xCx p m c cc nL s args Ts RX11 ρ sc L xs cA dC dI A meth ret) {x : Int32} (hd : decode cc pc = .ok (.putfield 40, 3)) (kk : xV p l e R s m args below meth c cells slots Q ρ cA dC dI A (lwWs σ θ cA (wr Z 0 0 7 x) ++ F) nL (pc + 3) lv st X) : xV p l e R s m args below meth c cells slots Q ρ cA dC dI A (lwWs σ θ cA Z ++ F) nL pc lv (.int x :: .ref (σ 0 0) :: st) X := by
  obtain ⟨q0, hq, he⟩ := lw_at (σ := σ) (θ := θ) (cA := cA) (Z := Z) (K := 0) (j := 0) (lwK_mem.mpr (Or.inl ⟨by decide, rfl⟩)) F
  refine x_put C (N := 15) (k := 3) (T := TX11) (Cn := RX11) (ref := "BootSlotsLaw$World") (fs := (lwF0 σ θ Z)) (ty := .int) he rfl bsin_X11 tyX11 tyX11_ok nmX11 (by decide) (bsG_in 728 (by decide +kernel) rfl) rfl rfl rfl rfl rfl (Nat.le_of_ble_eq_true rfl) (lw_set F hq ?_ ?_ ?_ (fun a b hm hne => lw_oth (K := 0) (j := 0) (Or.inl ⟨rfl, by decide⟩) (fun _ => rfl) hm hne)) hd kk
  · unfold ln; rw [wr_no (by omega)]
  · unfold lm; rw [wr_no (by omega)]
  · simp [lwC, wr]
theorem xg_X11_43 (C : xCx p m c cc nL s args Ts RX11 ρ sc L xs cA dC dI A meth ret) (hd : decode cc pc = .ok (.getfield 43, 3)) (kk : xV p l e R s m args below meth c cells slots Q ρ cA dC dI A (lwWs σ θ cA Z ++ F) nL (pc + 3) lv (.int (Z 0 0 8) :: st) X) : xV p l e R s m args below meth c cells slots Q ρ cA dC dI A (lwWs σ θ cA Z ++ F) nL pc lv (.ref (σ 0 0) :: st) X := by
  obtain ⟨q0, -, he⟩ := lw_at (σ := σ) (θ := θ) (cA := cA) (Z := Z) (K := 0) (j := 0) (lwK_mem.mpr (Or.inl ⟨by decide, rfl⟩)) F
  exact x_get C (N := 15) (k := 4) (T := TX11) (Cn := RX11) (ref := "BootSlotsLaw$World") (fs := (lwF0 σ θ Z)) he rfl bsin_X11 (by decide) (bsG_in 730 (by decide +kernel) rfl) rfl rfl hd kk
theorem xp_X11_43 (C : xCx p m c cc nL s args Ts RX11 ρ sc L xs cA dC dI A meth ret) {x : Int32} (hd : decode cc pc = .ok (.putfield 43, 3)) (kk : xV p l e R s m args below meth c cells slots Q ρ cA dC dI A (lwWs σ θ cA (wr Z 0 0 8 x) ++ F) nL (pc + 3) lv st X) : xV p l e R s m args below meth c cells slots Q ρ cA dC dI A (lwWs σ θ cA Z ++ F) nL pc lv (.int x :: .ref (σ 0 0) :: st) X := by
  obtain ⟨q0, hq, he⟩ := lw_at (σ := σ) (θ := θ) (cA := cA) (Z := Z) (K := 0) (j := 0) (lwK_mem.mpr (Or.inl ⟨by decide, rfl⟩)) F
  refine x_put C (N := 15) (k := 4) (T := TX11) (Cn := RX11) (ref := "BootSlotsLaw$World") (fs := (lwF0 σ θ Z)) (ty := .int) he rfl bsin_X11 tyX11 tyX11_ok nmX11 (by decide) (bsG_in 730 (by decide +kernel) rfl) rfl rfl rfl rfl rfl (Nat.le_of_ble_eq_true rfl) (lw_set F hq ?_ ?_ ?_ (fun a b hm hne => lw_oth (K := 0) (j := 0) (Or.inl ⟨rfl, by decide⟩) (fun _ => rfl) hm hne)) hd kk
  · unfold ln; rw [wr_no (by omega)]
  · unfold lm; rw [wr_no (by omega)]
  · simp [lwC, wr]
theorem xg_X11_60 (C : xCx p m c cc nL s args Ts RX11 ρ sc L xs cA dC dI A meth ret) (hd : decode cc pc = .ok (.getfield 60, 3)) (kk : xV p l e R s m args below meth c cells slots Q ρ cA dC dI A (lwWs σ θ cA Z ++ F) nL (pc + 3) lv (.ref (σ 9 0) :: st) X) : xV p l e R s m args below meth c cells slots Q ρ cA dC dI A (lwWs σ θ cA Z ++ F) nL pc lv (.ref (σ 0 0) :: st) X := by
  obtain ⟨q0, -, he⟩ := lw_at (σ := σ) (θ := θ) (cA := cA) (Z := Z) (K := 0) (j := 0) (lwK_mem.mpr (Or.inl ⟨by decide, rfl⟩)) F
  exact x_get C (N := 15) (k := 0) (T := TX11) (Cn := RX11) (ref := "BootSlotsLaw$World") (fs := (lwF0 σ θ Z)) he rfl bsin_X11 (by decide) (bsG_in 722 (by decide +kernel) rfl) rfl rfl hd kk
theorem xg_X11_66 (C : xCx p m c cc nL s args Ts RX11 ρ sc L xs cA dC dI A meth ret) (hd : decode cc pc = .ok (.getfield 66, 3)) (kk : xV p l e R s m args below meth c cells slots Q ρ cA dC dI A (lwWs σ θ cA Z ++ F) nL (pc + 3) lv (.ref (σ 2 0) :: st) X) : xV p l e R s m args below meth c cells slots Q ρ cA dC dI A (lwWs σ θ cA Z ++ F) nL pc lv (.ref (σ 0 0) :: st) X := by
  obtain ⟨q0, -, he⟩ := lw_at (σ := σ) (θ := θ) (cA := cA) (Z := Z) (K := 0) (j := 0) (lwK_mem.mpr (Or.inl ⟨by decide, rfl⟩)) F
  exact x_get C (N := 15) (k := 10) (T := TX11) (Cn := RX11) (ref := "BootSlotsLaw$World") (fs := (lwF0 σ θ Z)) he rfl bsin_X11 (by decide) (bsG_in 742 (by decide +kernel) rfl) rfl rfl hd kk
theorem xg_X11_76 (C : xCx p m c cc nL s args Ts RX11 ρ sc L xs cA dC dI A meth ret) {j : Nat} (hj : j < ln Z) (hd : decode cc pc = .ok (.getfield 76, 3)) (kk : xV p l e R s m args below meth c cells slots Q ρ cA dC dI A (lwWs σ θ cA Z ++ F) nL (pc + 3) lv (.ref (θ 6 j) :: st) X) : xV p l e R s m args below meth c cells slots Q ρ cA dC dI A (lwWs σ θ cA Z ++ F) nL pc lv (.ref (σ 5 j) :: st) X := by
  obtain ⟨q0, -, he⟩ := lw_at (σ := σ) (θ := θ) (cA := cA) (Z := Z) (K := 5) (j := j) (lwK_mem.mpr (Or.inr (Or.inl ⟨rfl, hj⟩))) F
  exact x_getN C (N := 8) (k := 0) (T := TX10) (Cn := RX10) (ref := "BootSlotsLaw$Place") (host := "BootSlotsLaw") (fs := (lwF5 θ Z j)) he rfl bsin_X10 (by decide) (by decide +kernel) rfl rfl hd kk
theorem xg_X11_79 (C : xCx p m c cc nL s args Ts RX11 ρ sc L xs cA dC dI A meth ret) {j : Nat} (hj : j < ln Z) (hd : decode cc pc = .ok (.getfield 79, 3)) (kk : xV p l e R s m args below meth c cells slots Q ρ cA dC dI A (lwWs σ θ cA Z ++ F) nL (pc + 3) lv (.int (Z 5 j 2) :: st) X) : xV p l e R s m args below meth c cells slots Q ρ cA dC dI A (lwWs σ θ cA Z ++ F) nL pc lv (.ref (σ 5 j) :: st) X := by
  obtain ⟨q0, -, he⟩ := lw_at (σ := σ) (θ := θ) (cA := cA) (Z := Z) (K := 5) (j := j) (lwK_mem.mpr (Or.inr (Or.inl ⟨rfl, hj⟩))) F
  exact x_getN C (N := 8) (k := 1) (T := TX10) (Cn := RX10) (ref := "BootSlotsLaw$Place") (host := "BootSlotsLaw") (fs := (lwF5 θ Z j)) he rfl bsin_X10 (by decide) (by decide +kernel) rfl rfl hd kk
theorem xp_X11_79 (C : xCx p m c cc nL s args Ts RX11 ρ sc L xs cA dC dI A meth ret) {j : Nat} (hj : j < ln Z) {x : Int32} (hd : decode cc pc = .ok (.putfield 79, 3)) (kk : xV p l e R s m args below meth c cells slots Q ρ cA dC dI A (lwWs σ θ cA (wr Z 5 j 2 x) ++ F) nL (pc + 3) lv st X) : xV p l e R s m args below meth c cells slots Q ρ cA dC dI A (lwWs σ θ cA Z ++ F) nL pc lv (.int x :: .ref (σ 5 j) :: st) X := by
  obtain ⟨q0, hq, he⟩ := lw_at (σ := σ) (θ := θ) (cA := cA) (Z := Z) (K := 5) (j := j) (lwK_mem.mpr (Or.inr (Or.inl ⟨rfl, hj⟩))) F
  refine x_putN C (N := 8) (k := 1) (T := TX10) (Cn := RX10) (ref := "BootSlotsLaw$Place") (host := "BootSlotsLaw") (fs := (lwF5 θ Z j)) (ty := .int) he rfl bsin_X10 tyX10 tyX10_ok nmX10 (by decide) (by decide +kernel) rfl rfl rfl rfl rfl (Nat.le_of_ble_eq_true rfl) (lw_set F hq ?_ ?_ ?_ (fun a b hm hne => lw_oth (K := 5) (j := j) (Or.inr (Or.inr (Or.inr (Or.inl ⟨rfl, rfl, rfl⟩)))) (fun h => absurd h (by decide)) hm hne)) hd kk
  · unfold ln; rw [wr_no (by omega)]
  · unfold lm; rw [wr_no (by omega)]
  · simp [lwC, wr]
theorem xg_X11_82 (C : xCx p m c cc nL s args Ts RX11 ρ sc L xs cA dC dI A meth ret) {j : Nat} (hj : j < ln Z) (hd : decode cc pc = .ok (.getfield 82, 3)) (kk : xV p l e R s m args below meth c cells slots Q ρ cA dC dI A (lwWs σ θ cA Z ++ F) nL (pc + 3) lv (.int (Z 5 j 3) :: st) X) : xV p l e R s m args below meth c cells slots Q ρ cA dC dI A (lwWs σ θ cA Z ++ F) nL pc lv (.ref (σ 5 j) :: st) X := by
  obtain ⟨q0, -, he⟩ := lw_at (σ := σ) (θ := θ) (cA := cA) (Z := Z) (K := 5) (j := j) (lwK_mem.mpr (Or.inr (Or.inl ⟨rfl, hj⟩))) F
  exact x_getN C (N := 8) (k := 2) (T := TX10) (Cn := RX10) (ref := "BootSlotsLaw$Place") (host := "BootSlotsLaw") (fs := (lwF5 θ Z j)) he rfl bsin_X10 (by decide) (by decide +kernel) rfl rfl hd kk
theorem xp_X11_82 (C : xCx p m c cc nL s args Ts RX11 ρ sc L xs cA dC dI A meth ret) {j : Nat} (hj : j < ln Z) {x : Int32} (hd : decode cc pc = .ok (.putfield 82, 3)) (kk : xV p l e R s m args below meth c cells slots Q ρ cA dC dI A (lwWs σ θ cA (wr Z 5 j 3 x) ++ F) nL (pc + 3) lv st X) : xV p l e R s m args below meth c cells slots Q ρ cA dC dI A (lwWs σ θ cA Z ++ F) nL pc lv (.int x :: .ref (σ 5 j) :: st) X := by
  obtain ⟨q0, hq, he⟩ := lw_at (σ := σ) (θ := θ) (cA := cA) (Z := Z) (K := 5) (j := j) (lwK_mem.mpr (Or.inr (Or.inl ⟨rfl, hj⟩))) F
  refine x_putN C (N := 8) (k := 2) (T := TX10) (Cn := RX10) (ref := "BootSlotsLaw$Place") (host := "BootSlotsLaw") (fs := (lwF5 θ Z j)) (ty := .int) he rfl bsin_X10 tyX10 tyX10_ok nmX10 (by decide) (by decide +kernel) rfl rfl rfl rfl rfl (Nat.le_of_ble_eq_true rfl) (lw_set F hq ?_ ?_ ?_ (fun a b hm hne => lw_oth (K := 5) (j := j) (Or.inr (Or.inr (Or.inr (Or.inl ⟨rfl, rfl, rfl⟩)))) (fun h => absurd h (by decide)) hm hne)) hd kk
  · unfold ln; rw [wr_no (by omega)]
  · unfold lm; rw [wr_no (by omega)]
  · simp [lwC, wr]
theorem xg_X11_93 (C : xCx p m c cc nL s args Ts RX11 ρ sc L xs cA dC dI A meth ret) {j : Nat} (hj : j < ln Z) (hd : decode cc pc = .ok (.getfield 93, 3)) (kk : xV p l e R s m args below meth c cells slots Q ρ cA dC dI A (lwWs σ θ cA Z ++ F) nL (pc + 3) lv (.int (Z 5 j 4) :: st) X) : xV p l e R s m args below meth c cells slots Q ρ cA dC dI A (lwWs σ θ cA Z ++ F) nL pc lv (.ref (σ 5 j) :: st) X := by
  obtain ⟨q0, -, he⟩ := lw_at (σ := σ) (θ := θ) (cA := cA) (Z := Z) (K := 5) (j := j) (lwK_mem.mpr (Or.inr (Or.inl ⟨rfl, hj⟩))) F
  exact x_getN C (N := 8) (k := 7) (T := TX10) (Cn := RX10) (ref := "BootSlotsLaw$Place") (host := "BootSlotsLaw") (fs := (lwF5 θ Z j)) he rfl bsin_X10 (by decide) (by decide +kernel) rfl rfl hd kk
theorem xp_X11_93 (C : xCx p m c cc nL s args Ts RX11 ρ sc L xs cA dC dI A meth ret) {j : Nat} (hj : j < ln Z) {x : Int32} (hb : x = 0 ∨ x = 1) (hd : decode cc pc = .ok (.putfield 93, 3)) (kk : xV p l e R s m args below meth c cells slots Q ρ cA dC dI A (lwWs σ θ cA (wr Z 5 j 4 x) ++ F) nL (pc + 3) lv st X) : xV p l e R s m args below meth c cells slots Q ρ cA dC dI A (lwWs σ θ cA Z ++ F) nL pc lv (.int x :: .ref (σ 5 j) :: st) X := by
  obtain ⟨q0, hq, he⟩ := lw_at (σ := σ) (θ := θ) (cA := cA) (Z := Z) (K := 5) (j := j) (lwK_mem.mpr (Or.inr (Or.inl ⟨rfl, hj⟩))) F
  refine x_putN C (N := 8) (k := 7) (T := TX10) (Cn := RX10) (ref := "BootSlotsLaw$Place") (host := "BootSlotsLaw") (fs := (lwF5 θ Z j)) (ty := .boolean) he rfl bsin_X10 tyX10 tyX10_ok nmX10 (by decide) (by decide +kernel) rfl rfl rfl (bsZ01 hb).1 (bsZ01 hb).2 (Nat.le_of_ble_eq_true rfl) (lw_set F hq ?_ ?_ ?_ (fun a b hm hne => lw_oth (K := 5) (j := j) (Or.inr (Or.inr (Or.inr (Or.inl ⟨rfl, rfl, rfl⟩)))) (fun h => absurd h (by decide)) hm hne)) hd kk
  · unfold ln; rw [wr_no (by omega)]
  · unfold lm; rw [wr_no (by omega)]
  · simp [lwC, wr]
theorem xg_X11_102 (C : xCx p m c cc nL s args Ts RX11 ρ sc L xs cA dC dI A meth ret) (hd : decode cc pc = .ok (.getfield 102, 3)) (kk : xV p l e R s m args below meth c cells slots Q ρ cA dC dI A (lwWs σ θ cA Z ++ F) nL (pc + 3) lv (.int (Z 0 0 9) :: st) X) : xV p l e R s m args below meth c cells slots Q ρ cA dC dI A (lwWs σ θ cA Z ++ F) nL pc lv (.ref (σ 0 0) :: st) X := by
  obtain ⟨q0, -, he⟩ := lw_at (σ := σ) (θ := θ) (cA := cA) (Z := Z) (K := 0) (j := 0) (lwK_mem.mpr (Or.inl ⟨by decide, rfl⟩)) F
  exact x_get C (N := 15) (k := 5) (T := TX11) (Cn := RX11) (ref := "BootSlotsLaw$World") (fs := (lwF0 σ θ Z)) he rfl bsin_X11 (by decide) (bsG_in 732 (by decide +kernel) rfl) rfl rfl hd kk
theorem xp_X11_102 (C : xCx p m c cc nL s args Ts RX11 ρ sc L xs cA dC dI A meth ret) {x : Int32} (hd : decode cc pc = .ok (.putfield 102, 3)) (kk : xV p l e R s m args below meth c cells slots Q ρ cA dC dI A (lwWs σ θ cA (wr Z 0 0 9 x) ++ F) nL (pc + 3) lv st X) : xV p l e R s m args below meth c cells slots Q ρ cA dC dI A (lwWs σ θ cA Z ++ F) nL pc lv (.int x :: .ref (σ 0 0) :: st) X := by
  obtain ⟨q0, hq, he⟩ := lw_at (σ := σ) (θ := θ) (cA := cA) (Z := Z) (K := 0) (j := 0) (lwK_mem.mpr (Or.inl ⟨by decide, rfl⟩)) F
  refine x_put C (N := 15) (k := 5) (T := TX11) (Cn := RX11) (ref := "BootSlotsLaw$World") (fs := (lwF0 σ θ Z)) (ty := .int) he rfl bsin_X11 tyX11 tyX11_ok nmX11 (by decide) (bsG_in 732 (by decide +kernel) rfl) rfl rfl rfl rfl rfl (Nat.le_of_ble_eq_true rfl) (lw_set F hq ?_ ?_ ?_ (fun a b hm hne => lw_oth (K := 0) (j := 0) (Or.inl ⟨rfl, by decide⟩) (fun _ => rfl) hm hne)) hd kk
  · unfold ln; rw [wr_no (by omega)]
  · unfold lm; rw [wr_no (by omega)]
  · simp [lwC, wr]
theorem xg_X11_105 (C : xCx p m c cc nL s args Ts RX11 ρ sc L xs cA dC dI A meth ret) (hd : decode cc pc = .ok (.getfield 105, 3)) (kk : xV p l e R s m args below meth c cells slots Q ρ cA dC dI A (lwWs σ θ cA Z ++ F) nL (pc + 3) lv (.int (Z 0 0 10) :: st) X) : xV p l e R s m args below meth c cells slots Q ρ cA dC dI A (lwWs σ θ cA Z ++ F) nL pc lv (.ref (σ 0 0) :: st) X := by
  obtain ⟨q0, -, he⟩ := lw_at (σ := σ) (θ := θ) (cA := cA) (Z := Z) (K := 0) (j := 0) (lwK_mem.mpr (Or.inl ⟨by decide, rfl⟩)) F
  exact x_get C (N := 15) (k := 6) (T := TX11) (Cn := RX11) (ref := "BootSlotsLaw$World") (fs := (lwF0 σ θ Z)) he rfl bsin_X11 (by decide) (bsG_in 734 (by decide +kernel) rfl) rfl rfl hd kk
theorem xp_X11_105 (C : xCx p m c cc nL s args Ts RX11 ρ sc L xs cA dC dI A meth ret) {x : Int32} (hd : decode cc pc = .ok (.putfield 105, 3)) (kk : xV p l e R s m args below meth c cells slots Q ρ cA dC dI A (lwWs σ θ cA (wr Z 0 0 10 x) ++ F) nL (pc + 3) lv st X) : xV p l e R s m args below meth c cells slots Q ρ cA dC dI A (lwWs σ θ cA Z ++ F) nL pc lv (.int x :: .ref (σ 0 0) :: st) X := by
  obtain ⟨q0, hq, he⟩ := lw_at (σ := σ) (θ := θ) (cA := cA) (Z := Z) (K := 0) (j := 0) (lwK_mem.mpr (Or.inl ⟨by decide, rfl⟩)) F
  refine x_put C (N := 15) (k := 6) (T := TX11) (Cn := RX11) (ref := "BootSlotsLaw$World") (fs := (lwF0 σ θ Z)) (ty := .int) he rfl bsin_X11 tyX11 tyX11_ok nmX11 (by decide) (bsG_in 734 (by decide +kernel) rfl) rfl rfl rfl rfl rfl (Nat.le_of_ble_eq_true rfl) (lw_set F hq ?_ ?_ ?_ (fun a b hm hne => lw_oth (K := 0) (j := 0) (Or.inl ⟨rfl, by decide⟩) (fun _ => rfl) hm hne)) hd kk
  · unfold ln; rw [wr_no (by omega)]
  · unfold lm; rw [wr_no (by omega)]
  · simp [lwC, wr]
theorem xg_X11_108 (C : xCx p m c cc nL s args Ts RX11 ρ sc L xs cA dC dI A meth ret) (hd : decode cc pc = .ok (.getfield 108, 3)) (kk : xV p l e R s m args below meth c cells slots Q ρ cA dC dI A (lwWs σ θ cA Z ++ F) nL (pc + 3) lv (.int (Z 0 0 12) :: st) X) : xV p l e R s m args below meth c cells slots Q ρ cA dC dI A (lwWs σ θ cA Z ++ F) nL pc lv (.ref (σ 0 0) :: st) X := by
  obtain ⟨q0, -, he⟩ := lw_at (σ := σ) (θ := θ) (cA := cA) (Z := Z) (K := 0) (j := 0) (lwK_mem.mpr (Or.inl ⟨by decide, rfl⟩)) F
  exact x_get C (N := 15) (k := 8) (T := TX11) (Cn := RX11) (ref := "BootSlotsLaw$World") (fs := (lwF0 σ θ Z)) he rfl bsin_X11 (by decide) (bsG_in 738 (by decide +kernel) rfl) rfl rfl hd kk
theorem xp_X11_108 (C : xCx p m c cc nL s args Ts RX11 ρ sc L xs cA dC dI A meth ret) {x : Int32} (hd : decode cc pc = .ok (.putfield 108, 3)) (kk : xV p l e R s m args below meth c cells slots Q ρ cA dC dI A (lwWs σ θ cA (wr Z 0 0 12 x) ++ F) nL (pc + 3) lv st X) : xV p l e R s m args below meth c cells slots Q ρ cA dC dI A (lwWs σ θ cA Z ++ F) nL pc lv (.int x :: .ref (σ 0 0) :: st) X := by
  obtain ⟨q0, hq, he⟩ := lw_at (σ := σ) (θ := θ) (cA := cA) (Z := Z) (K := 0) (j := 0) (lwK_mem.mpr (Or.inl ⟨by decide, rfl⟩)) F
  refine x_put C (N := 15) (k := 8) (T := TX11) (Cn := RX11) (ref := "BootSlotsLaw$World") (fs := (lwF0 σ θ Z)) (ty := .int) he rfl bsin_X11 tyX11 tyX11_ok nmX11 (by decide) (bsG_in 738 (by decide +kernel) rfl) rfl rfl rfl rfl rfl (Nat.le_of_ble_eq_true rfl) (lw_set F hq ?_ ?_ ?_ (fun a b hm hne => lw_oth (K := 0) (j := 0) (Or.inl ⟨rfl, by decide⟩) (fun _ => rfl) hm hne)) hd kk
  · unfold ln; rw [wr_no (by omega)]
  · unfold lm; rw [wr_no (by omega)]
  · simp [lwC, wr]
theorem xg_X11_119 (C : xCx p m c cc nL s args Ts RX11 ρ sc L xs cA dC dI A meth ret) (hd : decode cc pc = .ok (.getfield 119, 3)) (kk : xV p l e R s m args below meth c cells slots Q ρ cA dC dI A (lwWs σ θ cA Z ++ F) nL (pc + 3) lv (.int (Z 2 0 2) :: st) X) : xV p l e R s m args below meth c cells slots Q ρ cA dC dI A (lwWs σ θ cA Z ++ F) nL pc lv (.ref (σ 0 0) :: st) X := by
  obtain ⟨q0, -, he⟩ := lw_at (σ := σ) (θ := θ) (cA := cA) (Z := Z) (K := 0) (j := 0) (lwK_mem.mpr (Or.inl ⟨by decide, rfl⟩)) F
  exact x_get C (N := 15) (k := 12) (T := TX11) (Cn := RX11) (ref := "BootSlotsLaw$World") (fs := (lwF0 σ θ Z)) he rfl bsin_X11 (by decide) (bsG_in 747 (by decide +kernel) rfl) rfl rfl hd kk
theorem xp_X11_119 (C : xCx p m c cc nL s args Ts RX11 ρ sc L xs cA dC dI A meth ret) {x : Int32} (hd : decode cc pc = .ok (.putfield 119, 3)) (kk : xV p l e R s m args below meth c cells slots Q ρ cA dC dI A (lwWs σ θ cA (wr Z 2 0 2 x) ++ F) nL (pc + 3) lv st X) : xV p l e R s m args below meth c cells slots Q ρ cA dC dI A (lwWs σ θ cA Z ++ F) nL pc lv (.int x :: .ref (σ 0 0) :: st) X := by
  obtain ⟨q0, hq, he⟩ := lw_at (σ := σ) (θ := θ) (cA := cA) (Z := Z) (K := 0) (j := 0) (lwK_mem.mpr (Or.inl ⟨by decide, rfl⟩)) F
  refine x_put C (N := 15) (k := 12) (T := TX11) (Cn := RX11) (ref := "BootSlotsLaw$World") (fs := (lwF0 σ θ Z)) (ty := .int) he rfl bsin_X11 tyX11 tyX11_ok nmX11 (by decide) (bsG_in 747 (by decide +kernel) rfl) rfl rfl rfl rfl rfl (Nat.le_of_ble_eq_true rfl) (lw_set F hq ?_ ?_ ?_ (fun a b hm hne => lw_oth (K := 0) (j := 0) (Or.inl ⟨rfl, by decide⟩) (fun _ => rfl) hm hne)) hd kk
  · unfold ln; rw [wr_no (by omega)]
  · unfold lm; rw [wr_no (by omega)]
  · simp [lwC, wr]
theorem xg_X11_136 (C : xCx p m c cc nL s args Ts RX11 ρ sc L xs cA dC dI A meth ret) {j : Nat} (hj : j < ln Z) (hd : decode cc pc = .ok (.getfield 136, 3)) (kk : xV p l e R s m args below meth c cells slots Q ρ cA dC dI A (lwWs σ θ cA Z ++ F) nL (pc + 3) lv (.int (Z 5 j 7) :: st) X) : xV p l e R s m args below meth c cells slots Q ρ cA dC dI A (lwWs σ θ cA Z ++ F) nL pc lv (.ref (σ 5 j) :: st) X := by
  obtain ⟨q0, -, he⟩ := lw_at (σ := σ) (θ := θ) (cA := cA) (Z := Z) (K := 5) (j := j) (lwK_mem.mpr (Or.inr (Or.inl ⟨rfl, hj⟩))) F
  exact x_getN C (N := 8) (k := 5) (T := TX10) (Cn := RX10) (ref := "BootSlotsLaw$Place") (host := "BootSlotsLaw") (fs := (lwF5 θ Z j)) he rfl bsin_X10 (by decide) (by decide +kernel) rfl rfl hd kk
theorem xp_X11_136 (C : xCx p m c cc nL s args Ts RX11 ρ sc L xs cA dC dI A meth ret) {j : Nat} (hj : j < ln Z) {x : Int32} (hd : decode cc pc = .ok (.putfield 136, 3)) (kk : xV p l e R s m args below meth c cells slots Q ρ cA dC dI A (lwWs σ θ cA (wr Z 5 j 7 x) ++ F) nL (pc + 3) lv st X) : xV p l e R s m args below meth c cells slots Q ρ cA dC dI A (lwWs σ θ cA Z ++ F) nL pc lv (.int x :: .ref (σ 5 j) :: st) X := by
  obtain ⟨q0, hq, he⟩ := lw_at (σ := σ) (θ := θ) (cA := cA) (Z := Z) (K := 5) (j := j) (lwK_mem.mpr (Or.inr (Or.inl ⟨rfl, hj⟩))) F
  refine x_putN C (N := 8) (k := 5) (T := TX10) (Cn := RX10) (ref := "BootSlotsLaw$Place") (host := "BootSlotsLaw") (fs := (lwF5 θ Z j)) (ty := .int) he rfl bsin_X10 tyX10 tyX10_ok nmX10 (by decide) (by decide +kernel) rfl rfl rfl rfl rfl (Nat.le_of_ble_eq_true rfl) (lw_set F hq ?_ ?_ ?_ (fun a b hm hne => lw_oth (K := 5) (j := j) (Or.inr (Or.inr (Or.inr (Or.inl ⟨rfl, rfl, rfl⟩)))) (fun h => absurd h (by decide)) hm hne)) hd kk
  · unfold ln; rw [wr_no (by omega)]
  · unfold lm; rw [wr_no (by omega)]
  · simp [lwC, wr]
theorem xg_X11_139 (C : xCx p m c cc nL s args Ts RX11 ρ sc L xs cA dC dI A meth ret) {j : Nat} (hj : j < ln Z) (hd : decode cc pc = .ok (.getfield 139, 3)) (kk : xV p l e R s m args below meth c cells slots Q ρ cA dC dI A (lwWs σ θ cA Z ++ F) nL (pc + 3) lv (.int (Z 5 j 6) :: st) X) : xV p l e R s m args below meth c cells slots Q ρ cA dC dI A (lwWs σ θ cA Z ++ F) nL pc lv (.ref (σ 5 j) :: st) X := by
  obtain ⟨q0, -, he⟩ := lw_at (σ := σ) (θ := θ) (cA := cA) (Z := Z) (K := 5) (j := j) (lwK_mem.mpr (Or.inr (Or.inl ⟨rfl, hj⟩))) F
  exact x_getN C (N := 8) (k := 4) (T := TX10) (Cn := RX10) (ref := "BootSlotsLaw$Place") (host := "BootSlotsLaw") (fs := (lwF5 θ Z j)) he rfl bsin_X10 (by decide) (by decide +kernel) rfl rfl hd kk
theorem xp_X11_139 (C : xCx p m c cc nL s args Ts RX11 ρ sc L xs cA dC dI A meth ret) {j : Nat} (hj : j < ln Z) {x : Int32} (hd : decode cc pc = .ok (.putfield 139, 3)) (kk : xV p l e R s m args below meth c cells slots Q ρ cA dC dI A (lwWs σ θ cA (wr Z 5 j 6 x) ++ F) nL (pc + 3) lv st X) : xV p l e R s m args below meth c cells slots Q ρ cA dC dI A (lwWs σ θ cA Z ++ F) nL pc lv (.int x :: .ref (σ 5 j) :: st) X := by
  obtain ⟨q0, hq, he⟩ := lw_at (σ := σ) (θ := θ) (cA := cA) (Z := Z) (K := 5) (j := j) (lwK_mem.mpr (Or.inr (Or.inl ⟨rfl, hj⟩))) F
  refine x_putN C (N := 8) (k := 4) (T := TX10) (Cn := RX10) (ref := "BootSlotsLaw$Place") (host := "BootSlotsLaw") (fs := (lwF5 θ Z j)) (ty := .int) he rfl bsin_X10 tyX10 tyX10_ok nmX10 (by decide) (by decide +kernel) rfl rfl rfl rfl rfl (Nat.le_of_ble_eq_true rfl) (lw_set F hq ?_ ?_ ?_ (fun a b hm hne => lw_oth (K := 5) (j := j) (Or.inr (Or.inr (Or.inr (Or.inl ⟨rfl, rfl, rfl⟩)))) (fun h => absurd h (by decide)) hm hne)) hd kk
  · unfold ln; rw [wr_no (by omega)]
  · unfold lm; rw [wr_no (by omega)]
  · simp [lwC, wr]
theorem xg_X11_156 (C : xCx p m c cc nL s args Ts RX11 ρ sc L xs cA dC dI A meth ret) {j : Nat} (hj : j < ln Z) (hd : decode cc pc = .ok (.getfield 156, 3)) (kk : xV p l e R s m args below meth c cells slots Q ρ cA dC dI A (lwWs σ θ cA Z ++ F) nL (pc + 3) lv (.int (Z 5 j 5) :: st) X) : xV p l e R s m args below meth c cells slots Q ρ cA dC dI A (lwWs σ θ cA Z ++ F) nL pc lv (.ref (σ 5 j) :: st) X := by
  obtain ⟨q0, -, he⟩ := lw_at (σ := σ) (θ := θ) (cA := cA) (Z := Z) (K := 5) (j := j) (lwK_mem.mpr (Or.inr (Or.inl ⟨rfl, hj⟩))) F
  exact x_getN C (N := 8) (k := 3) (T := TX10) (Cn := RX10) (ref := "BootSlotsLaw$Place") (host := "BootSlotsLaw") (fs := (lwF5 θ Z j)) he rfl bsin_X10 (by decide) (by decide +kernel) rfl rfl hd kk
theorem xp_X11_156 (C : xCx p m c cc nL s args Ts RX11 ρ sc L xs cA dC dI A meth ret) {j : Nat} (hj : j < ln Z) {x : Int32} (hd : decode cc pc = .ok (.putfield 156, 3)) (kk : xV p l e R s m args below meth c cells slots Q ρ cA dC dI A (lwWs σ θ cA (wr Z 5 j 5 x) ++ F) nL (pc + 3) lv st X) : xV p l e R s m args below meth c cells slots Q ρ cA dC dI A (lwWs σ θ cA Z ++ F) nL pc lv (.int x :: .ref (σ 5 j) :: st) X := by
  obtain ⟨q0, hq, he⟩ := lw_at (σ := σ) (θ := θ) (cA := cA) (Z := Z) (K := 5) (j := j) (lwK_mem.mpr (Or.inr (Or.inl ⟨rfl, hj⟩))) F
  refine x_putN C (N := 8) (k := 3) (T := TX10) (Cn := RX10) (ref := "BootSlotsLaw$Place") (host := "BootSlotsLaw") (fs := (lwF5 θ Z j)) (ty := .int) he rfl bsin_X10 tyX10 tyX10_ok nmX10 (by decide) (by decide +kernel) rfl rfl rfl rfl rfl (Nat.le_of_ble_eq_true rfl) (lw_set F hq ?_ ?_ ?_ (fun a b hm hne => lw_oth (K := 5) (j := j) (Or.inr (Or.inr (Or.inr (Or.inl ⟨rfl, rfl, rfl⟩)))) (fun h => absurd h (by decide)) hm hne)) hd kk
  · unfold ln; rw [wr_no (by omega)]
  · unfold lm; rw [wr_no (by omega)]
  · simp [lwC, wr]
theorem xg_X11_162 (C : xCx p m c cc nL s args Ts RX11 ρ sc L xs cA dC dI A meth ret) {j : Nat} (hj : j < ln Z) (hd : decode cc pc = .ok (.getfield 162, 3)) (kk : xV p l e R s m args below meth c cells slots Q ρ cA dC dI A (lwWs σ θ cA Z ++ F) nL (pc + 3) lv (.int (Z 5 j 8) :: st) X) : xV p l e R s m args below meth c cells slots Q ρ cA dC dI A (lwWs σ θ cA Z ++ F) nL pc lv (.ref (σ 5 j) :: st) X := by
  obtain ⟨q0, -, he⟩ := lw_at (σ := σ) (θ := θ) (cA := cA) (Z := Z) (K := 5) (j := j) (lwK_mem.mpr (Or.inr (Or.inl ⟨rfl, hj⟩))) F
  exact x_getN C (N := 8) (k := 6) (T := TX10) (Cn := RX10) (ref := "BootSlotsLaw$Place") (host := "BootSlotsLaw") (fs := (lwF5 θ Z j)) he rfl bsin_X10 (by decide) (by decide +kernel) rfl rfl hd kk
theorem xp_X11_162 (C : xCx p m c cc nL s args Ts RX11 ρ sc L xs cA dC dI A meth ret) {j : Nat} (hj : j < ln Z) {x : Int32} (hd : decode cc pc = .ok (.putfield 162, 3)) (kk : xV p l e R s m args below meth c cells slots Q ρ cA dC dI A (lwWs σ θ cA (wr Z 5 j 8 x) ++ F) nL (pc + 3) lv st X) : xV p l e R s m args below meth c cells slots Q ρ cA dC dI A (lwWs σ θ cA Z ++ F) nL pc lv (.int x :: .ref (σ 5 j) :: st) X := by
  obtain ⟨q0, hq, he⟩ := lw_at (σ := σ) (θ := θ) (cA := cA) (Z := Z) (K := 5) (j := j) (lwK_mem.mpr (Or.inr (Or.inl ⟨rfl, hj⟩))) F
  refine x_putN C (N := 8) (k := 6) (T := TX10) (Cn := RX10) (ref := "BootSlotsLaw$Place") (host := "BootSlotsLaw") (fs := (lwF5 θ Z j)) (ty := .int) he rfl bsin_X10 tyX10 tyX10_ok nmX10 (by decide) (by decide +kernel) rfl rfl rfl rfl rfl (Nat.le_of_ble_eq_true rfl) (lw_set F hq ?_ ?_ ?_ (fun a b hm hne => lw_oth (K := 5) (j := j) (Or.inr (Or.inr (Or.inr (Or.inl ⟨rfl, rfl, rfl⟩)))) (fun h => absurd h (by decide)) hm hne)) hd kk
  · unfold ln; rw [wr_no (by omega)]
  · unfold lm; rw [wr_no (by omega)]
  · simp [lwC, wr]
theorem xl_cnt (C : xCx p m c cc nL s args Ts own ρ sc L xs cA dC dI A meth ret) {i : Int32} (hin : bsIn i 20) (hd : decode cc pc = .ok (.iaload, 1)) (kk : xV p l e R s m args below meth c cells slots Q ρ cA dC dI A (lwWs σ θ cA Z ++ F) nL (pc + 1) lv (.int (Z 11 0 (bsIx i)) :: st) X) : xV p l e R s m args below meth c cells slots Q ρ cA dC dI A (lwWs σ θ cA Z ++ F) nL pc lv (.int i :: .ref (σ 1 0) :: st) X := by
  obtain ⟨q0, -, he⟩ := lw_at (σ := σ) (θ := θ) (cA := cA) (Z := Z) (K := 1) (j := 0) (lwK_mem.mpr (Or.inl ⟨by decide, rfl⟩)) F
  exact x_iald C he hin hd kk
theorem xs_cnt (C : xCx p m c cc nL s args Ts own ρ sc L xs cA dC dI A meth ret) {i x : Int32} (hin : bsIn i 20) (hd : decode cc pc = .ok (.iastore, 1)) (kk : xV p l e R s m args below meth c cells slots Q ρ cA dC dI A (lwWs σ θ cA (wr Z 11 0 (bsIx i) x) ++ F) nL (pc + 1) lv st X) : xV p l e R s m args below meth c cells slots Q ρ cA dC dI A (lwWs σ θ cA Z ++ F) nL pc lv (.int x :: .int i :: .ref (σ 1 0) :: st) X := by
  obtain ⟨q0, hq, he⟩ := lw_at (σ := σ) (θ := θ) (cA := cA) (Z := Z) (K := 1) (j := 0) (lwK_mem.mpr (Or.inl ⟨by decide, rfl⟩)) F
  refine x_iast C he hin (lw_set F hq ?_ ?_ ?_ (fun a b hm hne => lw_oth (K := 1) (j := 0) (Or.inr (Or.inl ⟨rfl, rfl, rfl⟩)) (fun _ => rfl) hm hne)) hd kk
  · unfold ln; rw [wr_no (by omega)]
  · unfold lm; rw [wr_no (by omega)]
  · simp only [lwC]; rw [wr_arr Z 11 0 (bsIx i) x]
theorem xl_com (C : xCx p m c cc nL s args Ts own ρ sc L xs cA dC dI A meth ret) {i : Int32} (hin : bsIn i 5) (hd : decode cc pc = .ok (.iaload, 1)) (kk : xV p l e R s m args below meth c cells slots Q ρ cA dC dI A (lwWs σ θ cA Z ++ F) nL (pc + 1) lv (.int (Z 13 0 (bsIx i + 1)) :: st) X) : xV p l e R s m args below meth c cells slots Q ρ cA dC dI A (lwWs σ θ cA Z ++ F) nL pc lv (.int i :: .ref (σ 4 0) :: st) X := by
  obtain ⟨q0, -, he⟩ := lw_at (σ := σ) (θ := θ) (cA := cA) (Z := Z) (K := 4) (j := 0) (lwK_mem.mpr (Or.inl ⟨by decide, rfl⟩)) F
  exact x_iald C he hin hd kk
theorem xs_com (C : xCx p m c cc nL s args Ts own ρ sc L xs cA dC dI A meth ret) {i x : Int32} (hin : bsIn i 5) (hd : decode cc pc = .ok (.iastore, 1)) (kk : xV p l e R s m args below meth c cells slots Q ρ cA dC dI A (lwWs σ θ cA (wr Z 13 0 (bsIx i + 1) x) ++ F) nL (pc + 1) lv st X) : xV p l e R s m args below meth c cells slots Q ρ cA dC dI A (lwWs σ θ cA Z ++ F) nL pc lv (.int x :: .int i :: .ref (σ 4 0) :: st) X := by
  obtain ⟨q0, hq, he⟩ := lw_at (σ := σ) (θ := θ) (cA := cA) (Z := Z) (K := 4) (j := 0) (lwK_mem.mpr (Or.inl ⟨by decide, rfl⟩)) F
  refine x_iast C he hin (lw_set F hq ?_ ?_ ?_ (fun a b hm hne => lw_oth (K := 4) (j := 0) (Or.inr (Or.inr (Or.inl ⟨rfl, rfl, rfl⟩))) (fun _ => rfl) hm hne)) hd kk
  · unfold ln; rw [wr_no (by omega)]
  · unfold lm; rw [wr_no (by omega)]
  · simp only [lwC]; rw [wr_arr1 Z 13 0 (bsIx i) x]
theorem xl_img (C : xCx p m c cc nL s args Ts own ρ sc L xs cA dC dI A meth ret) {j : Nat} (hj : j < ln Z) {i : Int32} (hin : bsIn i 5) (hd : decode cc pc = .ok (.iaload, 1)) (kk : xV p l e R s m args below meth c cells slots Q ρ cA dC dI A (lwWs σ θ cA Z ++ F) nL (pc + 1) lv (.int (Z 6 j (bsIx i + 1)) :: st) X) : xV p l e R s m args below meth c cells slots Q ρ cA dC dI A (lwWs σ θ cA Z ++ F) nL pc lv (.int i :: .ref (θ 6 j) :: st) X := by
  obtain ⟨q0, -, he⟩ := lw_at (σ := σ) (θ := θ) (cA := cA) (Z := Z) (K := 6) (j := j) (lwK_mem.mpr (Or.inr (Or.inr (Or.inl ⟨rfl, hj⟩)))) F
  exact x_iald C he hin hd kk
theorem xs_img (C : xCx p m c cc nL s args Ts own ρ sc L xs cA dC dI A meth ret) {j : Nat} (hj : j < ln Z) {i x : Int32} (hin : bsIn i 5) (hd : decode cc pc = .ok (.iastore, 1)) (kk : xV p l e R s m args below meth c cells slots Q ρ cA dC dI A (lwWs σ θ cA (wr Z 6 j (bsIx i + 1) x) ++ F) nL (pc + 1) lv st X) : xV p l e R s m args below meth c cells slots Q ρ cA dC dI A (lwWs σ θ cA Z ++ F) nL pc lv (.int x :: .int i :: .ref (θ 6 j) :: st) X := by
  obtain ⟨q0, hq, he⟩ := lw_at (σ := σ) (θ := θ) (cA := cA) (Z := Z) (K := 6) (j := j) (lwK_mem.mpr (Or.inr (Or.inr (Or.inl ⟨rfl, hj⟩)))) F
  refine x_iast C he hin (lw_set F hq ?_ ?_ ?_ (fun a b hm hne => lw_oth (K := 6) (j := j) (Or.inr (Or.inr (Or.inr (Or.inr ⟨rfl, rfl, rfl⟩)))) (fun h => absurd h (by decide)) hm hne)) hd kk
  · unfold ln; rw [wr_no (by omega)]
  · unfold lm; rw [wr_no (by omega)]
  · simp only [lwC]; rw [wr_arr1 Z 6 j (bsIx i) x]
theorem xl_row (C : xCx p m c cc nL s args Ts own ρ sc L xs cA dC dI A meth ret) {j : Nat} (hj : j < lm Z) {i : Int32} (hin : bsIn i 4) (hd : decode cc pc = .ok (.iaload, 1)) (kk : xV p l e R s m args below meth c cells slots Q ρ cA dC dI A (lwWs σ θ cA Z ++ F) nL (pc + 1) lv (.int (Z 12 j (bsIx i)) :: st) X) : xV p l e R s m args below meth c cells slots Q ρ cA dC dI A (lwWs σ θ cA Z ++ F) nL pc lv (.int i :: .ref (θ 7 j) :: st) X := by
  obtain ⟨q0, -, he⟩ := lw_at (σ := σ) (θ := θ) (cA := cA) (Z := Z) (K := 7) (j := j) (lwK_mem.mpr (Or.inr (Or.inr (Or.inr ⟨rfl, hj⟩)))) F
  exact x_iald C he hin hd kk
theorem xn_plc (C : xCx p m c cc nL s args Ts own ρ sc L xs cA dC dI A meth ret) (hd : decode cc pc = .ok (.arraylength, 1)) (kk : xV p l e R s m args below meth c cells slots Q ρ cA dC dI A (lwWs σ θ cA Z ++ F) nL (pc + 1) lv (.int (nI (ln Z)) :: st) X) : xV p l e R s m args below meth c cells slots Q ρ cA dC dI A (lwWs σ θ cA Z ++ F) nL pc lv (.ref (σ 2 0) :: st) X := by
  obtain ⟨q0, -, he⟩ := lw_at (σ := σ) (θ := θ) (cA := cA) (Z := Z) (lwK_mem.mpr (Or.inl ⟨by decide, rfl⟩) : (2, 0) ∈ lwK (ln Z) (lm Z)) F
  exact x_alen C (t0 := 7) he rfl rfl hd kk
theorem xn_bts (C : xCx p m c cc nL s args Ts own ρ sc L xs cA dC dI A meth ret) (hd : decode cc pc = .ok (.arraylength, 1)) (kk : xV p l e R s m args below meth c cells slots Q ρ cA dC dI A (lwWs σ θ cA Z ++ F) nL (pc + 1) lv (.int (nI (lm Z)) :: st) X) : xV p l e R s m args below meth c cells slots Q ρ cA dC dI A (lwWs σ θ cA Z ++ F) nL pc lv (.ref (θ 3 0) :: st) X := by
  obtain ⟨q0, -, he⟩ := lw_at (σ := σ) (θ := θ) (cA := cA) (Z := Z) (lwK_mem.mpr (Or.inl ⟨by decide, rfl⟩) : (3, 0) ∈ lwK (ln Z) (lm Z)) F
  exact x_alen C (t0 := 8) he rfl rfl hd kk
theorem xa_plc (C : xCx p m c cc nL s args Ts own ρ sc L xs cA dC dI A meth ret) {i : Int32} (hin : bsIn i (ln Z)) (hd : decode cc pc = .ok (.aaload, 1)) (kk : xV p l e R s m args below meth c cells slots Q ρ cA dC dI A (lwWs σ θ cA Z ++ F) nL (pc + 1) lv (.ref (σ 5 (bsIx i)) :: st) X) : xV p l e R s m args below meth c cells slots Q ρ cA dC dI A (lwWs σ θ cA Z ++ F) nL pc lv (.int i :: .ref (σ 2 0) :: st) X := by
  obtain ⟨q0, -, he⟩ := lw_at (σ := σ) (θ := θ) (cA := cA) (Z := Z) (lwK_mem.mpr (Or.inl ⟨by decide, rfl⟩) : (2, 0) ∈ lwK (ln Z) (lm Z)) F
  exact x_aald C (t0 := 7) he rfl rfl hin rfl hd kk
theorem xa_bts (C : xCx p m c cc nL s args Ts own ρ sc L xs cA dC dI A meth ret) {i : Int32} (hin : bsIn i (lm Z)) (hd : decode cc pc = .ok (.aaload, 1)) (kk : xV p l e R s m args below meth c cells slots Q ρ cA dC dI A (lwWs σ θ cA Z ++ F) nL (pc + 1) lv (.ref (θ 7 (bsIx i)) :: st) X) : xV p l e R s m args below meth c cells slots Q ρ cA dC dI A (lwWs σ θ cA Z ++ F) nL pc lv (.int i :: .ref (θ 3 0) :: st) X := by
  obtain ⟨q0, -, he⟩ := lw_at (σ := σ) (θ := θ) (cA := cA) (Z := Z) (lwK_mem.mpr (Or.inl ⟨by decide, rfl⟩) : (3, 0) ∈ lwK (ln Z) (lm Z)) F
  exact x_aald C (t0 := 8) he rfl rfl hin rfl hd kk
theorem xr_plc (σ θ : xA2) (cA : Nat → ClassId) (F : va_W) {j : Nat} (hj : j < ln Z) : ∃ q0 : Nat, (lwWs σ θ cA Z ++ F)[q0]? = some (σ 5 j, .inr (12, lwF5 θ Z j)) := by
  obtain ⟨q0, -, he⟩ := lw_at (σ := σ) (θ := θ) (cA := cA) (Z := Z) (lwK_mem.mpr (Or.inr (Or.inl ⟨rfl, hj⟩)) : (5, j) ∈ lwK (ln Z) (lm Z)) F
  exact ⟨q0, he⟩
theorem xr_wor (σ θ : xA2) (cA : Nat → ClassId) (Z : pY) (F : va_W) : ∃ q0 : Nat, (lwWs σ θ cA Z ++ F)[q0]? = some (σ 0 0, .inr (13, lwF0 σ θ Z)) := by
  obtain ⟨q0, -, he⟩ := lw_at (σ := σ) (θ := θ) (cA := cA) (Z := Z) (lwK_mem.mpr (Or.inl ⟨by decide, rfl⟩) : (0, 0) ∈ lwK (ln Z) (lm Z)) F
  exact ⟨q0, he⟩
theorem xt_at (B T : va_W) (k : Nat) : (B ++ T)[B.length + k]? = T[k]? := by
  rw [List.getElem?_append_right (by omega), Nat.add_sub_cancel_left]
theorem xt_set (B T : va_W) (k : Nat) (x : Nat × va_E) : (B ++ T).set (B.length + k) x = B ++ T.set k x := by
  rw [List.set_append, if_neg (by omega), Nat.add_sub_cancel_left]
theorem xt_ld (C : xCx p m c cc nL s args Ts own ρ sc L xs cA dC dI A meth ret) {B T T' : va_W} (k0 : Nat) {a n : Nat} {f : Nat → Int32} {i : Int32} (he : T[k0]? = some (a, .inl (cA 0, n, .inl f))) (hin : bsIn i n) (hd : decode cc pc = .ok (.iaload, 1)) (kk : xV p l e R s m args below meth c cells slots Q ρ cA dC dI A (B ++ T) nL (pc + 1) lv (.int (f (bsIx i)) :: st) X) : xV p l e R s m args below meth c cells slots Q ρ cA dC dI A (B ++ T) nL pc lv (.int i :: .ref a :: st) X := x_iald C ((xt_at B T k0).trans he) hin hd kk
theorem xt_st (C : xCx p m c cc nL s args Ts own ρ sc L xs cA dC dI A meth ret) {B T T' : va_W} (k0 : Nat) {a n : Nat} {f : Nat → Int32} {i x : Int32} (he : T[k0]? = some (a, .inl (cA 0, n, .inl f))) (hin : bsIn i n) (hT : T.set k0 (a, .inl (cA 0, n, .inl (upd f (bsIx i) x))) = T') (hd : decode cc pc = .ok (.iastore, 1)) (kk : xV p l e R s m args below meth c cells slots Q ρ cA dC dI A (B ++ T') nL (pc + 1) lv st X) : xV p l e R s m args below meth c cells slots Q ρ cA dC dI A (B ++ T) nL pc lv (.int x :: .int i :: .ref a :: st) X := x_iast C ((xt_at B T k0).trans he) hin (by rw [xt_set, hT]) hd kk
theorem xt_newi (C : xCx p m c cc nL s args Ts own ρ sc L xs cA dC dI A meth ret) {B T : va_W} {n : Int32} {N : Nat} (hn : ¬ n < 0) (hN : n.toNatClampNeg = N) (hby : N ≤ 100000) (hR : cells + 1 ≤ R.cells ∧ slots + N ≤ R.slots) (hd : decode cc pc = .ok (.newarray .int, 2)) (kk : ∀ q : Nat, xV p l e R s m args below meth c (cells + 1) (slots + N) Q ρ cA dC dI A (B ++ (T ++ [(q, .inl (cA 0, N, .inl (fun _ => (0 : Int32))))])) nL (pc + 2) lv (.ref q :: st) X) : xV p l e R s m args below meth c cells slots Q ρ cA dC dI A (B ++ T) nL pc lv (.int n :: st) X := x_newi C hn hN hby hR hd (fun q => x_eq (by rw [List.append_assoc]) (kk q))
theorem xt_drop {B T T' : va_W} (h : List.Sublist T' T) (kk : xV p l e R s m args below meth c cells slots Q ρ cA dC dI A (B ++ T') nL pc lv st X) : xV p l e R s m args below meth c cells slots Q ρ cA dC dI A (B ++ T) nL pc lv st X := x_subl (h.append_left B) kk
theorem xt_len (C : xCx p m c cc nL s args Ts own ρ sc L xs cA dC dI A meth ret) {B T : va_W} (k0 : Nat) {a n : Nat} {x : vp_A} {v : Int32} (he : T[k0]? = some (a, .inl (cA 0, x))) (hv : nI x.1 = v) (hd : decode cc pc = .ok (.arraylength, 1)) (kk : xV p l e R s m args below meth c cells slots Q ρ cA dC dI A (B ++ T) nL (pc + 1) lv (.int v :: st) X) : xV p l e R s m args below meth c cells slots Q ρ cA dC dI A (B ++ T) nL pc lv (.ref a :: st) X := x_alen C (t0 := 0) ((xt_at B T k0).trans he) rfl hv hd kk
end XF
