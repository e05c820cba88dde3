/-! WORLD(DRAWS) -/
def wσ (w cn pl co tb : Nat) (pa : Nat → Nat) : xA2 := fun K j => match K with | 0 => w | 1 => cn | 2 => pl | 4 => co | 5 => pa j | 9 => tb | _ => 0
def wθ (bt : Nat) (ia : Nat → Nat) : xA2 := fun K j => match K with | 3 => bt | 6 => ia j | _ => 0
theorem wZ0_ln {w l f o n : Nat} (h : n ≤ 6) : ln (wZ0 w l f o n) = n := by
  unfold ln wZ0
  exact pu_ix n (by omega)
theorem wZ0_lm {w l f o n : Nat} : lm (wZ0 w l f o n) = 0 := rfl
theorem w_like {cA : Nat → ClassId} {δ w cn co bt pl tb sv sk n sc D1 wv lv fv ov nE : Nat} {pa ia : Nat → Nat} {sa : Nat → Int32} {sm : Int32} (h6 : n ≤ 6) :
    ∀ q ∈ lwWs (wσ w cn pl co tb pa) (wθ bt ia) cA (wZ0 wv lv fv ov n) ++ ([] ++ [(δ, dCell sc D1), (tb, sbC sv sm (nI nE)), (sv, byC cA sk sa)]), ∃ z, (q.1, z) ∈ (([(δ, dCell sc D1), (w, .inr (13, [.ref tb, .int (nI wv), .int (nI lv), .int (nI fv), .int (nI ov), .int 0, .int 0, .int (-1), .int 0, .ref cn, .ref pl, .int (-1), .int 0, .ref co, .ref bt])), (cn, .inl (cA 0, 20, .inl (fun _ => (0 : Int32)))), (co, .inl (cA 0, 5, .inl (fun _ => (0 : Int32)))), (bt, .inl (cA 8, 0, .inr (.inr (.inr (.inr (fun _ => none)))))), (pl, .inl (cA 7, n, .inr (.inr (.inr (.inr (fun j => if j < n then some (pa j) else none))))))] ++ wPL cA n pa ia) ++ [(tb, sbC sv sm (nI nE)), (sv, byC cA sk sa)] : va_W) ∧ likeE z q.2 := by
  intro q hq
  rcases List.mem_append.mp hq with hq | hq
  · obtain ⟨⟨K, j⟩, hk, rfl⟩ := List.mem_map.mp hq
    rw [wZ0_ln h6, wZ0_lm] at hk
    rcases lwK_mem.mp hk with ⟨h1, rfl⟩ | ⟨rfl, h⟩ | ⟨rfl, h⟩ | ⟨rfl, h⟩
    · have : K = 0 ∨ K = 1 ∨ K = 2 ∨ K = 3 ∨ K = 4 := by omega
      rcases this with rfl | rfl | rfl | rfl | rfl
      · exact ⟨_, List.mem_append_left _ (List.mem_append_left _ (List.mem_cons_of_mem _ (List.mem_cons_self ..))), Or.inl rfl⟩
      · refine ⟨_, List.mem_append_left _ (List.mem_append_left _ (List.mem_cons_of_mem _ (List.mem_cons_of_mem _ (List.mem_cons_self ..)))), Or.inr ⟨cA 0, _, _, rfl, rfl, ?_⟩⟩
        exact cell_I (fun i _ => rfl)
      · refine ⟨_, List.mem_append_left _ (List.mem_append_left _ (List.mem_cons_of_mem _ (List.mem_cons_of_mem _ (List.mem_cons_of_mem _ (List.mem_cons_of_mem _ (List.mem_cons_of_mem _ (List.mem_cons_self ..))))))), Or.inr ⟨cA 7, _, _, rfl, rfl, ?_⟩⟩
        rw [wZ0_ln h6]
        exact cell_R (fun i hi => if_pos hi)
      · refine ⟨_, List.mem_append_left _ (List.mem_append_left _ (List.mem_cons_of_mem _ (List.mem_cons_of_mem _ (List.mem_cons_of_mem _ (List.mem_cons_of_mem _ (List.mem_cons_self ..)))))), Or.inr ⟨cA 8, _, _, rfl, rfl, ?_⟩⟩
        rw [wZ0_lm]
        exact cell_R (fun i hi => absurd hi (Nat.not_lt_zero i))
      · refine ⟨_, List.mem_append_left _ (List.mem_append_left _ (List.mem_cons_of_mem _ (List.mem_cons_of_mem _ (List.mem_cons_of_mem _ (List.mem_cons_self ..))))), Or.inr ⟨cA 0, _, _, rfl, rfl, ?_⟩⟩
        exact cell_I (fun i _ => rfl)
    · exact ⟨_, List.mem_append_left _ (List.mem_append_right _ (wPL_mem n h).1), Or.inl rfl⟩
    · refine ⟨_, List.mem_append_left _ (List.mem_append_right _ (wPL_mem n h).2), Or.inr ⟨cA 0, _, _, rfl, rfl, ?_⟩⟩
      refine cell_I (fun i hi => ?_)
      match i, hi with
      | 0, _ => rfl
      | 1, _ => rfl
      | 2, _ => rfl
      | 3, _ => rfl
      | 4, _ => rfl
    · exact absurd h (Nat.not_lt_zero j)
  · have hq : q ∈ ([(δ, dCell sc D1), (tb, sbC sv sm (nI nE)), (sv, byC cA sk sa)] : va_W) := hq
    rcases List.mem_cons.mp hq with rfl | hq
    · exact ⟨_, List.mem_append_left _ (List.mem_append_left _ (List.mem_cons_self ..)), Or.inl rfl⟩
    · exact ⟨q.2, List.mem_append_right _ hq, Or.inl rfl⟩
theorem w_nd {cA : Nat → ClassId} {δ w cn co bt pl tb sv sk n sc D1 wv lv fv ov nE : Nat} {pa ia : Nat → Nat} {sa : Nat → Int32} {sm : Int32} (h6 : n ≤ 6) :
    ((([(δ, dCell sc D1), (w, .inr (13, [.ref tb, .int (nI wv), .int (nI lv), .int (nI fv), .int (nI ov), .int 0, .int 0, .int (-1), .int 0, .ref cn, .ref pl, .int (-1), .int 0, .ref co, .ref bt])), (cn, .inl (cA 0, 20, .inl (fun _ => (0 : Int32)))), (co, .inl (cA 0, 5, .inl (fun _ => (0 : Int32)))), (bt, .inl (cA 8, 0, .inr (.inr (.inr (.inr (fun _ => none)))))), (pl, .inl (cA 7, n, .inr (.inr (.inr (.inr (fun j => if j < n then some (pa j) else none))))))] ++ wPL cA n pa ia) ++ [(tb, sbC sv sm (nI nE)), (sv, byC cA sk sa)] : va_W).map Prod.fst).Nodup → ((lwWs (wσ w cn pl co tb pa) (wθ bt ia) cA (wZ0 wv lv fv ov n) ++ ([] ++ [(δ, dCell sc D1), (tb, sbC sv sm (nI nE)), (sv, byC cA sk sa)])).map Prod.fst).Nodup := by
  intro hn
  have e1 : (lwWs (wσ w cn pl co tb pa) (wθ bt ia) cA (wZ0 wv lv fv ov n) ++ ([] ++ [(δ, dCell sc D1), (tb, sbC sv sm (nI nE)), (sv, byC cA sk sa)])).map Prod.fst = ([w, cn, pl, bt, co] ++ ((List.range n).map pa ++ (List.range n).map ia)) ++ [δ, tb, sv] := by
    unfold lwWs lwK
    rw [wZ0_ln h6, wZ0_lm]
    simp only [List.map_append, List.map_map, List.range_zero, List.map_nil, List.append_nil]
    rfl
  have e2 : (([(δ, dCell sc D1), (w, .inr (13, [.ref tb, .int (nI wv), .int (nI lv), .int (nI fv), .int (nI ov), .int 0, .int 0, .int (-1), .int 0, .ref cn, .ref pl, .int (-1), .int 0, .ref co, .ref bt])), (cn, .inl (cA 0, 20, .inl (fun _ => (0 : Int32)))), (co, .inl (cA 0, 5, .inl (fun _ => (0 : Int32)))), (bt, .inl (cA 8, 0, .inr (.inr (.inr (.inr (fun _ => none)))))), (pl, .inl (cA 7, n, .inr (.inr (.inr (.inr (fun j => if j < n then some (pa j) else none))))))] ++ wPL cA n pa ia) ++ [(tb, sbC sv sm (nI nE)), (sv, byC cA sk sa)] : va_W).map Prod.fst = ([δ, w, cn, co, bt, pl] ++ (wPL cA n pa ia).map Prod.fst) ++ [tb, sv] := by
    rw [List.map_append, List.map_append]
    rfl
  rw [e2] at hn
  rw [e1]
  refine (List.Perm.nodup_iff (List.perm_iff_count.mpr fun a => ?_)).mpr hn
  have hc := (wPL_perm (cA := cA) (pa := pa) (ia := ia) n).count_eq a
  simp only [List.count_append, List.count_cons, List.count_nil] at hc ⊢
  omega
set_option maxHeartbeats 4000000 in
set_option maxRecDepth 100000 in
theorem cX11_init_ok {l : Launch} {ρ : bsR} {sc L : Nat} {xs : Nat → Int32} {cA : Nat → ClassId} {dC : Nat → ClassId} {dI : Nat → Nat → Nat} {X : bsX} {δ w wv lv fv ov n : Nat} {z : (Int32 × bsX × pY × Nat × (Nat → Nat) × Nat)} (h6 : n ≤ 6) (w9 : wv < 100) (l9 : lv ≤ 9) (f9 : fv ≤ 7) (o9 : ov < 100)
    (ew : aWat xs L 0 = nI wv) (el : aLim xs L 0 = nI lv) (ef : aRet xs L 0 = nI fv) (eo : aFlo xs L 0 = nI ov) (en : dVal xs L (aDe xs L 0) 1 6 = nI n)
    (hf : hX11_init_233 xs L 8 (slT n (hdT (nI wv) (nI lv) (nI fv) (nI ov)) (hdN (nI wv) (nI lv) (nI fv) (nI ov))) (slN n (hdN (nI wv) (nI lv) (nI fv) (nI ov))) 0 X (wZ0 wv lv fv ov n) (aDe xs L 0 + 1) = some z) :
    xMvY l yX11_init cX11_init 4 none rmX11_init ρ sc L xs cA dC dI [.ref w, .ref δ] X [(δ, dCell sc 0), (w, (.inr (13, [.null, .int 0, .int 0, .int 0, .int 0, .int 0, .int 0, .int 0, .int 0, .null, .null, .int 0, .int 0, .null, .null])))] (fun X' R' => ∃ σ' : xA2, σ' 0 0 = w ∧ X' = z.2.1 ∧ ∃ (θ' : xA2) (v k : Nat) (a : Nat → Int32) (ml : Int32), sb_Lat z.2.2.2.2.1 z.2.2.2.2.2 a ∧ sb_Fit a ∧ z.2.2.2.2.2 ≤ k ∧ k ≤ 1026 ∧ R' = lwWs σ' θ' cA z.2.2.1 ++ ([] ++ [(δ, dCell sc z.2.2.2.1), (σ' 9 0, sbC v ml (nI z.2.2.2.2.2)), (v, byC cA k a)])) := by
  refine xMv_ofNY (by decide +kernel) rfl (Nat.le_of_ble_eq_true rfl) (fun p e s m args below meth c hin2 C => ?_)
  have C : xCx p m c cX11_init 4 s args (Cond.code yX11_init cX11_init 4 none :: bsG) RX11 ρ sc L xs cA dC dI (bsAY ρ cA [(δ, dCell sc 0), (w, (.inr (13, [.null, .int 0, .int 0, .int 0, .int 0, .int 0, .int 0, .int 0, .int 0, .null, .null, .int 0, .int 0, .null, .null])))] s.heap.size) meth none := C
  have hN19 : hdN (nI wv) (nI lv) (nI fv) (nI ov) ≤ 52 := by
    have a1 := (sb_dg_in (bsIx (nI wv))).2
    have a2 := (sb_dg_in (bsIx (nI lv))).2
    have a3 := (sb_dg_in (bsIx (nI fv))).2
    have a4 := (sb_dg_in (bsIx (nI ov))).2
    have s14 : stN 14 = 8 := rfl
    unfold hdN
    omega
  have hC : ∀ (cn co bt pl tb : Nat), ∀ (pa ia : Nat → Nat) (sv sk : Nat) (sa : Nat → Int32) (sm : Int32) (cl sl : Nat), cl ≤ 32 → sl ≤ 14545 → sb_Lat (slT n (hdT (nI wv) (nI lv) (nI fv) (nI ov)) (hdN (nI wv) (nI lv) (nI fv) (nI ov))) (slN n (hdN (nI wv) (nI lv) (nI fv) (nI ov))) sa → sb_Fit sa → (slN n (hdN (nI wv) (nI lv) (nI fv) (nI ov))) ≤ sk → sk ≤ 1026 → xVY p l e rmX11_init s m args below meth c cl sl (MQ below (xQvY ρ cA dC dI (bsAY ρ cA [(δ, dCell sc 0), (w, (.inr (13, [.null, .int 0, .int 0, .int 0, .int 0, .int 0, .int 0, .int 0, .int 0, .null, .null, .int 0, .int 0, .null, .null])))] s.heap.size) (fun X' R' => ∃ σ' : xA2, σ' 0 0 = w ∧ X' = z.2.1 ∧ ∃ (θ' : xA2) (v k : Nat) (a : Nat → Int32) (ml : Int32), sb_Lat z.2.2.2.2.1 z.2.2.2.2.2 a ∧ sb_Fit a ∧ z.2.2.2.2.2 ≤ k ∧ k ≤ 1026 ∧ R' = lwWs σ' θ' cA z.2.2.1 ++ ([] ++ [(δ, dCell sc z.2.2.2.1), (σ' 9 0, sbC v ml (nI z.2.2.2.2.2)), (v, byC cA k a)]))) args s rmX11_init.cells rmX11_init.slots (bsAY ρ cA [(δ, dCell sc 0), (w, (.inr (13, [.null, .int 0, .int 0, .int 0, .int 0, .int 0, .int 0, .int 0, .int 0, .null, .null, .int 0, .int 0, .null, .null])))] s.heap.size)) ρ cA dC dI (bsAY ρ cA [(δ, dCell sc 0), (w, (.inr (13, [.null, .int 0, .int 0, .int 0, .int 0, .int 0, .int 0, .int 0, .int 0, .null, .null, .int 0, .int 0, .null, .null])))] s.heap.size) (([(δ, dCell sc (aDe xs L 0 + 1)), (w, .inr (13, [.ref tb, .int (nI wv), .int (nI lv), .int (nI fv), .int (nI ov), .int 0, .int 0, .int (-1), .int 0, .ref cn, .ref pl, .int (-1), .int 0, .ref co, .ref bt])), (cn, .inl (cA 0, 20, .inl (fun _ => (0 : Int32)))), (co, .inl (cA 0, 5, .inl (fun _ => (0 : Int32)))), (bt, .inl (cA 8, 0, .inr (.inr (.inr (.inr (fun _ => none)))))), (pl, .inl (cA 7, n, .inr (.inr (.inr (.inr (fun j => if j < n then some (pa j) else none))))))] ++ wPL cA n pa ia) ++ [(tb, sbC sv sm (nI (slN n (hdN (nI wv) (nI lv) (nI fv) (nI ov))))), (sv, byC cA sk sa)]) 4 233 [(2, .int 0), (0, .ref w), (1, .ref δ)] [] X := by
    intro cn co bt pl tb pa ia sv sk sa sm cl sl hcl hsl hL hF hN hK
    refine x_likeY (w_like h6) (w_nd h6) ?_
    refine x_subY (lv' := [(0, .ref w), (1, .ref δ), (2, .int 0)]) [1, 2, 0] rfl ?_
    have h233 := qX11_init_233 (l := l) (e := e) (below := below) (δ := δ) (σ := wσ w cn pl co tb pa) (F := []) C 8 _ _ 0 X _ _ (wθ bt ia) sv sk sa sm cl sl hL hF hN hK (by omega) (by omega) hf
    rw [show wσ w cn pl co tb pa 0 0 = w from rfl, show wσ w cn pl co tb pa 9 0 = tb from rfl] at h233
    exact h233
  refine qX11_init_0 (D := 0) (n := n) C (by omega) h6 en (by rw [ew]; exact nn_nI (by omega)) (by rw [el]; exact nn_nI (by omega)) (by rw [ef]; exact nn_nI (by omega)) (by rw [eo]; exact nn_nI (by omega)) (by have := (sb_dg_in (bsIx (aWat xs L 0))).2; omega) (by have := (sb_dg_in (bsIx (aLim xs L 0))).2; omega) (by have := (sb_dg_in (bsIx (aRet xs L 0))).2; omega) (by have := (sb_dg_in (bsIx (aFlo xs L 0))).2; omega) (fun cn co bt pl tb sv sk sa sm hL0 hF0 hN0 hK0 => ?_)
  rw [ew, el, ef, eo] at hL0 hN0 ⊢
  have hB := qX11_init_193 (X := X) (δ := δ) (w := w) (cn := cn) (co := co) (bt := bt) (pl := pl) (tb := tb) (n := n) (D := aDe xs L 0 + 1) C h6 (hC cn co bt pl tb) n 0 (fun _ => 0) (fun _ => 0) (hdT (nI wv) (nI lv) (nI fv) (nI ov)) (hdN (nI wv) (nI lv) (nI fv) (nI ov)) sv sk sa sm 14 8311 (by omega) (by omega) (by omega) (by omega) (by omega) rfl rfl (by omega) hL0 hF0 hN0 hK0
  simp only [Nat.not_lt_zero, if_false] at hB
  exact hB
