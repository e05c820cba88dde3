/-! THE BOOTS THAT ARE KEPT -/
theorem enc_log {Y : pY} {T r w : Nat} (hT : Y 3 0 4 = nI T) (hT2 : T < 1000000) (hr : r < min T 12) (hw : w < 4) : enc Y (29 + 4 * r + w) = Y (7 + w) 0 ((T - min T 12 + r) % 12) := by
  have h1 : (29 + 4 * r + w - 29) / 4 = r := by omega
  have h2 : (29 + 4 * r + w - 29) % 4 = w := by omega
  unfold enc row
  rw [if_neg (by omega), if_neg (by omega), if_neg (by omega), if_neg (by omega), if_pos (by omega), h1, h2]
  unfold eL
  rw [hT, pu_ix T (by omega), if_pos hr]
theorem sim_boot_ok : sim_boot Inv := by
  intro j X a b hj h
  have c10 : ¬ (1 : Int32) = 0 := by decide
  have n10 : ¬ (1 : Nat) = 0 := by decide
  have n30 : ¬ (3 : Nat) = 0 := by decide
  have z64 : (0 : Int64) = (0 : Int32).toInt64 := by decide
  have t64 : (3 : Int64) = (3 : Int32).toInt64 := by decide
  have cm : (-1 : Int32) < 0 := by decide
  rcases h.req with ⟨e, e1, e2⟩ | ⟨e, e1, e2, n, t, Q, n1, hw, hR, ht, hQ⟩
  · exact ⟨(1, 0, X), (0, th X 1), by unfold fX8_boot; rw [e1]; rfl, Or.inr (Or.inl rfl), by unfold fX9_boot; rw [e2]; simp only [Option.bind_some, c10, if_false], th_rd X 1, fun q => absurd (show (1 : Nat) = 0 from q) n10, ((quiet.refl X).thr 1).inv h⟩
  · obtain ⟨T, _, hT, eT⟩ := hw.tot
    have hib : ∀ Z, fX9_in b.toInt64 (0 : Int64) (3 : Int64) Z = some (b2 (decide ((0 : Int32) ≤ b ∧ b ≤ 3)), Z) := by intro Z; rw [z64, t64, q9_in]
    rcases sw_out (v := b) (n := 3) (by decide) with ⟨o1, o2⟩ | ⟨w, hw3, rfl⟩
    · have o3 : ¬ ((0 : Int32) ≤ b ∧ b ≤ 3) := o2
      refine ⟨(3, 0, X), (0, th X 2), ?_, Or.inr (Or.inr rfl), ?_, th_rd X 2, fun q => absurd (show (3 : Nat) = 0 from q) n30, ((quiet.refl X).thr 2).inv h⟩
      · unfold fX8_boot; rw [e1]
        simp only [Option.bind_some, if_true, rw_within]
        rw [if_neg o3]; rfl
      · unfold fX9_boot fX9_boot_25; rw [e2]
        simp only [Option.bind_some, if_true, hib]
        rw [decide_eq_false o3]
        simp only [b2_f, if_true]
        rw [q9_refuse (by decide), if_neg c10]
        simp only [Option.bind_some, c10, if_false]
    · have hwi : (0 : Int32) ≤ nI w ∧ nI w ≤ 3 := ⟨(pu_le 0 w (by omega) (by decide)).mpr (Nat.zero_le _), (pu_le w 3 (by decide) (by omega)).mpr hw3⟩
      have hkept : fX0_kept 0 X = some (nI (min T 12), X) := by unfold fX0_kept; rw [eT, pu_min12 (by omega)]
      have r28 : th X 0 14 1 0 28 = nI (min T 12) := by
        rw [th_K _ _ (by decide), hR]
        show bsMin (X 0 3 0 4) 12 = _
        rw [eT, pu_min12 (by omega)]
      have hia : ∀ (x : Int32) Z, fX9_in a.toInt64 (0 : Int64) x.toInt64 Z = some (b2 (decide ((0 : Int32) ≤ a ∧ a ≤ x)), Z) := by intro x Z; rw [z64, q9_in]
      have ref : ∀ v, ((0 : Int32) ≤ a ∧ a ≤ nI (min T 12) - 1 → bsIn (29 + 4 * ((nI (min T 12) - 1) - a) + nI w) 160 ∧ enc (X 0) (bsIx (29 + 4 * ((nI (min T 12) - 1) - a) + nI w)) = v) → (¬ ((0 : Int32) ≤ a ∧ a ≤ nI (min T 12) - 1) → v = -2) → fX9_boot a (nI w) X = some (v, th X 0) := by
        intro v h1 h2
        unfold fX9_boot fX9_boot_25; rw [e2]
        simp only [Option.bind_some, if_true, hib]
        rw [decide_eq_true hwi]
        simp only [b2_t, c10, if_false]
        rw [q9_refuse (by decide), if_pos rfl]
        simp only [Option.bind_some, if_true, bi_28, bx_28, r28, hia]
        by_cases g : (0 : Int32) ≤ a ∧ a ≤ nI (min T 12) - 1
        · obtain ⟨k1, k2⟩ := h1 g
          rw [decide_eq_true g]
          simp only [b2_t, c10, if_false]
          rw [if_pos k1, th_K _ _ (by decide), hR, k2]
        · rw [decide_eq_false g, h2 g]
          simp only [b2_f, if_true]
      have out : fX0_rowOf 0 a X = some (-1, X) → ¬ ((0 : Int32) ≤ a ∧ a ≤ nI (min T 12) - 1) → ∃ (r : bsXr) (q : Int32 × bsX), fX8_boot a (nI w) X = some r ∧ (r.1 = 0 ∨ r.1 = 1 ∨ r.1 = 3) ∧ fX9_boot a (nI w) r.2.2 = some q ∧ q.2 14 0 0 0 = (if r.1 = 1 then (1 : Int32) else (if r.1 = 3 then (2 : Int32) else (0 : Int32))) ∧ (r.1 = 0 → r.2.1 = q.1) ∧ Inv (j + 1) q.2 := by
        intro k1 k2
        refine ⟨(0, -2, X), (-2, th X 0), ?_, Or.inl rfl, ref (-2) (fun g => absurd g k2) (fun _ => rfl), th_rd X 0, fun _ => rfl, ((quiet.refl X).thr 0).inv h⟩
        unfold fX8_boot; rw [e1]
        simp only [Option.bind_some, if_true, rw_within]
        rw [if_pos hwi]
        simp only [Option.bind_some, if_true, k1, cm]
      by_cases a0 : a < 0
      · refine out ?_ (fun q => absurd q.1 (pu_nle.mpr a0))
        unfold fX0_rowOf; rw [if_pos a0]
      · obtain ⟨m, hm, rfl⟩ := pu_of (pu_nlt.mp a0)
        by_cases hmK : m < min T 12
        · have hs1 : nI (min T 12) - (1 : Int32) = nI (min T 12 - 1) := by rw [show (1 : Int32) = nI 1 from rfl, pu_sub _ _ (by omega)]
          have hg : (0 : Int32) ≤ nI m ∧ nI m ≤ nI (min T 12) - 1 := by
            rw [hs1]; exact ⟨(pu_le 0 m (by omega) (by decide)).mpr (Nat.zero_le _), (pu_le m _ (by omega) (by omega)).mpr (by omega)⟩
          have hadr : (29 : Int32) + 4 * ((nI (min T 12) - 1) - nI m) + nI w = nI (29 + 4 * (min T 12 - 1 - m) + w) := by
            rw [hs1, pu_sub _ _ (by omega), show (4 : Int32) = nI 4 from rfl, pu_mul, show (29 : Int32) = nI 29 from rfl, pu_add, pu_add]
          have hrow : fX0_rowOf 0 (nI m) X = some (nI ((T - 1 - m) % 12), X) := by
            have hs2 : nI T - (1 : Int32) - nI m = nI (T - 1 - m) := by rw [show (1 : Int32) = nI 1 from rfl, pu_sub _ _ (by omega), pu_sub _ _ (by omega)]
            unfold fX0_rowOf
            rw [if_neg a0, hkept]
            simp only [Option.bind_some]
            rw [if_pos ((pu_lt m (min T 12) (by omega) (by omega)).mpr hmK), eT, hs2, pu_mod _ (by omega)]
          have b12 : bsIn (nI ((T - 1 - m) % 12)) 12 = True := pu_inT (by omega) (by decide)
          have x12 : bsIx (nI ((T - 1 - m) % 12)) = (T - 1 - m) % 12 := pu_ix _ (by omega)
          have l12 : (nI ((T - 1 - m) % 12) < (12 : Int32)) = True := eq_true ((pu_lt ((T - 1 - m) % 12) 12 (by decide) (by omega)).mpr (by omega))
          refine ⟨(0, X 0 (7 + w) 0 ((T - 1 - m) % 12), X), (X 0 (7 + w) 0 ((T - 1 - m) % 12), th X 0), ?_, Or.inl rfl, ref _ (fun _ => ?_) (fun q => absurd hg q), th_rd X 0, fun _ => rfl, ((quiet.refl X).thr 0).inv h⟩
          · unfold fX8_boot; rw [e1]
            simp only [Option.bind_some, if_true, rw_within]
            rw [if_pos hwi]
            simp only [Option.bind_some, if_true, hrow, pu_neg ((T - 1 - m) % 12) (by omega), if_false, l12, b12, x12]
            have : w = 0 ∨ w = 1 ∨ w = 2 ∨ w = 3 := by omega
            rcases this with rfl | rfl | rfl | rfl
            · rw [if_neg (by decide), if_pos (show nI 0 = (0 : Int32) from rfl)]
            · rw [if_neg (by decide), if_neg (by decide), if_pos (show nI 1 = (1 : Int32) from rfl)]
            · rw [if_neg (by decide), if_neg (by decide), if_neg (by decide), if_pos (show nI 2 = (2 : Int32) from rfl)]
            · rw [if_pos (by decide)]
          · rw [hadr]
            refine ⟨(pu_in _ 160 (by omega)).mpr (by omega), ?_⟩
            rw [pu_ix _ (by omega), enc_log eT (by omega) (by omega) (by omega)]
            congr 2
            omega
        · refine out ?_ ?_
          · unfold fX0_rowOf
            rw [if_neg a0, hkept]
            simp only [Option.bind_some]
            rw [if_neg (fun q => hmK ((pu_lt m (min T 12) (by omega) hm).mp q))]
          · intro q
            by_cases k0 : min T 12 = 0
            · rw [k0] at q
              have e0 : nI 0 - (1 : Int32) = -1 := by decide
              rw [e0] at q
              exact a0 (Int32.lt_of_le_of_lt q.2 cm)
            · have hs1 : nI (min T 12) - (1 : Int32) = nI (min T 12 - 1) := by rw [show (1 : Int32) = nI 1 from rfl, pu_sub _ _ (by omega)]
              rw [hs1] at q
              have := (pu_le m (min T 12 - 1) (by omega) hm).mp q.2
              omega
def sumN (p : Nat → Bool) : Nat → Nat → Nat
  | 0, _ => 0
  | d + 1, k => n2 (p k) + sumN p d (k + 1)
theorem sumN_rot (p : Nat → Bool) {b : Nat} (hb : b < 12) : sumN (fun r => p ((b + r) % 12)) 12 0 = sumN p 12 0 := by
  have : b = 0 ∨ b = 1 ∨ b = 2 ∨ b = 3 ∨ b = 4 ∨ b = 5 ∨ b = 6 ∨ b = 7 ∨ b = 8 ∨ b = 9 ∨ b = 10 ∨ b = 11 := by omega
  rcases this with rfl | rfl | rfl | rfl | rfl | rfl | rfl | rfl | rfl | rfl | rfl | rfl <;> simp only [sumN, Nat.zero_add, Nat.reduceAdd, Nat.reduceMod] <;> omega
theorem sumN_congr {p q : Nat → Bool} : ∀ d k, (∀ i, i < k + d → p i = q i) → sumN p d k = sumN q d k := by
  intro d
  induction d with
  | zero => intro k h; rfl
  | succ d ih =>
    intro k h
    unfold sumN
    rw [h k (by omega), ih (k + 1) (fun i hi => h i (by omega))]
theorem sim_bootsOf_ok : sim_bootsOf Inv := by
  intro j X a hj h
  have c10 : ¬ (1 : Int32) = 0 := by decide
  refine tell1 (s := a) h ?_ ?_ ?_
  · intro e he q; unfold fX8_bootsOf; rw [q]; simp only [Option.bind_some, he, if_false]
  · intro v q; unfold fX9_bootsOf; rw [q]; simp only [Option.bind_some, c10, if_false]
  · intro s n t Q hs e1 e2 hs0 hs6 hw hth ht hQ
    subst hs
    obtain ⟨T, _, hT, eT⟩ := hw.tot
    have hkept : fX0_kept 0 X = some (nI (min T 12), X) := by unfold fX0_kept; rw [eT, pu_min12 (by omega)]
    have r28 : ro (th X 0) (enc (X 0)) 14 1 0 28 = nI (min T 12) := by
      rw [ro_rd]
      show bsMin (X 0 3 0 4) 12 = _
      rw [eT, pu_min12 (by omega)]
    have hz : ∀ k c : Nat, nI c + b2 (decide (X 0 10 0 k = nI s)) = nI (c + n2 (decide (X 0 10 0 k = nI s))) := by
      intro k c
      cases decide (X 0 10 0 k = nI s)
      · exact pu_add c 0
      · exact pu_add c 1
    have hc : ∀ d k f c, k + d = min T 12 → d < f → fX8_bootsOf_9 f (nI s) (nI c) (nI k) X = some (0, nI (c + sumN (fun r => decide (X 0 10 0 r = nI s)) d k), X) := by
      intro d
      induction d with
      | zero =>
        intro k f c hk hf
        obtain ⟨f, rfl⟩ : ∃ z, f = z + 1 := ⟨f - 1, by omega⟩
        simp only [fX8_bootsOf_9, hkept, Option.bind_some]
        rw [if_pos ((pu_le (min T 12) k (by omega) (by omega)).mpr (by omega))]
        rfl
      | succ d ih =>
        intro k f c hk hf
        obtain ⟨f, rfl⟩ : ∃ z, f = z + 1 := ⟨f - 1, by omega⟩
        simp only [fX8_bootsOf_9, hkept, Option.bind_some]
        rw [if_neg (fun q => by have := (pu_le (min T 12) k (by omega) (by omega)).mp q; omega)]
        simp only [pu_inT (show k < 12 by omega) (show (12 : Nat) < 2147483648 by decide), if_true, pu_ix k (by omega), fX8_bootsOf_42, pu_succ]
        unfold sumN
        by_cases g : X 0 10 0 k = nI s
        · rw [if_pos g, ih (k + 1) f (c + 1) (by omega) (by omega), decide_eq_true g]
          rw [show n2 true = 1 from rfl, Nat.add_assoc]
        · rw [if_neg g, ih (k + 1) f c (by omega) (by omega), decide_eq_false g]
          rw [show n2 false = 0 from rfl, Nat.zero_add]
    have hr : ∀ d k f c, k + d = min T 12 → d < f → fX9_bootsOf_14 f (nI s) (nI c) (nI k) (ro (th X 0) (enc (X 0))) = some (nI (c + sumN (fun r => decide (X 0 10 0 ((T - min T 12 + r) % 12) = nI s)) d k), ro (th X 0) (enc (X 0))) := by
      intro d
      induction d with
      | zero =>
        intro k f c hk hf
        obtain ⟨f, rfl⟩ : ∃ z, f = z + 1 := ⟨f - 1, by omega⟩
        simp only [fX9_bootsOf_14, bi_28, bx_28, r28, if_true]
        rw [if_pos ((pu_le (min T 12) k (by omega) (by omega)).mpr (by omega))]
        rfl
      | succ d ih =>
        intro k f c hk hf
        obtain ⟨f, rfl⟩ : ∃ z, f = z + 1 := ⟨f - 1, by omega⟩
        have hadr : (29 : Int32) + 4 * nI k + 3 = nI (29 + 4 * k + 3) := by
          rw [show (4 : Int32) = nI 4 from rfl, pu_mul, show (29 : Int32) = nI 29 from rfl, pu_add, show (3 : Int32) = nI 3 from rfl, pu_add]
        have hrd : ro (th X 0) (enc (X 0)) 14 1 0 (29 + 4 * k + 3) = X 0 10 0 ((T - min T 12 + k) % 12) := by
          rw [ro_rd, enc_log eT (by omega) (by omega) (by decide)]
        simp only [fX9_bootsOf_14, bi_28, bx_28, r28, if_true]
        rw [if_neg (fun q => by have := (pu_le (min T 12) k (by omega) (by omega)).mp q; omega), hadr]
        simp only [pu_inT (show 29 + 4 * k + 3 < 160 by omega) (show (160 : Nat) < 2147483648 by decide), if_true, pu_ix (29 + 4 * k + 3) (by omega), hrd, fX9_bootsOf_48, fX9_flag, pu_succ, c10, if_false, Option.bind_some]
        unfold sumN
        by_cases g : X 0 10 0 ((T - min T 12 + k) % 12) = nI s
        · rw [if_pos g, ih (k + 1) f (c + 1) (by omega) (by omega), decide_eq_true g]
          rw [show n2 true = 1 from rfl, Nat.add_assoc]
        · have a0 : nI c + (0 : Int32) = nI c := pu_add c 0
          rw [if_neg g, a0, ih (k + 1) f c (by omega) (by omega), decide_eq_false g]
          rw [show n2 false = 0 from rfl, Nat.zero_add]
    have heq : sumN (fun r => decide (X 0 10 0 ((T - min T 12 + r) % 12) = nI s)) (min T 12) 0 = sumN (fun r => decide (X 0 10 0 r = nI s)) (min T 12) 0 := by
      by_cases g : T ≤ 12
      · refine sumN_congr _ _ ?_
        intro i hi
        have : (T - min T 12 + i) % 12 = i := by omega
        rw [this]
      · have h12 : min T 12 = 12 := by omega
        rw [h12]
        have hcong : sumN (fun r => decide (X 0 10 0 ((T - 12 + r) % 12) = nI s)) 12 0 = sumN (fun r => (fun i => decide (X 0 10 0 i = nI s)) (((T - 12) % 12 + r) % 12)) 12 0 := by
          refine sumN_congr _ _ ?_
          intro i hi
          have : (T - 12 + i) % 12 = ((T - 12) % 12 + i) % 12 := by omega
          rw [this]
        rw [hcong]
        exact sumN_rot (fun i => decide (X 0 10 0 i = nI s)) (b := (T - 12) % 12) (by omega)
    refine ⟨nI (0 + sumN (fun r => decide (X 0 10 0 r = nI s)) (min T 12) 0), ?_, ?_⟩
    · unfold fX8_bootsOf; rw [e1]
      simp only [Option.bind_some, if_true]
      exact hc (min T 12) 0 bsF 0 (by omega) (by unfold bsF; omega)
    · have k2 := hr (min T 12) 0 bsF 0 (by omega) (by unfold bsF; omega)
      rw [heq, ← hth] at k2
      unfold fX9_bootsOf; rw [e2]
      simp only [Option.bind_some, if_true]
      exact k2
