/-! THE REFERENCE: what runs on; the install -/
theorem wm_age {Q n t : Nat} {Y : pY} (h : wm Q n (t + 1) Y) (ha : rng (Y 0 0 12) 0 t) : wm Q n (t + 1) (wr Y 0 0 12 (Y 0 0 12 + 1)) := by
  refine h.of (by simp [b2_t, b2_f, up_at, up_up, up_id, wr_rd]) (by simpa [b2_t, b2_f, up_at, up_up, up_id, wr_rd] using h.flo) (by simpa [b2_t, b2_f, up_at, up_up, up_id, wr_rd] using h.tim) ?_ (by simpa [b2_t, b2_f, up_at, up_up, up_id, wr_rd] using h.tot) (by simp [b2_t, b2_f, up_at, up_up, up_id, wr_rd]) (fun q hq => by simpa [b2_t, b2_f, up_at, up_up, up_id, wS, wr_rd] using h.sl q hq) (by simp [b2_t, b2_f, up_at, up_up, up_id, wr_rd]) (fun q h1 h2 => by simpa [b2_t, b2_f, up_at, up_up, up_id, wr_rd] using (h.hi q h1 h2).2) (by simp [b2_t, b2_f, up_at, up_up, up_id, wr_rd]) (Nat.le_refl _)
  obtain ⟨a, a1, a2, a3⟩ := ha
  simp only [wr_rd]
  exact ⟨a + 1, by omega, by omega, by simp [b2_t, b2_f, up_at, up_up, up_id, a3, pu_succ]⟩
theorem sSucc_N {k : Nat} {Y : pY} {i : Nat} (hi : i ≠ 8) : sSucc k Y 0 0 i = Y 0 0 i := by
  unfold sSucc sSucc1
  by_cases e : Y 5 k 4 = 0 <;> simp [b2_t, b2_f, up_at, up_up, up_id, wr_rd, e, hi]
theorem q9_runsOn {r n Q t : Nat} (hr : r < n) (hQ : Q < 1000000) {X : bsX} {Y : pY} (h : wm Q n (t + 1) Y) (ha : rng (Y 0 0 12) 0 t) (hp : Y 6 r 0 ≠ 0) (hrun : Y 0 0 11 = nI r) (hon : Y 0 0 10 = 1) :
    fX9_runsOn (ro X (enc Y)) = some (ro X (enc (if (sOlder r Y).1 = -1 then (sOlder r Y).2 else (sBoots (sOlder r Y).1 (sOlder r Y).2).2))) := by
  have h6 := h.hn
  have hr6 : r < 6 := by omega
  have hg := (h.sl r hr6).2.2.2.1
  have hZ := wm_age h ha
  have hst : sSt Y = 1 := by unfold sSt; rw [hon, hrun, if_neg (by decide), if_neg (by rw [pu_m16 hr6]; exact id)]
  have henc : enc Y = row Y 1 (nI r) (Y 0 0 12) := by unfold enc; rw [hst, hrun]
  have c2 : ¬ (2 : Int32) = -1 := by decide
  have c3 : ¬ (3 : Int32) = -1 := by decide
  have e1 : row Y 1 (nI r) (Y 0 0 12 + 1) = row (wr Y 0 0 12 (Y 0 0 12 + 1)) 1 (nI r) (Y 0 0 12 + 1) := (row_N (by decide)).symm
  have encZ : ∀ Z : pY, Z 0 0 10 = 1 → Z 0 0 11 = nI r → enc Z = row Z 1 (nI r) (Z 0 0 12) := by
    intro Z z1 z2
    have : sSt Z = 1 := by unfold sSt; rw [z1, z2, if_neg (by decide), if_neg (by rw [pu_m16 hr6]; exact id)]
    unfold enc; rw [this, z2]
  unfold fX9_runsOn sOlder
  rw [henc]
  simp only [bi_0, bx_0, bi_1, bx_1, bi_2, bx_2, bi_3, bx_3, bi_4, bx_4, bi_5, bx_5, bi_6, bx_6, bi_7, bx_7, bi_8, bx_8, bi_9, bx_9, bi_10, bx_10, bi_11, bx_11, bi_12, bx_12, bi_13, bx_13, bi_14, bx_14, bi_15, bx_15, bi_16, bx_16, bi_17, bx_17, bi_18, bx_18, bi_19, bx_19, bi_20, bx_20, bi_21, bx_21, bi_22, bx_22, bi_23, bx_23, bi_24, bx_24, bi_25, bx_25, bi_26, bx_26, bi_27, bx_27, bi_28, bx_28, rw_rd0, rw_rd1, rw_rd2, rw_rd3, rw_rd4, rw_rd5, rw_rd6, rw_rd7, rw_rd8, rw_rd12, rw_rd13, rw_rd14, rw_rd15, rw_rd16, rw_rd17, rw_rd18, rw_rd19, rw_rd20, rw_rd21, rw_rd22, rw_rd23, rw_rd24, rw_rd25, rw_rd26, rw_rd27, rw_rd28, if_true, rw_wr8, q9_of0 hr6, q9_of1 hr6, q9_of2 hr6, q9_of3 hr6, q9_of4 hr6, q9_of5 hr6, q9_of6 hr6, q9_of7 hr6, q9_of8 hr6, q9_of9 hr6, q9_of10 hr6, q9_of11 hr6, q9_of12 hr6, Option.bind_some]
  by_cases k1 : Y 0 0 12 + 1 = Y 6 r 3
  · simp only [k1, if_true, c2, if_false]
    rw [← k1, e1, q9_crash hr hQ hZ (by simpa [b2_t, b2_f, up_at, up_up, up_id, wr_rd] using hp)]
    rfl
  · simp only [k1, if_false]
    by_cases k2 : Y 0 0 12 + 1 = Y 6 r 2
    · simp only [k2, if_true]
      rw [← k2, e1, q9_succ hr hZ]
      rw [encZ (sSucc r (wr Y 0 0 12 (Y 0 0 12 + 1))) (by rw [sSucc_N (by decide)]; simpa [b2_t, b2_f, up_at, up_up, up_id, wr_rd] using hon) (by rw [sSucc_N (by decide)]; simpa [b2_t, b2_f, up_at, up_up, up_id, wr_rd] using hrun), sSucc_N (by decide)]
      simp [b2_t, b2_f, up_at, up_up, up_id, wr_rd]
    · simp only [k2, if_false]
      by_cases k3 : Y 0 0 12 + 1 = Y 0 0 5
      · simp only [k3, if_true, q9_good hr6 hg, Option.bind_some]
        by_cases k4 : Y 5 r 4 = 0
        · simp [b2_t, b2_f, up_at, up_up, up_id, k4, c3, bi_0, bx_0, bi_1, bx_1, bi_2, bx_2, bi_3, bx_3, bi_4, bx_4, bi_5, bx_5, bi_6, bx_6, bi_7, bx_7, bi_8, bx_8, bi_9, bx_9, bi_10, bx_10, bi_11, bx_11, bi_12, bx_12, bi_13, bx_13, bi_14, bx_14, bi_15, bx_15, bi_16, bx_16, bi_17, bx_17, bi_18, bx_18, bi_19, bx_19, bi_20, bx_20, bi_21, bx_21, bi_22, bx_22, bi_23, bx_23, bi_24, bx_24, bi_25, bx_25, bi_26, bx_26, bi_27, bx_27, bi_28, bx_28, rw_rd0, rw_rd1, rw_rd2, rw_rd3, rw_rd4, rw_rd5, rw_rd6, rw_rd7, rw_rd8, rw_rd12, rw_rd13, rw_rd14, rw_rd15, rw_rd16, rw_rd17, rw_rd18, rw_rd19, rw_rd20, rw_rd21, rw_rd22, rw_rd23, rw_rd24, rw_rd25, rw_rd26, rw_rd27, rw_rd28, rw_wr1, rw_wr2, rw_wr3, rw_wr4, rw_wr5, rw_wr6, rw_wr7, rw_wr8, rw_wr13, rw_wr14, rw_wr15, rw_wr16, rw_wr17, rw_wr18, rw_wr19]
          have hw3 : wm Q n (t + 1) (wr (wr Y 0 0 12 (Y 0 0 12 + 1)) 4 0 3 (Y 4 0 3 + 1)) := by
            refine hZ.of (by simp [b2_t, b2_f, up_at, up_up, up_id, wr_rd]) (by simpa [b2_t, b2_f, up_at, up_up, up_id, wr_rd] using hZ.flo) (by simpa [b2_t, b2_f, up_at, up_up, up_id, wr_rd] using hZ.tim) (by simpa [b2_t, b2_f, up_at, up_up, up_id, wr_rd] using hZ.age) (by simpa [b2_t, b2_f, up_at, up_up, up_id, wr_rd] using hZ.tot) (by simp [b2_t, b2_f, up_at, up_up, up_id, wr_rd]) (fun q hq => by simpa [b2_t, b2_f, up_at, up_up, up_id, wS, wr_rd] using hZ.sl q hq) (by simp [b2_t, b2_f, up_at, up_up, up_id, wr_rd]) (fun q h1 h2 => by simpa [b2_t, b2_f, up_at, up_up, up_id, wr_rd] using (hZ.hi q h1 h2).2) (by simp [b2_t, b2_f, up_at, up_up, up_id, wr_rd]) (Nat.le_refl _)
          have e3 : row (wr Y 4 0 3 (Y 4 0 3 + 1)) 1 (nI r) (Y 0 0 12 + 1) = row (wr (wr Y 0 0 12 (Y 0 0 12 + 1)) 4 0 3 (Y 4 0 3 + 1)) 1 (nI r) (Y 0 0 12 + 1) := by
            have : wr (wr Y 0 0 12 (Y 0 0 12 + 1)) 4 0 3 (Y 4 0 3 + 1) = wr (wr Y 4 0 3 (Y 4 0 3 + 1)) 0 0 12 (Y 0 0 12 + 1) := by
              funext K j i; simp only [wr_rd]; grind
            rw [this, row_N (by decide)]
          rw [← k3, e3, q9_boots hQ (wm_boot0 hw3)]
          rfl
        · simp [b2_t, b2_f, up_at, up_up, up_id, k4]
          rw [← k3, e1, encZ _ (by simpa [b2_t, b2_f, up_at, up_up, up_id, wr_rd] using hon) (by simpa [b2_t, b2_f, up_at, up_up, up_id, wr_rd] using hrun)]
          simp [b2_t, b2_f, up_at, up_up, up_id, wr_rd]
      · simp [b2_t, b2_f, up_at, up_up, up_id, k3]
        rw [e1, encZ _ (by simpa [b2_t, b2_f, up_at, up_up, up_id, wr_rd] using hon) (by simpa [b2_t, b2_f, up_at, up_up, up_id, wr_rd] using hrun)]
        simp [b2_t, b2_f, up_at, up_up, up_id, wr_rd]
theorem sStop_eN {Y : pY} (d : Nat) : eN (sStop Y) d = if 20 ≤ d ∧ d < 28 then -1 else eN Y d := by
  have e0 : ∀ K i, K ≠ 2 → K ≠ 6 → sStop Y K 0 i = Y K 0 i := fun K i h1 h2 => sStop_rd h1 (Or.inl h2)
  refine eN_cases (P := fun d => eN (sStop Y) d = if 20 ≤ d ∧ d < 28 then -1 else eN Y d) (fun m hm => by rw [eN_big hm, eN_big hm, if_neg (by omega)]) ?_ ?_ ?_ ?_ ?_ ?_ ?_ ?_ ?_ ?_ ?_ ?_ ?_ ?_ ?_ ?_ ?_ ?_ ?_ ?_ ?_ ?_ ?_ ?_ ?_ ?_ ?_ ?_ ?_ d
  all_goals simp [b2_t, b2_f, up_at, up_up, up_id, eN, sStop_ins, e0 0, e0 3, e0 4]
theorem q9_noInst {X : bsX} {Y : pY} {a b c : Int32} : fX9_noInstall (ro X (row Y a b c)) = some (ro X (row (sStop Y) a b c)) := by
  have key := (pu_loop (N := 8) (fun m k R => fX9_noInstall_2 m (nI k) (ro X R)) (fun k R => pt R (20 + k) (-1)) (fun R => ro X R) (fun _ _ => True) ?_ ?_ 8 0 bsF (row Y a b c) rfl (by decide) trivial).1
  · unfold fX9_noInstall
    refine key.trans ?_
    congr 2
    have hW := itF_ix (f := fun k R => pt R (20 + k) (-1)) (N := 8) (fun m (R : Nat → Int32) => ∀ d, R d = if 20 ≤ d ∧ d < 20 + m then -1 else row Y a b c d) (by
      intro k R hk hR d
      unfold pt
      by_cases e : d = 20 + k
      · rw [if_pos e, if_pos (by omega)]
      · rw [if_neg e, hR d]
        by_cases e2 : 20 ≤ d ∧ d < 20 + k
        · rw [if_pos e2, if_pos (by omega)]
        · rw [if_neg e2, if_neg (by omega)]) 8 0 (row Y a b c) rfl (by intro d; rw [if_neg (by omega)])
    funext d
    rw [hW d]
    unfold row
    rw [sStop_eN]
    have hL : eL (sStop Y) ((d - 29) / 4) ((d - 29) % 4) = eL Y ((d - 29) / 4) ((d - 29) % 4) := by
      unfold eL
      rw [sStop_rd (by decide) (by decide), sStop_rd (by omega) (Or.inl (by omega))]
    by_cases d6 : d = 6
    · subst d6; simp [b2_t, b2_f, up_at, up_up, up_id]
    · by_cases d7 : d = 7
      · subst d7; simp [b2_t, b2_f, up_at, up_up, up_id]
      · by_cases d8 : d = 8
        · subst d8; simp [b2_t, b2_f, up_at, up_up, up_id]
        · simp only [d6, d7, d8, if_false]
          by_cases d29 : d < 29
          · simp only [d29, if_true]
          · simp only [d29, if_false]
            rw [if_neg (by omega), hL]
            by_cases d77 : d < 77
            · simp only [d77, if_true]
            · simp only [d77, if_false]
              by_cases d80 : 80 ≤ d ∧ d < 158
              · rw [if_pos d80, if_pos d80]
                have hk : (d - 80) / 13 ≠ 6 := by omega
                unfold eS
                split <;> first | rw [sStop_rd (by decide) (Or.inr hk)] | rw [sStop_rd (by decide) (Or.inl (by decide))] | rfl
              · rw [if_neg d80, if_neg d80]
  · intro m k R hk _
    refine ⟨?_, trivial⟩
    have e : ((7 : Int32) < nI k) = False := eq_false (by rw [show (7 : Int32) = nI 7 from rfl, pu_lt _ _ (by omega) (by omega)]; omega)
    have e2 : (20 : Int32) + nI k = nI (20 + k) := pu_add 20 k
    simp only [fX9_noInstall_2, e, if_false, e2, pu_inT (show 20 + k < 160 by omega) (by decide), if_true, pu_ix (20 + k) (by omega), ro_wr, pu_succ]
  · intro m R _
    have e : ((7 : Int32) < nI 8) = True := eq_true (by decide)
    simp only [fX9_noInstall_2, e, if_true]
theorem wr_self {Y : pY} {K j i : Nat} : wr Y K j i (Y K j i) = Y := by
  funext a b c; unfold wr; split
  · rename_i h; obtain ⟨rfl, rfl, rfl⟩ := h; rfl
  · rfl
theorem itF_cutP {σ : Type} {f : Nat → σ → σ} {n : Nat} (P : σ → Prop) (h : ∀ k a, n ≤ k → k < 6 → P a → f k a = a) : ∀ (d k : Nat) (a : σ), k + d = 6 → n ≤ k → P a → itF f d k a = a := by
  intro d
  induction d with
  | zero => intro k a _ _ _; rfl
  | succ d ih => intro k a hk hn hP; rw [itF, h k a hn (by omega) hP]; exact ih (k + 1) a (by omega) (by omega) hP
theorem itF_6P {σ : Type} {f : Nat → σ → σ} {n : Nat} (P : σ → Prop) (hn : n ≤ 6) (hs : ∀ k a, k < n → P a → P (f k a)) (h : ∀ k a, n ≤ k → k < 6 → P a → f k a = a) (a : σ) (ha : P a) : itF f 6 0 a = itF f n 0 a := by
  have : 6 = n + (6 - n) := by omega
  have hP : P (itF f n 0 a) := itF_ind (N := n) P hs n 0 a (by omega) ha
  rw [this, itF_app]
  exact itF_cutP P h (6 - n) (0 + n) _ (by omega) (by omega) hP
def pris (n : Nat) (Y : pY) : Prop := n ≤ 6 ∧ Y 0 0 4 = nI n ∧ (∀ k, k < 6 → rng (Y 5 k 2) 0 15) ∧ ∀ k, n ≤ k → k < 6 → Y 5 k 2 = 0
theorem q9_great {n q : Nat} {X : bsX} {Y : pY} {a b c : Int32} (h : pris n Y) : fX9_greatestBut (nI q) (ro X (row Y a b c)) = some (sGreat (nI q) Y, ro X (row Y a b c)) := by
  obtain ⟨hn, sz, hp, hz⟩ := h
  have hcut : sGreat (nI q) Y = itF (sGreatF (nI q) Y) n 0 0 := by
    refine itF_6P (fun b => rng b 0 15) hn ?_ ?_ 0 (rng.z 15)
    · intro k x hk hx
      unfold sGreatF
      split
      · exact hx
      · exact rng_max (by decide) hx (hp k (by omega))
    · intro k x h1 h2 hx
      unfold sGreatF
      rw [hz k h1 h2]
      split
      · rfl
      · unfold bsMax
        obtain ⟨m, _, m2, m3⟩ := hx
        rw [m3, if_neg (pu_neg m (by omega))]
  rw [hcut]
  refine (pu_loop (N := n) (fun m k x => fX9_greatestBut_4 m (nI q) x (nI k) (ro X (row Y a b c))) (sGreatF (nI q) Y) (fun x => (x, ro X (row Y a b c))) (fun _ _ => True) ?_ ?_ n 0 bsF 0 (by omega) (by unfold bsF; omega) trivial).1
  · intro m k x hk _
    have hk6 : k < 6 := by omega
    refine ⟨?_, trivial⟩
    simp only [fX9_greatestBut_4, fX9_greatestBut_38, fX9_greatestBut_39, bi_0, bx_0, rw_rd0, sz, pu_leN hk hn, if_true, if_false, q9_of0 hk6, q9_of1 hk6, q9_of2 hk6, q9_of3 hk6, q9_of4 hk6, q9_of5 hk6, q9_of6 hk6, q9_of7 hk6, q9_of8 hk6, q9_of9 hk6, q9_of10 hk6, q9_of11 hk6, q9_of12 hk6, Option.bind_some, pu_succ, sGreatF]
    by_cases e1 : nI k = nI q
    · simp [b2_t, b2_f, up_at, up_up, up_id, e1]
    · by_cases e2 : Y 5 k 2 ≤ x
      · have := pu_nlt.mpr e2; simp [b2_t, b2_f, up_at, up_up, up_id, e1, e2, bsMax, this]
      · have := pu_nle.mp e2; simp [b2_t, b2_f, up_at, up_up, up_id, e1, e2, bsMax, this]
  · intro m x _
    simp only [fX9_greatestBut_4, bi_0, bx_0, rw_rd0, sz, pu_leNN, if_true]
