/-! TEXTS: the law's loops -/
theorem ite01 {x : Int32} {L : List Int32} (h : is01 x) : (if x = 1 then L else []) = (if x = 0 then [] else L) := by
  rcases h with rfl | rfl
  · rw [if_neg (show ¬ (0 : Int32) = 1 by decide), if_pos rfl]
  · rw [if_pos rfl, if_neg (show ¬ (1 : Int32) = 0 by decide)]
def zLine (Z : pY) (j v s c p r : Nat) : List Int32 := ((((wrd 9 ++ fld j) ++ fld v) ++ fld s) ++ fld c) ++ ((if Z 6 j 4 = 1 then wrd 10 else []) ++ ((if Z 6 j 5 = 1 then wrd 11 else []) ++ ((((wrd 12 ++ fld j) ++ fld p) ++ fld r) ++ (if Z 5 j 4 = 0 then [] else wrd 13))))
theorem tx_212 {K : txK} {a0 a8 t : Nat → Nat} {b0 b8 n u1 j p r v s c : Nat} {X : bsX} {Z : pY} (hj : j < 6) (hu : stN u1 ≤ 1) (h0 : b0 + 10 ≤ 512) (hn : n + 130 ≤ 512) (e1 : Z 6 j 1 = nI v) (hv : v ≤ 99) (es : Z 6 j 2 = nI s) (hs : s ≤ 99) (ec : Z 6 j 3 = nI c) (hc : c ≤ 99) (e2 : Z 5 j 2 = nI p) (hp : p ≤ 15) (e3 : Z 5 j 3 = nI r) (hr : r ≤ 7) :
    ∃ t0' n0' t' n', hL_texts_212 K a0 b0 a8 b8 t n (nI j) j u1 X Z = K t0' n0' a8 b8 t' n' (nI j + 1) X Z ∧ tl t0' n0' = tl a0 b0 ++ (tl (stT u1) (stN u1) ++ (if Z 0 0 11 = nI j then [42] else [])) ∧ tl t' n' = tl t n ++ zLine Z j v s c p r := by
  have s16 : stN 16 = 0 := rfl
  have s20 : stN 20 = 1 := rfl
  unfold hL_texts_212
  rw [if_pos (by omega)]
  by_cases g : Z 0 0 11 = nI j
  · rw [if_pos g, if_pos g]
    obtain ⟨t', n', h1, h2⟩ := tx_233 (K := K) (a0 := sb_cat a0 b0 (stT u1)) (b0 := b0 + stN u1) (a8 := a8) (b8 := b8) (t := t) (n := n) (u1 := 20) (X := X) (Z := Z) hj (by omega) (by omega) hn e1 hv es hs ec hc e2 hp e3 hr
    refine ⟨_, _, t', n', h1, ?_, h2⟩
    rw [tl_cat, tl_cat, tl_20, List.append_assoc]
  · rw [if_neg g, if_neg g]
    obtain ⟨t', n', h1, h2⟩ := tx_233 (K := K) (a0 := sb_cat a0 b0 (stT u1)) (b0 := b0 + stN u1) (a8 := a8) (b8 := b8) (t := t) (n := n) (u1 := 16) (X := X) (Z := Z) hj (by omega) (by omega) hn e1 hv es hs ec hc e2 hp e3 hr
    refine ⟨_, _, t', n', h1, ?_, h2⟩
    rw [tl_cat, tl_cat, tl_16, List.append_assoc]
theorem tx_136 {K : txK} {Q n t j nn0 nn8 nn16 u1 : Nat} {tt0 tt8 tt16 : Nat → Nat} {X : bsX} {Z : pY} (P : PI Q n t X Z) (hj : j < n) (hu : stN u1 ≤ 1) (h0 : nn0 + 60 ≤ 512) (h16 : nn16 + 130 ≤ 512) :
    ∃ t0' n0' t' n', hL_texts_136 K tt0 nn0 tt8 nn8 tt16 nn16 (nI j) j u1 X Z = K t0' n0' tt8 nn8 t' n' (nI j + 1) X Z ∧ tl t0' n0' = tl tt0 nn0 ++ (tl (stT u1) (stN u1) ++ wSlot (X 0) j) ∧ tl t' n' = tl tt16 nn16 ++ wLine (X 0) j := by
  obtain ⟨h7, n1, hw, hr, hs⟩ := P
  have h6 := hw.hn
  have hl := hr.pn h6
  have hs' := hw.sl j (by omega)
  have s16 : stN 16 = 0 := rfl
  have s19 : stN 19 = 1 := rfl
  unfold hL_texts_136
  rw [if_pos (by omega), hq_emp hr hj hs'.2.2.2.2.2.2.1]
  simp only [Option.bind_some]
  by_cases e : X 0 6 j 0 = 0
  · rw [decide_eq_true e, b2_t, if_neg (show ¬ (1 : Int32) = 0 by decide), if_pos (by omega)]
    unfold hL_texts_402
    refine ⟨_, _, _, _, rfl, ?_, ?_⟩
    · rw [tl_cat, tl_cat, tl_c45]
      unfold wSlot
      rw [if_pos e, List.append_assoc]
    · unfold wLine
      rw [if_pos e, List.append_nil]
  · obtain ⟨p, _, p9, ep⟩ := hs'.2.2.2.2.1
    obtain ⟨r, _, r9, er⟩ := hs'.2.2.2.2.2.1
    obtain ⟨v, _, v9, ev⟩ := hs'.2.2.2.2.2.2.1
    obtain ⟨s, _, s9, es⟩ := hs'.2.2.2.2.2.2.2.1
    obtain ⟨c, _, c9, ec⟩ := hs'.2.2.2.2.2.2.2.2.1
    have f1 : Z 6 j 1 = nI v := by rw [hr.im hj e (i := 1) (by omega) (by omega)]; exact ev
    have f2 : Z 6 j 2 = nI s := by rw [hr.im hj e (i := 2) (by omega) (by omega)]; exact es
    have f3 : Z 6 j 3 = nI c := by rw [hr.im hj e (i := 3) (by omega) (by omega)]; exact ec
    have f4 := hr.im hj e (i := 4) (by omega) (by omega)
    have f5 := hr.im hj e (i := 5) (by omega) (by omega)
    have g2 : Z 5 j 2 = nI p := by rw [hr.sl hj (i := 2) (by omega) (by omega)]; exact ep
    have g3 : Z 5 j 3 = nI r := by rw [hr.sl hj (i := 3) (by omega) (by omega)]; exact er
    have g4 := hr.sl hj (i := 4) (by omega) (by omega)
    have dv := tl_dec (k := v) (by omega)
    have dp := tl_dec (k := p) (by omega)
    have dr := tl_dec (k := r) (by omega)
    have gv := (sb_dg_in v).2
    have gp := (sb_dg_in p).2
    have gr := (sb_dg_in r).2
    have hL : zLine Z j v s c p r = wLine (X 0) j := by
      unfold zLine wLine wImg wMrk
      rw [if_neg e, f4, f5, g4, ite01 hs'.2.1, ite01 hs'.2.2.1, ev, es, ec, ep, er, fldV_n (by omega), fldV_n (by omega), fldV_n (by omega), fldV_n (by omega), fldV_n (by omega)]
      simp only [List.append_assoc]
    rw [decide_eq_false e, b2_f, if_pos rfl, if_pos (by rw [hl]; exact hj), f1, g2, g3, pu_ix v (by omega), pu_ix p (by omega), pu_ix r (by omega)]
    rw [if_pos (nn_nI (by omega)), if_pos (by omega), if_pos (by omega), if_pos (nn_nI (by omega)), if_pos (by omega), if_pos (by omega), if_pos (nn_nI (by omega)), if_pos (by omega)]
    have hW : wSlot (X 0) j = (((((dig v ++ [58]) ++ dig p) ++ [47]) ++ dig r) ++ (if Z 5 j 4 = 0 then [] else [33])) ++ (if Z 0 0 11 = nI j then [42] else []) := by
      unfold wSlot
      rw [if_neg e, ev, ep, er, dgV_n (by omega), dgV_n (by omega), dgV_n (by omega), g4, hs.1]
      by_cases w : nI j = X 0 0 0 11
      · rw [if_pos w, if_pos w.symm]
      · rw [if_neg w, if_neg (show ¬ X 0 0 0 11 = nI j from fun q => w q.symm)]
    by_cases g : Z 5 j 4 = 0
    · rw [if_pos g]
      refine Exists.elim (tx_212 (K := K) (a8 := tt8) (b8 := nn8) (t := tt16) (n := nn16) (u1 := 16) (X := X) (Z := Z) (show j < 6 by omega) (by omega) ?_ h16 f1 v9 f2 s9 f3 c9 g2 p9 g3 r9) (fun t0' h => Exists.elim h (fun n0' h => Exists.elim h (fun t' h => Exists.elim h (fun n' h => ⟨t0', n0', t', n', h.1, ?_, ?_⟩))))
      · omega
      · rw [h.2.1, hW]
        simp only [tl_cat, tl_16, tl_c58, tl_c47, dv, dp, dr, g, if_true, List.append_assoc, List.cons_append, List.nil_append, List.append_nil]
      · rw [h.2.2, hL]
    · rw [if_neg g]
      refine Exists.elim (tx_212 (K := K) (a8 := tt8) (b8 := nn8) (t := tt16) (n := nn16) (u1 := 19) (X := X) (Z := Z) (show j < 6 by omega) (by omega) ?_ h16 f1 v9 f2 s9 f3 c9 g2 p9 g3 r9) (fun t0' h => Exists.elim h (fun n0' h => Exists.elim h (fun t' h => Exists.elim h (fun n' h => ⟨t0', n0', t', n', h.1, ?_, ?_⟩))))
      · omega
      · rw [h.2.1, hW]
        simp only [tl_cat, tl_19, tl_c58, tl_c47, dv, dp, dr, g, if_false, List.append_assoc, List.cons_append, List.nil_append, List.append_nil]
      · rw [h.2.2, hL]
theorem tx_102 {Q n t nn8 : Nat} {tt8 : Nat → Nat} {X : bsX} {Z : pY} {T2 : List Int32} (P : PI Q n t X Z) (hT2 : T2.length ≤ 49) : ∀ (d k m : Nat) (tt0 : Nat → Nat) (nn0 : Nat) (tt16 : Nat → Nat) (nn16 : Nat), k + d = n → d < m → tl tt0 nn0 = jn (wSlot (X 0)) k → tl tt16 nn16 = lnL (wLine (X 0)) T2 k →
    ∃ t0' n0' t' n', hL_texts_102 m tt0 nn0 tt8 nn8 tt16 nn16 (nI k) X Z = hL_texts_422 14 t0' n0' tt8 nn8 t' n' (bsMax 0 (nI (lm Z) - 12)) X Z ∧ tl t0' n0' = jn (wSlot (X 0)) n ∧ tl t' n' = lnL (wLine (X 0)) T2 n := by
  obtain ⟨h7, n1, hw, hr, hs⟩ := id P
  have h6 := hw.hn
  have hl := hr.pn h6
  intro d
  induction d with
  | zero =>
    intro k m tt0 nn0 tt16 nn16 hk hm i0 i16
    obtain ⟨m, rfl⟩ : ∃ q, m = q + 1 := ⟨m - 1, by omega⟩
    obtain rfl : k = n := (by omega)
    exact ⟨tt0, nn0, tt16, nn16, by rw [hL_texts_102, hl, if_pos (pz_nn k)], i0, i16⟩
  | succ d ih =>
    intro k m tt0 nn0 tt16 nn16 hk hm i0 i16
    obtain ⟨m, rfl⟩ : ∃ q, m = q + 1 := ⟨m - 1, by omega⟩
    have hkn : k < n := by omega
    have b0 : (jn (wSlot (X 0)) k).length ≤ (19 + 1) * k := jn_len k (fun i hi => wSlot_len (hw.sl i (by omega)))
    have b16 : (lnL (wLine (X 0)) T2 k).length ≤ T2.length + 52 * k := lnL_len k (fun i hi => wLine_len (by omega) (hw.sl i (by omega)))
    rw [← i0, tl_len] at b0
    rw [← i16, tl_len] at b16
    have go : ∀ u1, stN u1 ≤ 1 → tl (stT u1) (stN u1) = (if k = 0 then [] else [32]) → ∃ t0' n0' t' n', hL_texts_136 (hL_texts_102 m) tt0 nn0 tt8 nn8 tt16 nn16 (nI k) k u1 X Z = hL_texts_422 14 t0' n0' tt8 nn8 t' n' (bsMax 0 (nI (lm Z) - 12)) X Z ∧ tl t0' n0' = jn (wSlot (X 0)) n ∧ tl t' n' = lnL (wLine (X 0)) T2 n := by
      intro u1 hu eu
      obtain ⟨t0', n0', t', n', a1, a2, a3⟩ := tx_136 (K := hL_texts_102 m) (tt0 := tt0) (nn0 := nn0) (tt8 := tt8) (nn8 := nn8) (tt16 := tt16) (nn16 := nn16) (u1 := u1) P hkn hu (by omega) (by omega)
      rw [a1, pu_succ]
      refine ih (k + 1) m t0' n0' t' n' (by omega) (by omega) ?_ ?_
      · rw [a2, i0, eu, jn, List.append_assoc]
      · rw [a3, i16, lnL]
    rw [hL_texts_102, hl, if_neg (pz_le hkn h6), if_pos (pz_in hkn h6), pu_ix k (by omega)]
    by_cases k0 : k = 0
    · rw [if_pos (show nI k ≤ (0 : Int32) from (pu_le k 0 (by omega) (by omega)).mpr (by omega))]
      exact go 16 (by decide) (by rw [tl_16, if_pos k0])
    · rw [if_neg (show ¬ nI k ≤ (0 : Int32) from fun q => by have := (pu_le k 0 (by omega) (by omega)).mp q; omega)]
      exact go 18 (by decide) (by rw [tl_18, if_neg k0])
theorem tx_74 {Q n t nn0 nn8 : Nat} {tt0 tt8 : Nat → Nat} {X : bsX} {Z : pY} {T1 : List Int32} (P : PI Q n t X Z) (hT1 : T1.length ≤ 19) : ∀ (d k m : Nat) (tt16 : Nat → Nat) (nn16 : Nat), k + d = n → d < m → tl tt16 nn16 = lnL (fun _ => wrd 8) T1 k →
    ∃ t' n', hL_texts_74 m tt0 nn0 tt8 nn8 tt16 nn16 (nI k) X Z = hL_texts_102 8 tt0 nn0 tt8 nn8 t' n' 0 X Z ∧ tl t' n' = lnL (fun _ => wrd 8) T1 n := by
  obtain ⟨h7, n1, hw, hr, hs⟩ := id P
  have h6 := hw.hn
  have hl := hr.pn h6
  have s8 : stN 8 = 5 := rfl
  intro d
  induction d with
  | zero =>
    intro k m tt16 nn16 hk hm i16
    obtain ⟨m, rfl⟩ : ∃ q, m = q + 1 := ⟨m - 1, by omega⟩
    obtain rfl : k = n := (by omega)
    exact ⟨tt16, nn16, by rw [hL_texts_74, hl, if_pos (pz_nn k)], i16⟩
  | succ d ih =>
    intro k m tt16 nn16 hk hm i16
    obtain ⟨m, rfl⟩ : ∃ q, m = q + 1 := ⟨m - 1, by omega⟩
    have b16 : (lnL (fun _ => wrd 8) T1 k).length ≤ T1.length + 5 * k := lnL_len k (fun i _ => by rw [wq8]; exact Nat.le_refl 5)
    rw [← i16, tl_len] at b16
    rw [hL_texts_74, hl, if_neg (pz_le (by omega) h6), if_pos (by omega), pu_succ]
    refine ih (k + 1) m _ _ (by omega) (by omega) ?_
    rw [tl_cat, tl_8, i16, lnL]
theorem chr7 : ∀ c, c < 5 → bsIn (nI c) (bsSl.getD 7 0) ∧ 0 ≤ bsChr 7 c ∧ bsIx (bsChr 7 c) < 256 ∧ nI (bsIx (bsChr 7 c)) = bsChr 7 c := by decide +kernel
theorem jn_pos {it : Nat → List Int32} : ∀ k, (∀ i, i < k → 1 ≤ (it i).length) → k ≤ (jn it k).length := by
  intro k
  induction k with
  | zero => intro _; exact Nat.zero_le _
  | succ k ih =>
    intro h
    have h1 := ih (fun i hi => h i (by omega))
    have h2 := h k (by omega)
    simp only [jn, List.length_append]
    omega
theorem tx_458 {K : txK} {a0 t a16 : Nat → Nat} {b0 n b16 u1 q tm cz w : Nat} {x5 : Int32} {X : bsX} {Z : pY} (hu : stN u1 ≤ 1) (hn : n + 40 ≤ 512) (e0 : Z 12 q 0 = nI tm) (ht : tm ≤ 9999) (e1 : Z 12 q 1 = nI cz) (hc : cz < 5) (e3 : Z 12 q 3 = -1 ∨ (Z 12 q 3 = nI w ∧ w ≤ 5)) :
    ∃ t' n', hL_texts_458 K a0 b0 t n a16 b16 x5 q u1 X Z = K a0 b0 t' n' a16 b16 (x5 + 1) X Z ∧ tl t' n' = tl t n ++ (tl (stT u1) (stN u1) ++ ((dig tm ++ [bsChr 7 cz]) ++ (if Z 12 q 3 = -1 then [114] else dgV (Z 12 q 3)))) := by
  obtain ⟨k1, k2, k3, k4⟩ := chr7 cz hc
  have gt := (sb_dg_in tm).2
  have gw := (sb_dg_in w).2
  have dt := tl_dec (k := tm) ht
  have dw : w ≤ 5 → tl (sb_dec w) (sb_dg w) = dig w := fun z => tl_dec (by omega)
  unfold hL_texts_458
  rw [e0, e1, pu_ix tm (by omega), pu_ix cz (by omega), if_pos (by omega), if_pos (nn_nI (by omega)), if_pos (by omega), if_pos k1, if_pos k2, if_pos k3, if_pos (by omega)]
  rcases e3 with e3 | ⟨e3, w5⟩
  · rw [e3, if_neg (show ¬ (0 : Int32) ≤ -1 by decide), if_pos (by omega)]
    unfold hL_texts_508
    refine ⟨_, _, rfl, ?_⟩
    rw [if_pos rfl]
    simp only [tl_cat, tl_one, tl_c114, dt, k4, List.append_assoc, List.cons_append, List.nil_append]
    rfl
  · rw [e3, pu_ix w (by omega), if_pos (nn_nI (by omega)), if_pos (nn_nI (by omega)), if_pos (by omega)]
    unfold hL_texts_508
    refine ⟨_, _, rfl, ?_⟩
    rw [if_neg (pu_m1 w (by omega)), dgV_n (by omega)]
    simp only [tl_cat, tl_one, dw w5, dt, k4, List.append_assoc, List.cons_append, List.nil_append]
theorem tx_422 {Q n t T nn0 nn16 : Nat} {tt0 tt16 : Nat → Nat} {X : bsX} {Z : pY} (P : PI Q n t X Z) (ht : t ≤ 9999) (hT : T < 1000000) (eT : X 0 3 0 4 = nI T) : ∀ (d r m : Nat) (tt8 : Nat → Nat) (nn8 : Nat), r + d = min T 12 → d < m → tl tt8 nn8 = jn (fun r => wBoot (X 0) ((T - min T 12 + r) % 12)) r →
    ∃ t' n' m', hL_texts_422 m tt0 nn0 tt8 nn8 tt16 nn16 (nI (T - min T 12 + r)) X Z = hL_texts_422 (m' + 1) tt0 nn0 t' n' tt16 nn16 (nI T) X Z ∧ tl t' n' = jn (fun r => wBoot (X 0) ((T - min T 12 + r) % 12)) (min T 12) := by
  obtain ⟨h7, n1, hw, hr, hs⟩ := id P
  have hlm := hr.pm hT eT
  obtain ⟨T3, hT3, q1, q2, q3, q4⟩ := hr.f
  obtain rfl : T3 = T := (pu_eq T3 T (by omega) (by omega)).mp (by rw [← q1, ← eT])
  generalize hit : (fun r => wBoot (X 0) ((T3 - min T3 12 + r) % 12)) = it
  have iti : ∀ r, it r = wBoot (X 0) ((T3 - min T3 12 + r) % 12) := fun r => by rw [← hit]
  have itl : ∀ r, 1 ≤ (it r).length ∧ (it r).length ≤ 9 := by intro r; rw [iti]; exact wBoot_len hw ht (by omega)
  intro d
  induction d with
  | zero =>
    intro r m tt8 nn8 hd hm i8
    obtain ⟨m, rfl⟩ : ∃ q, m = q + 1 := ⟨m - 1, by omega⟩
    have e : T3 - min T3 12 + r = T3 := by omega
    exact ⟨tt8, nn8, m, by rw [e], by rw [i8, show r = min T3 12 by omega]⟩
  | succ d ih =>
    intro r m tt8 nn8 hd hm i8
    obtain ⟨m, rfl⟩ : ∃ q, m = q + 1 := ⟨m - 1, by omega⟩
    have b8 : (jn it r).length ≤ (9 + 1) * r := jn_len r (fun i _ => (itl i).2)
    have p8 : r ≤ (jn it r).length := jn_pos r (fun i _ => (itl i).1)
    rw [← i8, tl_len] at b8 p8
    have z8 : r = 0 → nn8 = 0 := by
      intro z
      have : (tl tt8 nn8).length = 0 := by rw [i8, z]; rfl
      rw [tl_len] at this
      exact this
    have hlt : T3 - min T3 12 + r < T3 := by omega
    obtain ⟨a0, a1, a2, a3⟩ := q4 (T3 - min T3 12 + r) hlt (by omega)
    obtain ⟨l0, l1, l3⟩ := hw.log ((T3 - min T3 12 + r) % 12) (by omega)
    obtain ⟨tm, _, tm9, etm⟩ := l0
    obtain ⟨cz, _, cz4, ecz⟩ := l1
    have e3 : ∃ w, Z 12 (T3 - min T3 12 + r) 3 = -1 ∨ (Z 12 (T3 - min T3 12 + r) 3 = nI w ∧ w ≤ 5) := by
      rcases l3 with l3 | ⟨w, _, w5, ew⟩
      · exact ⟨0, Or.inl (by rw [a3]; exact l3)⟩
      · exact ⟨w, Or.inr ⟨by rw [a3]; exact ew, w5⟩⟩
    obtain ⟨w, e3⟩ := e3
    have go : ∀ u1, stN u1 ≤ 1 → tl (stT u1) (stN u1) = (if r = 0 then [] else [32]) → ∃ t' n' m', hL_texts_458 (hL_texts_422 m) tt0 nn0 tt8 nn8 tt16 nn16 (nI (T3 - min T3 12 + r)) (T3 - min T3 12 + r) u1 X Z = hL_texts_422 (m' + 1) tt0 nn0 t' n' tt16 nn16 (nI T3) X Z ∧ tl t' n' = jn it (min T3 12) := by
      intro u1 hu eu
      obtain ⟨t', n', h1, h2⟩ := tx_458 (K := hL_texts_422 m) (a0 := tt0) (b0 := nn0) (t := tt8) (n := nn8) (a16 := tt16) (b16 := nn16) (x5 := nI (T3 - min T3 12 + r)) (X := X) hu (by omega) (by rw [a0]; exact etm) (by omega) (by rw [a1]; exact ecz) (by omega) e3
      rw [h1, pu_succ]
      refine ih (r + 1) m t' n' (by omega) (by omega) ?_
      rw [h2, i8, eu, jn, iti]
      unfold wBoot
      rw [etm, ecz, dgV_n (by omega), pu_ix cz (by omega), a3]
      simp only [List.append_assoc]
    rw [hL_texts_422, hlm, if_neg (by rw [pu_le T3 _ (by omega) (by omega)]; omega), if_pos ((pu_in _ T3 (by omega)).mpr hlt), pu_ix _ (by omega)]
    by_cases r0 : r = 0
    · rw [if_pos (show nI nn8 ≤ (0 : Int32) by rw [z8 r0]; decide)]
      exact go 16 (by decide) (by rw [tl_16, if_pos r0])
    · rw [if_neg (show ¬ nI nn8 ≤ (0 : Int32) from fun q => by have := (pu_le nn8 0 (by omega) (by omega)).mp q; omega)]
      exact go 18 (by decide) (by rw [tl_18, if_neg r0])
