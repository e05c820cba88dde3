/-! THE LAW'S ACT, the rest -/
theorem ac_1019 {B L n Q t T D Dm q : Nat} {xs : Nat → Int32} {X : bsX} {Z : pY} {v lo hi : Int32} (P : AI n Q t T X Z) (q2 : 2 ≤ q) (q5 : q ≤ 5)
    (nm : ∀ v, fX8_setNumber (nI q) v X = ((fX8_requireWithin v lo hi X).bind fun r1 => if r1.1 = 0 then ((fX8_remember r1.2.2).bind fun r4 => some (0, (r4 0 0 0 (q + 3)), (bsWr r4 0 0 0 (q + 3) v))) else some (r1.1, (0 : Int32), r1.2.2)))
    (gn : ¬ (lo ≤ -1 ∧ -1 ≤ hi)) (gv : lo ≤ v ∧ v ≤ hi) (hw2 : wm Q n t (wr (X 0) 0 0 (q + 3) v)) (hd : D ≤ Dm) : AO n Q t T Dm (hL_act_1019 xs L B (nI q) (Z 0 0 (q + 3)) v X (wr Z 0 0 (q + 3) v) D) := by
  obtain ⟨hk, n1, hw, hr, ⟨s1, s2, s3⟩, em⟩ := id P
  unfold hL_act_1019
  rw [ch_num6 hk]
  simp only [Option.bind_some, if_true]
  rw [if_pos (show 0 < 3 ∧ 3 ≤ 3 by decide), if_pos (show nI 3 = 3 from rfl), ch_numN (nm (-1)) gn]
  simp only [Option.bind_some, if_true]
  rw [if_pos (show 0 < 3 ∧ 3 ≤ 3 by decide), if_pos (show nI 3 = 3 from rfl)]
  obtain ⟨X', f1, f2, f3⟩ := ch_num hk hw (nm v) gv
  rw [f1]
  simp only [Option.bind_some, if_true]
  rw [if_pos (show X 0 0 0 (q + 3) = Z 0 0 (q + 3) from (hr.num (by omega) (by omega)).symm)]
  refine ⟨X', _, D, Q, t, T, rfl, ⟨f3, n1, by rw [f2]; exact hw2, by rw [f2]; exact hr.w0 (q + 3) v (by omega) (by omega), ⟨?_, ?_, ?_⟩, ?_⟩, hd, by omega, by omega, by omega⟩
  · rw [f2, wr_y _ _ _ _ _ (by omega), wr_y _ _ _ _ _ (by omega)]; exact s1
  · rw [f2, wr_y _ _ _ _ _ (by omega), wr_y _ _ _ _ _ (by omega)]; exact s2
  · rw [f2, wr_y _ _ _ _ _ (by omega), s3]
    unfold sSt
    rw [wr_y _ _ _ _ _ (by omega), wr_y _ _ _ _ _ (by omega)]
  · rw [f2, wr_y _ _ _ _ _ (by omega)]; exact em
theorem ac_903 {B L n Q t T D Dm q : Nat} {xs : Nat → Int32} {X : bsX} {Z : pY} (P : AI n Q t T X Z) (q2 : 2 ≤ q) (q5 : q ≤ 5) (hD : D < 1000000) (hd : D + 1 ≤ Dm) : AO n Q t T Dm (hL_act_903 xs L B (nI q) (Z 0 0 (q + 3)) X Z D) := by
  obtain ⟨hk, n1, hw, hr, hs, em⟩ := id P
  have hc : q = 2 ∨ q = 3 ∨ q = 4 ∨ q = 5 := by omega
  rcases hc with rfl | rfl | rfl | rfl
  · have g : rng (dVal xs L D (1 : Int32) (20 : Int32)) 1 20 := dv_rng xs L D 1 20 (by omega) (by omega)
    unfold hL_act_903
    rw [if_pos (show nI 2 = 2 from rfl), if_pos hD]
    unfold hL_act_969 hL_act_983 hL_act_995 hL_act_1007
    rw [if_pos (show nI 2 = 2 from rfl), if_neg (show ¬ nI 2 = 3 by decide), if_neg (show ¬ nI 2 = 4 by decide), if_neg (show ¬ nI 2 = 5 by decide)]
    exact ac_1019 P (q := 2) (by omega) (by omega) (fun v => nm_2 hk) (by decide) (rng_in (a := 1) (b := 99) (g.le (by omega) (by omega)) (by omega)) (wm_num hw (by omega) (fun _ => g.le (by omega) (by omega)) (fun e => absurd e (by decide)) (fun e => absurd e (by decide)) (fun e => absurd e (by decide))) hd
  · have g : rng (dVal xs L D (1 : Int32) (9 : Int32)) 1 9 := dv_rng xs L D 1 9 (by omega) (by omega)
    unfold hL_act_903
    rw [if_neg (show ¬ nI 3 = 2 by decide), if_pos (show nI 3 = 3 from rfl), if_pos hD]
    unfold hL_act_969 hL_act_983 hL_act_995 hL_act_1007
    rw [if_neg (show ¬ nI 3 = 2 by decide), if_pos (show nI 3 = 3 from rfl), if_neg (show ¬ nI 3 = 4 by decide), if_neg (show ¬ nI 3 = 5 by decide)]
    exact ac_1019 P (q := 3) (by omega) (by omega) (fun v => nm_3 hk) (by decide) (rng_in (a := 1) (b := 9) (g.le (by omega) (by omega)) (by omega)) (wm_num hw (by omega) (fun e => absurd e (by decide)) (fun _ => g.le (by omega) (by omega)) (fun e => absurd e (by decide)) (fun e => absurd e (by decide))) hd
  · have g : rng (dVal xs L D (0 : Int32) (7 : Int32)) 0 7 := dv_rng xs L D 0 7 (by omega) (by omega)
    unfold hL_act_903
    rw [if_neg (show ¬ nI 4 = 2 by decide), if_neg (show ¬ nI 4 = 3 by decide), if_pos (show nI 4 = 4 from rfl), if_pos hD]
    unfold hL_act_969 hL_act_983 hL_act_995 hL_act_1007
    rw [if_neg (show ¬ nI 4 = 2 by decide), if_neg (show ¬ nI 4 = 3 by decide), if_pos (show nI 4 = 4 from rfl), if_neg (show ¬ nI 4 = 5 by decide)]
    exact ac_1019 P (q := 4) (by omega) (by omega) (fun v => nm_4 hk) (by decide) (rng_in (a := 0) (b := 7) (g.le (by omega) (by omega)) (by omega)) (wm_num hw (by omega) (fun e => absurd e (by decide)) (fun e => absurd e (by decide)) (fun _ => g.le (by omega) (by omega)) (fun e => absurd e (by decide))) hd
  · obtain ⟨d, _, d3, ed⟩ := dv_in xs L D 0 3 (by omega) (by omega)
    have ed' : dVal xs L D (0 : Int32) (3 : Int32) = nI d := ed
    obtain ⟨f, _, f9, ef⟩ := hw.flo
    have e8 : Z 0 0 8 = nI f := by rw [hr.num (i := 8) (by omega) (by omega)]; exact ef
    have ev : bsMin (99 : Int32) (nI f + nI d) = nI (min 99 (f + d)) := by
      rw [pu_add]; exact bsMin_nI (a := 99) (by omega) (by omega)
    unfold hL_act_903
    rw [if_neg (show ¬ nI 5 = 2 by decide), if_neg (show ¬ nI 5 = 3 by decide), if_neg (show ¬ nI 5 = 4 by decide), if_pos hD]
    unfold hL_act_969 hL_act_983 hL_act_995 hL_act_1007
    rw [if_neg (show ¬ nI 5 = 2 by decide), if_neg (show ¬ nI 5 = 3 by decide), if_neg (show ¬ nI 5 = 4 by decide), if_pos (show nI 5 = 5 from rfl)]
    have gf : rng (bsMin (99 : Int32) (Z 0 0 8 + dVal xs L D (0 : Int32) (3 : Int32))) f 99 := ⟨min 99 (f + d), by omega, by omega, by rw [e8, ed', ev]⟩
    refine ac_1019 P (q := 5) (by omega) (by omega) (fun v => nm_5 hk) ?_ ?_ (wm_num hw (by omega) (fun e => absurd e (by decide)) (fun e => absurd e (by decide)) (fun e => absurd e (by decide)) (fun _ => gf.le (by omega) (by omega))) hd
    · rw [ef]
      exact fun z => absurd z.1 (by rw [Int32.le_iff_toInt_le, pu_toInt f (by omega), show (-1 : Int32).toInt = -1 by decide]; omega)
    · rw [ef]
      exact rng_in (a := f) (b := 99) gf (by omega)
theorem ac_105 {B L n Q t T D Dm w k : Nat} {xs : Nat → Int32} {X : bsX} {Z : pY} (P : AI n Q t T X Z) (hw11 : w ≤ 11) (hkn : k < n) (hB : T + 120 ≤ B) (hB2 : B ≤ 90000) (hQ : Q < 800000) (ht : t + 60 ≤ 9999) (hD : D + 6 < 1000000) (hd : D + 6 ≤ Dm) :
    AO n Q t T Dm (hL_act_105 xs L B (nI w) (nI k) (Z 11 0 12) k X Z D) := by
  have ho := P.off
  obtain ⟨hk, n1, hw, hr, ⟨s1, s2, s3⟩, em⟩ := id P
  have h6 := hw.hn
  have hl := hr.pn h6
  have hkl : k < ln Z := by rw [hl]; exact hkn
  have hs' := hw.sl k (by omega)
  have hD0 : D < 1000000 := by omega
  obtain ⟨hh, _, h2, eh⟩ := dv_in xs L D 0 2 (by omega) (by omega)
  have eh' : dVal xs L D (0 : Int32) (2 : Int32) = nI hh := eh
  unfold hL_act_105
  by_cases c5 : 5 ≤ w
  · rw [if_pos (show (5 : Int32) ≤ nI w from (pu_le 5 w (by omega) (by omega)).mpr c5)]
    have hc : w = 5 ∨ w = 6 ∨ w = 7 ∨ w = 8 ∨ w = 9 ∨ w = 10 ∨ w = 11 := by omega
    rcases hc with rfl | rfl | rfl | rfl | rfl | rfl | rfl
    · rw [if_pos (show nI 5 = 5 from rfl)]
      by_cases c : X 0 0 0 10 = 0
      · rw [if_pos (ho.mpr c), ch_cutN hk c]
        simp only [Option.bind_some, if_true]
        rw [if_pos (show 0 < 3 ∧ 3 ≤ 3 by decide), if_pos (show nI 3 = 3 from rfl), ch_rebootN hk c]
        simp only [Option.bind_some, if_true]
        rw [if_pos (show 0 < 3 ∧ 3 ≤ 3 by decide), if_pos (show nI 3 = 3 from rfl)]
        exact P.same (by omega)
      · rw [if_neg (fun q => c (ho.mp q))]
        obtain ⟨Z', e, r1, r2⟩ := hq_boot (B := B) (c := 1) (X := X) (wm_boot0 hw) hr em (by omega) hB2
        rw [e]
        simp only [Option.bind_some, if_true]
        obtain ⟨X', f1, f2, f3⟩ := ch_reboot hk hw (by omega) c
        rw [f1]
        simp only [Option.bind_some, if_true]
        rw [if_pos r2.1.symm]
        refine ⟨X', Z', D, Q + 1, t, T + 1, rfl, ⟨f3, n1, ?_, ?_, ?_, ?_⟩, by omega, by omega, by omega, by omega⟩
        · rw [f2]; exact wm_boots (wm_boot0 hw) ⟨1, by omega, by omega, rfl⟩ (by omega)
        · rw [f2]; exact r1
        · rw [f2]; exact r2
        · rw [f2, sBoots_tot, em, pu_succ]
    · rw [if_neg (show ¬ nI 6 = 5 by decide), if_pos (show nI 6 = 6 from rfl)]
      by_cases c : X 0 0 0 10 = 0
      · rw [if_pos (ho.mpr c)]
        exact ac_253 P (by omega)
      · rw [if_neg (fun q => c (ho.mp q)), if_pos hD0]
        by_cases g : dVal xs L D (0 : Int32) (2 : Int32) ≤ 0
        · rw [if_pos g]
          obtain ⟨X', f1, f2, f3⟩ := ch_cut hk hw c
          obtain ⟨u1, u2, u3⟩ := sCut_N (X 0)
          rw [f1]
          simp only [Option.bind_some, if_true]
          rw [if_pos hr.d.1.symm]
          refine ⟨X', _, D + 1, Q, t, T, rfl, ⟨f3, n1, by rw [f2]; exact wm_cut hw, by rw [f2]; exact hr.cut h6, ⟨?_, ?_, ?_⟩, ?_⟩, by omega, by omega, by omega, by omega⟩
          · rw [f2, u2, wr_y _ _ _ _ _ (by omega), wr_s]
          · rw [f2, u3, wr_s]
          · rw [f2, wr_y _ _ _ _ _ (by omega), wr_y _ _ _ _ _ (by omega), wr_s]
            unfold sSt
            rw [if_pos u1]
          · rw [f2, sCut_y (by omega) (by omega) (by omega)]; exact em
        · rw [if_neg g]
          exact ac_253 P (by omega)
    · rw [if_neg (show ¬ nI 7 = 5 by decide), if_neg (show ¬ nI 7 = 6 by decide), if_pos (show nI 7 = 7 from rfl)]
      exact ac_331 P hkn (by omega) (by omega)
    · rw [if_neg (show ¬ nI 8 = 5 by decide), if_neg (show ¬ nI 8 = 6 by decide), if_neg (show ¬ nI 8 = 7 by decide), if_pos (show nI 8 = 8 from rfl)]
      exact ac_331 P hkn (by omega) (by omega)
    · rw [if_neg (show ¬ nI 9 = 5 by decide), if_neg (show ¬ nI 9 = 6 by decide), if_neg (show ¬ nI 9 = 7 by decide), if_neg (show ¬ nI 9 = 8 by decide), if_pos (show nI 9 = 9 from rfl), if_pos hD0, eh', hq_emp hr hkn hs'.2.2.2.2.2.2.1]
      simp only [Option.bind_some]
      by_cases e : X 0 6 k 0 = 0
      · rw [decide_eq_true e, b2_t, if_neg (show ¬ (1 : Int32) = 0 by decide)]
        by_cases c : Z 2 0 1 = nI k
        · rw [if_pos c, if_pos hkl]
          exact ac_623 P hkn h2 (Or.inl (by rw [← hr.d.1]; exact c)) (by omega)
        · rw [if_neg c, ch_spoilN hk hw hkn ⟨(pu_le 0 hh (by omega) (by omega)).mpr (by omega), (pu_le hh 2 (by omega) (by omega)).mpr h2⟩ (by rw [← hr.d.1]; exact c) e]
          simp only [Option.bind_some, if_true]
          rw [if_pos (show 0 < 3 ∧ 3 ≤ 3 by decide), if_pos (show nI 3 = 3 from rfl)]
          exact P.same (by omega)
      · rw [decide_eq_false e, b2_f, if_pos rfl, if_pos hkl]
        exact ac_623 P hkn h2 (Or.inr e) (by omega)
    · have gp : rng (dVal xs L D (0 : Int32) (15 : Int32)) 0 15 := dv_rng xs L D 0 15 (by omega) (by omega)
      have gr : rng (dVal xs L (D + 1) (0 : Int32) (7 : Int32)) 0 7 := dv_rng xs L (D + 1) 0 7 (by omega) (by omega)
      rw [if_neg (show ¬ nI 10 = 5 by decide), if_neg (show ¬ nI 10 = 6 by decide), if_neg (show ¬ nI 10 = 7 by decide), if_neg (show ¬ nI 10 = 8 by decide), if_neg (show ¬ nI 10 = 9 by decide), if_pos (show nI 10 = 10 from rfl), if_pos hD0, if_pos (show D + 1 < 1000000 by omega), hq_emp hr hkn hs'.2.2.2.2.2.2.1]
      simp only [Option.bind_some]
      generalize dVal xs L D (0 : Int32) (15 : Int32) = p at *
      generalize dVal xs L (D + 1) (0 : Int32) (7 : Int32) = r at *
      have i1 : (0 : Int32) ≤ p ∧ p ≤ 15 := rng_in (a := 0) (b := 15) gp (by omega)
      have i2 : (0 : Int32) ≤ r ∧ r ≤ 7 := rng_in (a := 0) (b := 7) gr (by omega)
      by_cases e : X 0 6 k 0 = 0
      · rw [decide_eq_true e, b2_t, if_neg (show ¬ (1 : Int32) = 0 by decide), ch_markN hk hw hkn i1 i2 e]
        simp only [Option.bind_some, if_true]
        rw [if_pos (show 0 < 3 ∧ 3 ≤ 3 by decide), if_pos (show nI 3 = 3 from rfl)]
        exact P.same (by omega)
      · rw [decide_eq_false e, b2_f, if_pos rfl, if_pos hkl, ch_mark16 hk hw hkn]
        simp only [Option.bind_some, if_true]
        obtain ⟨X', f1, f2, f3⟩ := ch_mark hk hw hkn i1 i2 e
        rw [if_pos (show 0 < 3 ∧ 3 ≤ 3 by decide), if_pos (show nI 3 = 3 from rfl), f1]
        simp only [Option.bind_some, if_true]
        rw [if_pos (hr.sl hkn (i := 2) (by omega) (by omega)).symm]
        have k0 : ∀ i, wr (wr (X 0) 5 k 2 p) 5 k 3 r 0 0 i = X 0 0 0 i := fun i => by rw [wr_y _ _ _ _ _ (by omega), wr_y _ _ _ _ _ (by omega)]
        have z0 : ∀ i, wr (wr Z 5 k 2 p) 5 k 3 r 0 0 i = Z 0 0 i := fun i => by rw [wr_y _ _ _ _ _ (by omega), wr_y _ _ _ _ _ (by omega)]
        refine ⟨X', _, D + 1 + 1, Q, t, T, rfl, ⟨f3, n1, by rw [f2]; exact wm_mark hw hkn e gp gr, by rw [f2]; exact (hr.w5 k 2 p).w5 k 3 r, ⟨?_, ?_, ?_⟩, ?_⟩, by omega, by omega, by omega, by omega⟩
        · rw [f2, k0, z0]; exact s1
        · rw [f2, k0, z0]; exact s2
        · rw [f2, z0, s3]
          unfold sSt
          rw [k0, k0]
        · rw [f2, wr_y _ _ _ _ _ (by omega), wr_y _ _ _ _ _ (by omega)]; exact em
    · obtain ⟨q, q2, q5, eq⟩ := dv_in xs L D 2 5 (by omega) (by omega)
      have eq' : dVal xs L D (2 : Int32) (5 : Int32) = nI q := eq
      rw [if_neg (show ¬ nI 11 = 5 by decide), if_neg (show ¬ nI 11 = 6 by decide), if_neg (show ¬ nI 11 = 7 by decide), if_neg (show ¬ nI 11 = 8 by decide), if_neg (show ¬ nI 11 = 9 by decide), if_neg (show ¬ nI 11 = 10 by decide), if_pos hD0, eq']
      have fin := ac_903 (B := B) (L := L) (xs := xs) (D := D + 1) (Dm := Dm) P q2 q5 (by omega) (by omega)
      have hc : q = 2 ∨ q = 3 ∨ q = 4 ∨ q = 5 := by omega
      rcases hc with rfl | rfl | rfl | rfl
      · rw [if_pos (show nI 2 = 2 from rfl)]; exact fin
      · rw [if_neg (show ¬ nI 3 = 2 by decide), if_pos (show nI 3 = 3 from rfl)]; exact fin
      · rw [if_neg (show ¬ nI 4 = 2 by decide), if_neg (show ¬ nI 4 = 3 by decide), if_pos (show nI 4 = 4 from rfl)]; exact fin
      · rw [if_neg (show ¬ nI 5 = 2 by decide), if_neg (show ¬ nI 5 = 3 by decide), if_neg (show ¬ nI 5 = 4 by decide)]; exact fin
  · rw [if_neg (show ¬ (5 : Int32) ≤ nI w from fun z => c5 ((pu_le 5 w (by omega) (by omega)).mp z)), if_pos hD0]
    by_cases g : dVal xs L D (0 : Int32) (2 : Int32) = 0
    · rw [if_pos g]
      exact ac_128 P hB hB2 hQ ht (by omega) (Or.inl rfl) (by omega)
    · rw [if_neg g]
      exact ac_128 P hB hB2 hQ ht (by omega) (Or.inr rfl) (by omega)
/-- one act -/
theorem act_ok {B L n Q t T D : Nat} {xs : Nat → Int32} {X : bsX} {Z : pY} (P : AI n Q t T X Z) (hB : T + 120 ≤ B) (hB2 : B ≤ 90000) (hQ : Q < 800000) (ht : t + 60 ≤ 9999) (hD : D + 8 < 1000000) : AO n Q t T (D + 8) (hL_act xs L B X Z D) := by
  have ho := P.off
  obtain ⟨hk, n1, hw, hr, hs, em⟩ := id P
  have h6 := hw.hn
  have hl := hr.pn h6
  obtain ⟨w, _, w11, ew⟩ := dv_in xs L D 0 11 (by omega) (by omega)
  have ew' : dVal xs L D (0 : Int32) (11 : Int32) = nI w := ew
  obtain ⟨k, _, kn, ek⟩ := dv_in xs L (D + 1) 0 (n - 1) (by omega) (by omega)
  have es : nI n - (1 : Int32) = nI (n - 1) := pu_sub n 1 n1
  have ek' : dVal xs L (D + 1) (0 : Int32) (nI (n - 1)) = nI k := ek
  have hz : ¬ nI (n - 1) - (0 : Int32) + 1 = 0 := by
    rw [Int32.sub_zero, pu_succ]
    exact fun z => by have := (pu_eq (n - 1 + 1) 0 (by omega) (by omega)).mp z; omega
  unfold hL_act
  rw [if_pos (show D < 1000000 by omega), hl, es, if_pos hz, if_pos (show D + 1 < 1000000 by omega), ek', if_pos (pz_in (show k < n by omega) h6), ew', pu_ix k (by omega)]
  by_cases c0 : nI w = 0
  · rw [if_pos c0]
    exact ac_56 P (by omega) hB2 (by omega) (by omega)
  · rw [if_neg c0]
    by_cases c1 : Z 0 0 10 = 0
    · rw [if_pos c1]
      by_cases c4 : (4 : Int32) ≤ nI w
      · rw [if_pos c4]
        exact ac_105 P w11 (by omega) hB hB2 hQ ht (by omega) (by omega)
      · rw [if_neg c4]
        exact ac_56 P (by omega) hB2 (by omega) (by omega)
    · rw [if_neg c1]
      exact ac_105 P w11 (by omega) hB hB2 hQ ht (by omega) (by omega)
