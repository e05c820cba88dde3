/-! THE LAW'S ACT -/
def AI (n Q t T : Nat) (X : bsX) (Z : pY) : Prop := AK X ∧ 1 ≤ n ∧ wm Q n t (X 0) ∧ rl n (X 0) Z ∧ rs (X 0) Z ∧ X 0 3 0 4 = nI T
def AO (n Q t T Dm : Nat) (z : Option (Int32 × bsX × pY × Nat)) : Prop := ∃ X' Z' D' Q' t' T', z = some (1, X', Z', D') ∧ AI n Q' t' T' X' Z' ∧ D' ≤ Dm ∧ Q' ≤ Q + 120 ∧ t' ≤ t + 60 ∧ T' ≤ T + 120
theorem AI.same {n Q t T Dm D : Nat} {X : bsX} {Z : pY} (P : AI n Q t T X Z) (hd : D ≤ Dm) : AO n Q t T Dm (some (1, X, Z, D)) :=
  ⟨X, Z, D, Q, t, T, rfl, P, hd, by omega, by omega, by omega⟩
theorem AI.off {n Q t T : Nat} {X : bsX} {Z : pY} (P : AI n Q t T X Z) : Z 0 0 10 = 0 ↔ X 0 0 0 10 = 0 := by
  obtain ⟨hk, n1, hw, hr, ⟨s1, s2, s3⟩, em⟩ := P
  rw [s3]
  exact hw.st.2.2
theorem ac_56 {B L n Q t T D Dm : Nat} {xs : Nat → Int32} {X : bsX} {Z : pY} (P : AI n Q t T X Z) (hB : T ≤ B) (hB2 : B ≤ 90000) (hQ : Q < 900000) (hd : D ≤ Dm) : AO n Q t T Dm (hL_act_56 xs L B X Z D) := by
  have ho := P.off
  obtain ⟨hk, n1, hw, hr, hs, em⟩ := id P
  unfold hL_act_56
  by_cases c : X 0 0 0 10 = 0
  · rw [if_pos (ho.mpr c)]
    obtain ⟨Z', e, r1, r2⟩ := hq_boot (B := B) (c := 0) (X := X) (wm_boot0 hw) hr em hB hB2
    rw [e]
    simp only [Option.bind_some, if_true]
    obtain ⟨X', f1, f2, f3⟩ := ch_power hk hw (by omega) c
    rw [f1]
    simp only [Option.bind_some, if_true]
    rw [if_pos r2.1.symm]
    refine ⟨X', Z', D, Q + 1, t, T + 1, rfl, ⟨f3, n1, ?_, ?_, ?_, ?_⟩, hd, by omega, by omega, by omega⟩
    · rw [f2]; exact wm_boots (wm_boot0 hw) ⟨0, by omega, by omega, rfl⟩ (by omega)
    · rw [f2]; exact r1
    · rw [f2]; exact r2
    · rw [f2, sBoots_tot, em, pu_succ]
  · rw [if_neg (fun q => c (ho.mp q)), ch_powerN hk c]
    simp only [Option.bind_some, if_true]
    rw [if_pos (show 0 < 3 ∧ 3 ≤ 3 by decide), if_pos (show nI 3 = 3 from rfl)]
    exact P.same hd
theorem ac_128 {B L n Q t T D Dm : Nat} {xs : Nat → Int32} {X : bsX} {Z : pY} {y2 : Int32} (P : AI n Q t T X Z) (hB : T + 120 ≤ B) (hB2 : B ≤ 90000) (hQ : Q < 800000) (ht : t + 60 ≤ 9999) (hD : D < 1000000) (hy : y2 = nI 60 ∨ y2 = nI 6) (hd : D + 1 ≤ Dm) : AO n Q t T Dm (hL_act_128 xs L B (Z 11 0 12) 1 y2 X Z D) := by
  obtain ⟨hk, n1, hw, hr, hs, em⟩ := P
  obtain ⟨m, m1, m2, ed⟩ : ∃ m, 1 ≤ m ∧ m ≤ 60 ∧ dVal xs L D 1 y2 = nI m := by
    rcases hy with rfl | rfl
    · exact dv_in xs L D 1 60 (by omega) (by omega)
    · obtain ⟨m, a, b, c⟩ := dv_in xs L D 1 6 (by omega) (by omega)
      exact ⟨m, a, by omega, c⟩
  have hz : ¬ y2 - 1 + 1 = 0 := by rcases hy with rfl | rfl <;> decide
  unfold hL_act_128
  rw [if_pos hz, if_pos hD, ed]
  obtain ⟨X', f1, f2, f3⟩ := ch_tick hk hw m1 (by omega) (by omega) (by omega)
  rw [f1]
  simp only [Option.bind_some, if_true]
  obtain ⟨Z', m', g1, g2, g3, g4, g5⟩ := hq_ticks (B := B) (m0 := m) (X := X') hB2 m 0 61 Q t T (X 0) Z (by omega) (by omega) (by omega) (by omega) hw hr hs em (by omega)
  have g0 : hX11_ticks B (nI m) X' Z = some (0, X', Z') := g1
  rw [g0]
  simp only [Option.bind_some, if_true]
  rw [if_pos (by rw [g2.tot, hr.tot])]
  exact ⟨X', Z', D + 1, Q + 2 * m, t + m, m', rfl, ⟨f3, n1, by rw [f2]; exact wm_ticks m Q t (X 0) (by omega) hw, by rw [f2]; exact g2, by rw [f2]; exact g3, by rw [f2]; exact g4⟩, hd, by omega, by omega, by omega⟩
theorem ac_253 {B L n Q t T D Dm : Nat} {xs : Nat → Int32} {X : bsX} {Z : pY} (P : AI n Q t T X Z) (hd : D ≤ Dm) : AO n Q t T Dm (hL_act_253 xs L B X Z D) := by
  unfold hL_act_253
  rw [ch_ahead P.1]
  simp only [Option.bind_some, if_true]
  rw [if_pos (show 0 < 3 ∧ 3 ≤ 3 by decide), if_pos (show nI 3 = 3 from rfl)]
  exact P.same hd
-- begin
theorem ac_376 {B L n Q t T D Dm k : Nat} {xs : Nat → Int32} {X : bsX} {Z : pY} {a b y : Int32} (P : AI n Q t T X Z) (hkn : k < n) (hD : D < 1000000) (hd : D + 1 ≤ Dm) (ga : rng a 0 40) (gb : rng b 1 9) (gy : rng y 0 12) :
    AO n Q t T Dm (hL_act_376 xs L B (nI k) k (upd (upd (fun _ => (0 : Int32)) 0 a) 1 b) 2 y X Z D) := by
  have ho := P.off
  obtain ⟨hk, n1, hw, hr, hs, em⟩ := id P
  have h6 := hw.hn
  obtain ⟨s1, s2, s3⟩ := hs
  have gm := dv_rng xs L D 1 9 (by omega) (by omega)
  have gm2 : rng (dVal xs L D (1 : Int32) (9 : Int32)) 1 9 := gm
  unfold hL_act_376 hL_act_419
  rw [if_pos (show bsIn (2 : Int32) 5 by decide), if_pos hD]
  generalize dVal xs L D (1 : Int32) (9 : Int32) = m at *
  generalize hF : upd (upd (upd (upd (upd (fun _ => (0 : Int32)) 0 a) 1 b) (bsIx 2) y) 3 (0 : Int32)) 4 (0 : Int32) = F
  have b2' : bsIx (2 : Int32) = 2 := by decide
  have F0 : F 0 = a := by rw [← hF]; simp [upd, b2']
  have F1 : F 1 = b := by rw [← hF]; simp [upd, b2']
  have F2 : F 2 = y := by rw [← hF]; simp [upd, b2']
  have F3 : F 3 = 0 := by rw [← hF]; simp [upd, b2']
  have F4 : F 4 = 0 := by rw [← hF]; simp [upd, b2']
  have q1 : (0 : Int32) ≤ a ∧ a ≤ 99 := rng_in (a := 0) (b := 99) (ga.le (by omega) (by omega)) (by omega)
  have q2 : (1 : Int32) ≤ b ∧ b ≤ 99 := rng_in (a := 1) (b := 99) (gb.le (by omega) (by omega)) (by omega)
  have q3 : (0 : Int32) ≤ y ∧ y ≤ 99 := rng_in (a := 0) (b := 99) (gy.le (by omega) (by omega)) (by omega)
  have q4 : (1 : Int32) ≤ m ∧ m ≤ 99 := rng_in (a := 1) (b := 99) (gm2.le (by omega) (by omega)) (by omega)
  rw [F0, F1, F2]
  have bad : (X 0 0 0 10 = 0 ∨ ¬ X 0 2 0 1 = -1 ∨ X 0 0 0 11 = nI k) → AO n Q t T Dm ((fX8_begin (nI k) a b y m X).bind fun r13 => if 0 < r13.1 ∧ r13.1 ≤ 3 then (if (nI r13.1) = (3 : Int32) then (some ((1 : Int32), r13.2.2, Z, (D + 1))) else (some ((0 : Int32), r13.2.2, Z, (D + 1)))) else none) := by
    intro hb
    rw [ch_beginN hk hw hkn q1 q2 q3 q4 hb]
    simp only [Option.bind_some, if_true]
    rw [if_pos (show 0 < 3 ∧ 3 ≤ 3 by decide), if_pos (show nI 3 = 3 from rfl)]
    exact P.same hd
  by_cases c1 : Z 0 0 10 = 0
  · rw [if_pos c1]
    exact bad (Or.inl (ho.mp c1))
  · rw [if_neg c1]
    by_cases c2 : 0 ≤ Z 2 0 1
    · rw [if_pos c2]
      refine bad (Or.inr (Or.inl fun q => ?_))
      rw [hr.d.1, q] at c2
      exact absurd c2 (by decide)
    · rw [if_neg c2]
      by_cases c3 : Z 0 0 11 = nI k
      · rw [if_pos c3]
        exact bad (Or.inr (Or.inr (by rw [← s1]; exact c3)))
      · rw [if_neg c3]
        have on : ¬ X 0 0 0 10 = 0 := fun q => c1 (ho.mpr q)
        have c3' : ¬ X 0 0 0 11 = nI k := by rw [← s1]; exact c3
        have hi : X 0 2 0 1 = -1 := by
          rcases hw.hor with q | ⟨q, _⟩
          · exact q
          · exact absurd (by rw [hr.d.1]; exact pu_nlt.mp q) c2
        rw [ch_begin100 hk hw hkn]
        simp only [Option.bind_some, if_true]
        rw [if_pos (show 0 < 3 ∧ 3 ≤ 3 by decide), if_pos (show nI 3 = 3 from rfl)]
        obtain ⟨X', f1, f2, f3⟩ := ch_begin hk hw hkn on c3' hi q1 q2 q3 q4
        have z1 : zCom F (wr (wr (zEmp k Z) 2 0 1 (nI k)) 2 0 2 m) 13 0 1 = a := by rw [← F0]; simp [zCom, wr_rd]
        have z2 : zCom F (wr (wr (zEmp k Z) 2 0 1 (nI k)) 2 0 2 m) 13 0 2 = b := by rw [← F1]; simp [zCom, wr_rd]
        have z3 : zCom F (wr (wr (zEmp k Z) 2 0 1 (nI k)) 2 0 2 m) 13 0 3 = y := by rw [← F2]; simp [zCom, wr_rd]
        have z0 : ∀ i, zCom F (wr (wr (zEmp k Z) 2 0 1 (nI k)) 2 0 2 m) 0 0 i = Z 0 0 i := fun i => by rw [zBeg_y (by omega) (by omega), zEmp_no (by omega) (by omega)]
        have y0 : ∀ i, sBeg k a b y m (X 0) 0 0 i = X 0 0 0 i := fun i => sBeg_0 (by decide) (by decide) (by decide)
        rw [z1, z2, z3, f1]
        simp only [Option.bind_some, if_true]
        rw [if_pos (by rw [z0, hr.num (i := 9) (by omega) (by omega)])]
        refine ⟨X', _, D + 1, Q, t, T, rfl, ⟨f3, n1, ?_, ?_, ⟨?_, ?_, ?_⟩, ?_⟩, hd, by omega, by omega, by omega⟩
        · rw [f2]; exact wm_beg hw hkn on c3' (ga.le (by omega) (by omega)) (gb.le (by omega) (by omega)) (gy.le (by omega) (by omega)) (gm2.le (by omega) (by omega))
        · rw [f2]; exact hr.beg h6 hkn F0 F1 F2 F3 F4
        · rw [f2, z0, y0]; exact s1
        · rw [f2, z0, y0]; exact s2
        · rw [f2, z0, s3]
          unfold sSt
          rw [y0, y0]
        · rw [f2, sBeg_0 (by decide) (by decide) (by decide)]; exact em
theorem ac_331 {B L n Q t T D Dm k : Nat} {xs : Nat → Int32} {X : bsX} {Z : pY} (P : AI n Q t T X Z) (hkn : k < n) (hD : D + 5 < 1000000) (hd : D + 5 ≤ Dm) : AO n Q t T Dm (hL_act_331 xs L B (nI k) k X Z D) := by
  unfold hL_act_331
  rw [if_pos (show D < 1000000 by omega), if_pos (show D + 1 < 1000000 by omega), if_pos (show D + 1 + 1 < 1000000 by omega)]
  have ga : rng (dVal xs L D (0 : Int32) (40 : Int32)) 0 40 := dv_rng xs L D 0 40 (by omega) (by omega)
  have gb : rng (dVal xs L (D + 1) (1 : Int32) (9 : Int32)) 1 9 := dv_rng xs L (D + 1) 1 9 (by omega) (by omega)
  have gy : rng (dVal xs L (D + 1 + 1 + 1) (0 : Int32) (12 : Int32)) 0 12 := dv_rng xs L (D + 1 + 1 + 1) 0 12 (by omega) (by omega)
  by_cases c : dVal xs L (D + 1 + 1) (0 : Int32) (1 : Int32) = 0
  · rw [if_pos c]
    exact ac_376 P hkn (by omega) (by omega) ga gb (rng.z 12)
  · rw [if_neg c, if_pos (show D + 1 + 1 + 1 < 1000000 by omega)]
    exact ac_376 P hkn (by omega) (by omega) ga gb gy
-- spoil
theorem ac_sp {k D : Nat} {v an A : Int32} {X X' : bsX} {Z2 : pY} (h3 : fX8_spoil (nI k) 3 X = some (3, 0, X)) (hs : fX8_spoil (nI k) v X = some (0, A, X')) (hA : A = an) :
    ((fX8_spoil (nI k) (3 : Int32) X).bind fun r => if 0 < r.1 ∧ r.1 ≤ 3 then (if (nI r.1) = (3 : Int32) then ((fX8_spoil (nI k) v r.2.2).bind fun r2 => if r2.1 = 0 then (if r2.2.1 = an then (some ((1 : Int32), r2.2.2, Z2, D)) else (some ((0 : Int32), r2.2.2, Z2, D))) else none) else (some ((0 : Int32), r.2.2, Z2, D))) else none) = some (1, X', Z2, D) := by
  rw [h3]
  simp only [Option.bind_some, if_true]
  rw [if_pos (show 0 < 3 ∧ 3 ≤ 3 by decide), if_pos (show nI 3 = 3 from rfl), hs]
  simp only [Option.bind_some, if_true]
  rw [if_pos hA]
theorem ac_623 {B L n Q t T D Dm k hh : Nat} {xs : Nat → Int32} {X : bsX} {Z : pY} (P : AI n Q t T X Z) (hkn : k < n) (hh2 : hh ≤ 2) (hp : X 0 2 0 1 = nI k ∨ ¬ X 0 6 k 0 = 0) (hd : D ≤ Dm) : AO n Q t T Dm (hL_act_623 xs L B (nI k) k (nI hh) X Z D) := by
  obtain ⟨hk, n1, hw, hr, hs, em⟩ := id P
  have h6 := hw.hn
  have hs' := hw.sl k (by omega)
  have d1 := hr.d.1
  have t3 := ch_spoil3 hk hw hkn
  have g1 : (0 : Int32) ≤ nI hh ∧ nI hh ≤ 2 := ⟨(pu_le 0 hh (by omega) (by omega)).mpr (by omega), (pu_le hh 2 (by omega) (by omega)).mpr hh2⟩
  have kY : ∀ (u : Nat) (v : Int32) (K i : Nat), K ≠ 6 → sSpo u v (X 0) K 0 i = X 0 K 0 i := fun u v K i a => by
    unfold sSpo; rw [wr_y _ _ _ _ _ (by omega), wr_y _ _ _ _ _ (by omega)]
  -- the two sides agree behind the change
  have fin : ∀ (u : Nat) (X' : bsX) (Z2 : pY), AK X' → X' 0 = sSpo u (nI hh) (X 0) → wm Q n t (sSpo u (nI hh) (X 0)) → rl n (sSpo u (nI hh) (X 0)) Z2 → (∀ i, Z2 0 0 i = Z 0 0 i) → AO n Q t T Dm (some (1, X', Z2, D)) := by
    intro u X' Z2 f3 f2 hw2 hr2 hz
    refine ⟨X', Z2, D, Q, t, T, rfl, ⟨f3, n1, by rw [f2]; exact hw2, by rw [f2]; exact hr2, ?_, by rw [f2, kY _ _ _ _ (by decide)]; exact em⟩, hd, by omega, by omega, by omega⟩
    refine ⟨?_, ?_, ?_⟩
    · rw [f2, hz, kY _ _ _ _ (by decide)]; exact hs.1
    · rw [f2, hz, kY _ _ _ _ (by decide)]; exact hs.2.1
    · rw [f2, hz, hs.2.2]
      unfold sSt
      rw [kY _ _ _ _ (by decide), kY _ _ _ _ (by decide)]
  have n01 : ¬ (0 : Int32) = 1 := by decide
  have n10 : ¬ (1 : Int32) = 0 := by decide
  have n21 : ¬ (2 : Int32) = 1 := by decide
  have n20 : ¬ (2 : Int32) = 0 := by decide
  have hc : hh = 0 ∨ hh = 1 ∨ hh = 2 := by omega
  unfold hL_act_623
  by_cases c : X 0 2 0 1 = nI k
  · have c' : Z 2 0 1 = nI k := by rw [d1]; exact c
    rw [if_pos c']
    have hne : ¬ X 0 2 0 1 = -1 := by rw [c]; exact pu_m1 k (by omega)
    obtain ⟨z4, z5⟩ : Z 13 0 4 = X 0 6 6 4 ∧ Z 13 0 5 = X 0 6 6 5 := ⟨(hr.d.2 hne).2 4 (by omega) (by omega), (hr.d.2 hne).2 5 (by omega) (by omega)⟩
    have hp6 : ¬ X 0 6 6 0 = 0 := by
      rcases hw.ins with q | ⟨z, _, _, _, _, q, _⟩
      · exact absurd q hne
      · rw [q]; decide
    obtain ⟨X', f1, f2, f3⟩ := ch_spoil (u := 6) hk hw hkn g1 (Or.inl ⟨c, rfl⟩) hp6 hw.pim.2.1 hw.pim.2.2
    have hw2 := wm_spo6 (v := nI hh) hw
    have fin6 := fun Z2 => fin 6 X' Z2 f3 f2 hw2
    rcases hc with rfl | rfl | rfl
    · obtain ⟨e1, e2⟩ := sSpo_0 (u := 6) (Y := X 0)
      rw [if_neg (show ¬ nI 0 = 1 by decide), if_pos (show nI 0 = 0 from rfl), ac_sp t3 f1 (by rw [show sSpoA 6 (nI 0) (X 0) = 1 + 2 * X 0 6 6 5 from e2, wr_s, wr_y _ _ _ _ _ (by omega), z5])]
      exact fin6 _ (by rw [show sSpo 6 (nI 0) (X 0) = wr (X 0) 6 6 4 1 from e1]; exact hr.w66 h6 1) (fun i => wr_y _ _ _ _ _ (by omega))
    · obtain ⟨e1, e2⟩ := sSpo_1 (u := 6) (Y := X 0)
      rw [if_pos (show nI 1 = 1 from rfl), if_neg (show ¬ nI 1 = 0 by decide), ac_sp t3 f1 (by rw [show sSpoA 6 (nI 1) (X 0) = X 0 6 6 4 + 2 * 1 from e2, wr_s, wr_y _ _ _ _ _ (by omega), z4])]
      exact fin6 _ (by rw [show sSpo 6 (nI 1) (X 0) = wr (X 0) 6 6 5 1 from e1]; exact hr.w66 h6 1) (fun i => wr_y _ _ _ _ _ (by omega))
    · obtain ⟨e1, e2⟩ := sSpo_2 (u := 6) (Y := X 0)
      rw [if_neg (show ¬ nI 2 = 1 by decide), if_neg (show ¬ nI 2 = 0 by decide), ac_sp t3 f1 (by rw [show sSpoA 6 (nI 2) (X 0) = 1 + 2 * 1 from e2, wr_s, wr_y _ _ _ _ _ (by omega), wr_s])]
      exact fin6 _ (by rw [show sSpo 6 (nI 2) (X 0) = wr (wr (X 0) 6 6 4 1) 6 6 5 1 from e1]; exact (hr.w66 h6 1).w66 h6 1) (fun i => by rw [wr_y _ _ _ _ _ (by omega), wr_y _ _ _ _ _ (by omega)])
  · have c' : ¬ Z 2 0 1 = nI k := by rw [d1]; exact c
    rw [if_neg c']
    have hpk : ¬ X 0 6 k 0 = 0 := hp.resolve_left c
    have z4 := hr.im hkn hpk (i := 4) (by omega) (by omega)
    have z5 := hr.im hkn hpk (i := 5) (by omega) (by omega)
    obtain ⟨X', f1, f2, f3⟩ := ch_spoil (u := k) hk hw hkn g1 (Or.inr ⟨c, rfl⟩) hpk hs'.2.1 hs'.2.2.1
    have hw2 := wm_spo (v := nI hh) hw hkn hpk
    have fink := fun Z2 => fin k X' Z2 f3 f2 hw2
    rcases hc with rfl | rfl | rfl
    · obtain ⟨e1, e2⟩ := sSpo_0 (u := k) (Y := X 0)
      rw [if_neg (show ¬ nI 0 = 1 by decide), if_pos (show nI 0 = 0 from rfl), ac_sp t3 f1 (by rw [show sSpoA k (nI 0) (X 0) = 1 + 2 * X 0 6 k 5 from e2, wr_s, wr_y _ _ _ _ _ (by omega), z5])]
      exact fink _ (by rw [show sSpo k (nI 0) (X 0) = wr (X 0) 6 k 4 1 from e1]; exact hr.w6 h6 1 hkn (by omega)) (fun i => wr_y _ _ _ _ _ (by omega))
    · obtain ⟨e1, e2⟩ := sSpo_1 (u := k) (Y := X 0)
      rw [if_pos (show nI 1 = 1 from rfl), if_neg (show ¬ nI 1 = 0 by decide), ac_sp t3 f1 (by rw [show sSpoA k (nI 1) (X 0) = X 0 6 k 4 + 2 * 1 from e2, wr_s, wr_y _ _ _ _ _ (by omega), z4])]
      exact fink _ (by rw [show sSpo k (nI 1) (X 0) = wr (X 0) 6 k 5 1 from e1]; exact hr.w6 h6 1 hkn (by omega)) (fun i => wr_y _ _ _ _ _ (by omega))
    · obtain ⟨e1, e2⟩ := sSpo_2 (u := k) (Y := X 0)
      rw [if_neg (show ¬ nI 2 = 1 by decide), if_neg (show ¬ nI 2 = 0 by decide), ac_sp t3 f1 (by rw [show sSpoA k (nI 2) (X 0) = 1 + 2 * 1 from e2, wr_s, wr_y _ _ _ _ _ (by omega), wr_s])]
      exact fink _ (by rw [show sSpo k (nI 2) (X 0) = wr (wr (X 0) 6 k 4 1) 6 k 5 1 from e1]; exact (hr.w6 h6 1 hkn (by omega)).w6 h6 1 hkn (by omega)) (fun i => by rw [wr_y _ _ _ _ _ (by omega), wr_y _ _ _ _ _ (by omega)])
