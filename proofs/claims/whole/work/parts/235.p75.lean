theorem sim_load_ok : sim_load Inv := by
  intro j X a hj h
  have c10 : ¬ (1 : Int32) = 0 := by decide
  have n20 : ¬ (2 : Nat) = 0 := by decide
  have n30 : ¬ (3 : Nat) = 0 := by decide
  have z64 : (0 : Int64) = (0 : Int32).toInt64 := by decide
  obtain ⟨f, f1, f2, f3, f4, f5, f6⟩ := h.2.2.2.2.2.2.2.1
  have hbl := h.2.2.2.2.2.2.2.2
  have hth : bsWr X 14 0 0 0 (0 : Int32) = th X 0 := rfl
  have t7 : th X 0 14 0 0 7 = nI f := by unfold th bsWr; rw [if_neg (by omega)]; exact f3
  have bad : ¬ ((0 : Int32) ≤ a ∧ a ≤ nI f) → fX8_load a X = some (2, 0, X) → ∃ (r : bsXr) (q : Int32 × bsX), fX8_load a X = some r ∧ (r.1 = 0 ∨ r.1 = 2 ∨ r.1 = 3) ∧ fX9_load a r.2.2 = some q ∧ q.2 14 0 0 0 = (if r.1 = 2 then (1 : Int32) else (if r.1 = 3 then (2 : Int32) else (0 : Int32))) ∧ (r.1 = 0 → r.2.1 = q.1) ∧ Inv (j + 1) q.2 := by
    intro k1 k2
    refine ⟨(2, 0, X), (0, th X 1), k2, Or.inr (Or.inl rfl), ?_, th_rd X 1, fun q => absurd (show (2 : Nat) = 0 from q) n20, ((quiet.refl X).thr 1).inv h⟩
    show fX9_load a X = _
    unfold fX9_load fX9_load_25
    rw [hth, t7, z64, q9_in, Option.bind_some, decide_eq_false k1, b2_f, if_pos rfl]
    rw [q9_refuse (by decide), if_neg c10, Option.bind_some, if_neg c10]
  by_cases a0 : a < 0
  · refine bad (fun q => absurd q.1 (pu_nle.mpr a0)) ?_
    unfold fX8_load; rw [if_pos a0]
  · obtain ⟨n, hn, rfl⟩ := pu_of (pu_nlt.mp a0)
    by_cases hnf : n ≤ f
    · have hn6 : n ≤ 600 := by omega
      generalize hXb : bsWr (bsWr X 13 1 0 3 0) 13 1 0 4 (nI n) = Xb
      have xbg : ∀ g, g ≠ 13 → Xb g = X g := by intro g e; rw [← hXb]; funext b c d; unfold bsWr; rw [if_neg (by omega), if_neg (by omega)]
      have xb13 : ∀ K q i, ¬ (K = 1 ∧ q = 0 ∧ (i = 3 ∨ i = 4)) → Xb 13 K q i = X 13 K q i := by intro K q i e; rw [← hXb]; unfold bsWr; rw [if_neg (by omega), if_neg (by omega)]
      have xb3 : Xb 13 1 0 3 = 0 := by rw [← hXb]; simp [b2_t, b2_f, up_at, up_up, up_id, bsWr]
      have P : ∀ C : bsX, C 14 = X 14 → PJ Xb (Wof C n) (-1) (fX4_parse 1 (nI n) X) ((fX9_token (rst (Wof C n) 0 (Wof C n 14 0 0 12) (Wof C n 14 0 0 13) (Wof C n 14 0 0 14) 0 (-1) (Wof C n 14 0 0 18) (Wof C n 14 1 0))).bind fun r6 => fX9_reads r6) := by
        intro C hC
        have hPW : PW Xb (Wof C n) n := ⟨Wof_10, fun i hi => by rw [Wof_K (by decide) (by decide), hC, f6 i hi, xb13 _ _ _ (by omega)]⟩
        have hR : r160 (Wof C n 14 1 0) := by rw [Wof_K (by decide) (by decide), hC]; exact h.2.2.2.1
        rw [← hXb] at hPW ⊢
        exact parse_ex hn6 hbl hPW hR
      have LR := fun (C : bsX) (hC : C 14 = X 14) => load_r (C := C) hnf f1 (by rw [hC]; exact f3)
      have a9 := hbl
      rcases P X rfl with ⟨kd, ts, te, n1, Y, mk, m, te', ts', kr, nm, s1, _, hM, hn1⟩ | ⟨c, p, kd, q, r', mk, Y, te, ts, kr, nm, mr, R, k0, _, s1, _⟩
      · have hcp := qX3_copy (g := 0) (g2 := 1) (X := cst Xb kd ts te 0 (-1) mk Y) (by decide) (by rw [cY]; exact hM.1)
        rw [cY] at hcp
        have hal := sCopy_alike Y (cst Xb kd ts te 0 (-1) mk Y 0)
        generalize sCopy Y (cst Xb kd ts te 0 (-1) mk Y 0) = Z0 at hcp hal
        have hw0 := wm_alike hM.1 hal
        have hsz : Z0 0 0 4 = nI n1 := hw0.sz
        generalize hC : bsWr (bsWr (bsWr (bsWr (bsWr (up (cst Xb kd ts te 0 (-1) mk Y) 0 Z0) 13 0 0 7 1) 13 0 0 8 0) 13 0 0 9 0) 13 5 0 0 0) 13 5 0 1 0 = C
        have cgX : ∀ g, g ≠ 0 → g ≠ 1 → g ≠ 13 → C g = X g := by
          intro g e0 e1 e2
          rw [← hC]; funext b c d; unfold bsWr
          rw [if_neg (by omega), if_neg (by omega), if_neg (by omega), if_neg (by omega), if_neg (by omega), up_ne _ _ e0, cg e1 e2, xbg g e2]
        have c0 : C 0 = Z0 := by
          rw [← hC]; funext b c d; unfold bsWr
          rw [if_neg (by omega), if_neg (by omega), if_neg (by omega), if_neg (by omega), if_neg (by omega), up_at]
        have c13X : ∀ K q i, K ≠ 1 → K ≠ 7 → K ≠ 5 → ¬ (K = 0 ∧ q = 0 ∧ 7 ≤ i ∧ i ≤ 9) → C 13 K q i = X 13 K q i := by
          intro K q i e1 e7 e5 e0
          rw [← hC]; unfold bsWr
          rw [if_neg (by omega), if_neg (by omega), if_neg (by omega), if_neg (by omega), if_neg (by omega), up_ne _ _ (by decide)]
          unfold cst
          rw [if_neg (by omega), if_neg (by omega), if_neg (by omega), if_neg (by omega), if_neg (by omega), if_neg (by omega), if_neg (by omega), xb13 _ _ _ (by omega)]
        have c1_ : C 13 1 0 3 = 0 ∧ C 13 1 0 8 = 0 ∧ C 13 1 0 9 = -1 ∧ C 13 0 0 7 = 1 ∧ C 13 0 0 8 = 0 ∧ C 13 0 0 9 = 0 ∧ C 13 5 0 0 = 0 ∧ C 13 5 0 1 = 0 := by
          rw [← hC]
          refine ⟨?_, ?_, ?_, ?_, ?_, ?_, ?_, ?_⟩ <;> simp [b2_t, b2_f, up_at, up_up, up_id, bsWr, up, cst, xb3]
        obtain ⟨d3, d8, d9, e7, e8, e9, g0, g1⟩ := c1_
        have c14 : C 14 = X 14 := cgX 14 (by decide) (by decide) (by decide)
        have hcls : fX8_load (nI n) X = some (0, nI n1, C) := by
          unfold fX8_load fX8_forgetChanges
          rw [if_neg a0, f2, if_pos ((pu_le n f (by omega) hn).mpr hnf), s1, Option.bind_some, c8, if_pos rfl, hcp, Option.bind_some, Option.bind_some, load75, hC]
          congr 2
          rw [← hsz]
          simp [b2_t, b2_f, up_at, up_up, up_id, bsWr, up]
        rcases P C c14 with ⟨kd2', ts2, te2, n2, Y2, mk2, m2, te2', ts2', kr2, nm2, u1, u2, hM2, hn2⟩ | ⟨c, p, kd2', q2, r2', mk2, Y2, te2, ts2, kr2, nm2, mr2, R2, k0, _, u1, _⟩
        · have heq := Option.some.inj (s1.symm.trans u1)
          have hYY : Y2 = Y := by
            have := congrFun heq 1
            rw [cY, cY] at this
            exact this.symm
          subst hYY
          have hLR := LR C c14
          rw [u2, Option.bind_some] at hLR
          have q15 : ∀ v, bsWr (rst (Wof C n) te2' ts2' kr2 nm2 0 (-1) (nI m2) (enc Y2)) 14 0 0 8 v 14 0 0 15 = 0 := by intro v; unfold bsWr; rw [if_neg (by omega)]; exact r15
          have q15' : ∀ v w, bsWr (bsWr (rst (Wof C n) te2' ts2' kr2 nm2 0 (-1) (nI m2) (enc Y2)) 14 0 0 8 v) 14 0 0 9 w 14 0 0 15 = 0 := by intro v w; unfold bsWr; rw [if_neg (by omega), if_neg (by omega)]; exact r15
          have q00 : ∀ v w, bsWr (bsWr (rst (Wof C n) te2' ts2' kr2 nm2 0 (-1) (nI m2) (enc Y2)) 14 0 0 8 v) 14 0 0 9 w 14 0 0 0 = 0 := by
            intro v w; unfold bsWr; rw [if_neg (by omega), if_neg (by omega)]
            have : rst (Wof C n) te2' ts2' kr2 nm2 0 (-1) (nI m2) (enc Y2) 14 0 0 0 = Wof C n 14 0 0 0 := by simp [b2_t, b2_f, up_at, up_up, up_id, rst]
            rw [this]; exact Wof_00
          have qrow : ∀ v w, bsWr (bsWr (rst (Wof C n) te2' ts2' kr2 nm2 0 (-1) (nI m2) (enc Y2)) 14 0 0 8 v) 14 0 0 9 w 14 1 0 = enc Y2 := by
            intro v w; funext i; unfold bsWr; rw [if_neg (by omega), if_neg (by omega), rR]
          rw [r15, q15, if_pos rfl] at hLR
          unfold fX9_load_104 at hLR
          rw [q15', if_pos rfl] at hLR
          unfold fX9_load_120 at hLR
          rw [refuse_S (q00 _ _) (by decide), if_pos rfl, Option.bind_some, if_pos rfl, if_pos (show bsIn (0 : Int32) 2 by decide), if_pos (show bsIn (1 : Int32) 2 by decide), if_pos (show bsIn (0 : Int32) 160 by decide), show bsIx (0 : Int32) = 0 by decide, show bsIx (1 : Int32) = 1 by decide, nar_b0] at hLR
          generalize hZ : bsWr (bsWr (bsWr (bsWr (bsWr (bsWr (rst (Wof C n) te2' ts2' kr2 nm2 0 (-1) (nI m2) (enc Y2)) 14 0 0 8 0) 14 0 0 9 (-1)) 14 0 0 1 1) 14 0 0 4 0) 14 3 0 0 0) 14 3 0 1 0 = Z at hLR
          have zg : ∀ g, g ≠ 14 → Z g = C g := by
            intro g e; rw [← hZ]; funext b c d; unfold bsWr
            rw [if_neg (by omega), if_neg (by omega), if_neg (by omega), if_neg (by omega), if_neg (by omega), if_neg (by omega)]
            unfold rst
            rw [if_neg (by omega), if_neg (by omega), if_neg (by omega), if_neg (by omega), if_neg (by omega), if_neg (by omega), if_neg (by omega), if_neg (by omega), Wof_g e]
          have z1 : Z 14 1 0 = enc Y2 := by
            rw [← hZ]; funext i; unfold bsWr
            rw [if_neg (by omega), if_neg (by omega), if_neg (by omega), if_neg (by omega), if_neg (by omega), if_neg (by omega), rR]
          have zK : ∀ K, K ≠ 0 → K ≠ 1 → K ≠ 3 → K ≠ 5 → Z 14 K 0 = X 14 K 0 := by
            intro K k0 k1 k3 k5; rw [← c14, ← Wof_K (C := C) (n := n) k0 k5, ← hZ]; funext i; unfold bsWr
            rw [if_neg (by omega), if_neg (by omega), if_neg (by omega), if_neg (by omega), if_neg (by omega), if_neg (by omega)]
            unfold rst
            rw [if_neg (by omega), if_neg (by omega), if_neg (by omega), if_neg (by omega), if_neg (by omega), if_neg (by omega), if_neg (by omega), if_neg (by omega)]
          have z0_ : Z 14 0 0 0 = Wof C n 14 0 0 0 ∧ Z 14 0 0 1 = 1 ∧ Z 14 0 0 4 = 0 ∧ Z 14 0 0 7 = Wof C n 14 0 0 7 ∧ Z 14 0 0 8 = 0 ∧ Z 14 0 0 9 = -1 ∧ Z 14 0 0 20 = Wof C n 14 0 0 20 ∧ Z 14 3 0 0 = 0 ∧ Z 14 3 0 1 = 0 := by
            rw [← hZ]
            refine ⟨?_, ?_, ?_, ?_, ?_, ?_, ?_, ?_, ?_⟩ <;> simp [b2_t, b2_f, up_at, up_up, up_id, bsWr, rst]
          obtain ⟨y0, y1, y4, y7, y8, y9, y20, y30, y31⟩ := z0_
          have hans : Z 14 1 0 0 = nI n1 := by
            rw [z1, ← hsz, hal 0 0 4 (by unfold real; omega)]; rfl
          rw [hans] at hLR
          refine ⟨(0, nI n1, C), (nI n1, Z), hcls, Or.inl rfl, hLR, (y0.trans Wof_00), fun _ => rfl, ?_⟩
          show Inv (j + 1) Z
          obtain ⟨tl, t1, t2, t3, t4⟩ := h.2.2.2.2.2.2.1
          refine ⟨by rw [y1]; exact Or.inr rfl, by rw [zg 13 (by decide), e7, y1], fun _ => ?_, by rw [z1]; exact enc_160 Y2, ⟨0, 0, by omega, by omega, by rw [zg 13 (by decide), e8]; rfl, by rw [zg 13 (by decide), e9]; rfl, by rw [y4]; rfl, fun i hi => by omega⟩, ?_, ⟨tl, t1, by rw [zg 13 (by decide), c13X _ _ _ (by decide) (by decide) (by decide) (by omega)]; exact t2, by rw [y20, Wof_0 (by decide) (by decide) (by decide), c14]; exact t3, fun i hi => by rw [zg 13 (by decide), c13X _ _ _ (by decide) (by decide) (by decide) (by omega), zK 6 (by decide) (by decide) (by decide) (by decide)]; exact t4 i hi⟩, ⟨0, by omega, by rw [zg 13 (by decide), d3]; rfl, by rw [y7, Wof_7]; rfl, by rw [zg 13 (by decide), d8, y8], by rw [zg 13 (by decide), d9, y9], fun i hi => by rw [zg 13 (by decide), c13X _ _ _ (by decide) (by decide) (by decide) (by omega), zK 4 (by decide) (by decide) (by decide) (by decide)]; exact f6 i hi⟩, by rw [zg 12 (by decide), cgX 12 (by decide) (by decide) (by decide)]; exact a9⟩
          · rw [zg 0 (by decide), c0, z1]
            exact ⟨n1, 0, 0, hn1, hw0, (enc_alike hal).symm, by omega, by omega⟩
          · intro i hi
            have : i = 0 ∨ i = 1 := by omega
            rcases this with rfl | rfl
            · rw [y30, zg 13 (by decide), g0]; exact ⟨Or.inl rfl, rfl, fun z => absurd z (by decide)⟩
            · rw [y31, zg 13 (by decide), g1]; exact ⟨Or.inl rfl, rfl, fun z => absurd z (by decide)⟩
        · have heq := Option.some.inj (s1.symm.trans u1)
          have := congrFun (congrFun (congrFun (congrFun heq 13) 1) 0) 8
          rw [c8, c8] at this
          exact absurd this.symm k0
      · generalize hC : cst Xb kd q r' c p mk Y = C at s1
        have cgX : ∀ g, g ≠ 1 → g ≠ 13 → C g = X g := by
          intro g e1 e2; rw [← hC, cg e1 e2, xbg g e2]
        have c14 : C 14 = X 14 := cgX 14 (by decide) (by decide)
        have c13X : ∀ K q i, K ≠ 1 → K ≠ 7 → C 13 K q i = X 13 K q i := by
          intro K q i e1 e7
          rw [← hC]
          unfold cst
          rw [if_neg (by omega), if_neg (by omega), if_neg (by omega), if_neg (by omega), if_neg (by omega), if_neg (by omega), if_neg (by omega), xb13 _ _ _ (by omega)]
        have d3 : C 13 1 0 3 = 0 := by rw [← hC]; simp [b2_t, b2_f, up_at, up_up, up_id, cst, xb3]
        have d8 : C 13 1 0 8 = c := by rw [← hC]; exact c8
        have d9 : C 13 1 0 9 = p := by rw [← hC]; exact c9
        have hcls : fX8_load (nI n) X = some (3, 0, C) := by
          unfold fX8_load
          rw [if_neg a0, f2, if_pos ((pu_le n f (by omega) hn).mpr hnf), s1, Option.bind_some, d8, if_neg k0]
        rcases P C c14 with ⟨kd2', ts2, te2, n2, Y2, mk2, m2, te2', ts2', kr2, nm2, u1, u2, hM2, hn2⟩ | ⟨c2, p2, kd2', q2, r2', mk2, Y2, te2, ts2, kr2, nm2, mr2, R2, k02, hR2, u1, u2⟩
        · have heq := Option.some.inj (s1.symm.trans u1)
          have := congrFun (congrFun (congrFun (congrFun heq 13) 1) 0) 8
          rw [d8, c8] at this
          exact absurd this k0
        · have heq := Option.some.inj (s1.symm.trans u1)
          have hc2 : c2 = c := by
            have := congrFun (congrFun (congrFun (congrFun heq 13) 1) 0) 8
            rw [d8, c8] at this
            exact this.symm
          have hp2 : p2 = p := by
            have := congrFun (congrFun (congrFun (congrFun heq 13) 1) 0) 9
            rw [d9, c9] at this
            exact this.symm
          subst hc2
          subst hp2
          have hLR := LR C c14
          rw [u2, Option.bind_some] at hLR
          have q15 : ∀ v, bsWr (rst (Wof C n) te2 ts2 kr2 nm2 c2 p2 mr2 R2) 14 0 0 8 v 14 0 0 15 = c2 := by intro v; unfold bsWr; rw [if_neg (by omega)]; exact r15
          have q16 : ∀ v, bsWr (rst (Wof C n) te2 ts2 kr2 nm2 c2 p2 mr2 R2) 14 0 0 8 v 14 0 0 16 = p2 := by intro v; unfold bsWr; rw [if_neg (by omega)]; exact r16
          have q15' : ∀ v w, bsWr (bsWr (rst (Wof C n) te2 ts2 kr2 nm2 c2 p2 mr2 R2) 14 0 0 8 v) 14 0 0 9 w 14 0 0 15 = c2 := by intro v w; unfold bsWr; rw [if_neg (by omega), if_neg (by omega)]; exact r15
          have q00 : ∀ v w, bsWr (bsWr (rst (Wof C n) te2 ts2 kr2 nm2 c2 p2 mr2 R2) 14 0 0 8 v) 14 0 0 9 w 14 0 0 0 = 0 := by
            intro v w; unfold bsWr; rw [if_neg (by omega), if_neg (by omega)]
            have : rst (Wof C n) te2 ts2 kr2 nm2 c2 p2 mr2 R2 14 0 0 0 = Wof C n 14 0 0 0 := by simp [b2_t, b2_f, up_at, up_up, up_id, rst]
            rw [this]; exact Wof_00
          rw [r15, q15, if_neg k0, q16] at hLR
          unfold fX9_load_104 at hLR
          rw [q15', if_neg k0] at hLR
          unfold fX9_load_120 at hLR
          generalize hS : bsWr (bsWr (rst (Wof C n) te2 ts2 kr2 nm2 c2 p2 mr2 R2) 14 0 0 8 c2) 14 0 0 9 p2 = S at hLR
          have s00 : S 14 0 0 0 = 0 := by rw [← hS]; exact q00 _ _
          have hcp : fX9_copies 5 160 1 160 (0 : Int32) (0 : Int32) (th S 2) = some (ar (th S 2) 1 (cpR (th S 2 14 5 0) (th S 2 14 1 0) 0 0 160)) := q9_copies (Ka := 5) (na := 160) (Kb := 1) (nb := 160) (fr := 0) (to := 0) (X := th S 2) (by decide) (by decide) (by decide) (by decide) (by decide)
          rw [refuse_S s00 (by decide), if_neg c10, Option.bind_some, if_neg c10, hcp, Option.bind_some] at hLR
          have s5 : ∀ i, i < 160 → S 14 5 0 i = X 14 1 0 i := by
            intro i hi
            rw [← c14, ← Wof_5 (C := C) (n := n) hi, ← hS]
            unfold bsWr
            rw [if_neg (by omega), if_neg (by omega)]
            unfold rst
            rw [if_neg (by omega), if_neg (by omega), if_neg (by omega), if_neg (by omega), if_neg (by omega), if_neg (by omega), if_neg (by omega), if_neg (by omega)]
          have s1' : S 14 1 0 = R2 := by
            rw [← hS]; funext i; unfold bsWr; rw [if_neg (by omega), if_neg (by omega), rR]
          have hrow : cpR (th S 2 14 5 0) (th S 2 14 1 0) 0 0 160 = X 14 1 0 := by
            funext d
            unfold cpR
            rw [th_K _ _ (by decide), th_K _ _ (by decide), s1']
            by_cases hd : d < 160
            · have e : 0 + (d - 0) = d := by omega
              rw [if_pos (by omega), e, s5 d hd]
            · rw [if_neg (by omega), hR2 d (by omega), h.2.2.2.1 d (by omega)]
          rw [hrow] at hLR
          generalize hZ : ar (th S 2) 1 (X 14 1 0) = Z at hLR
          have sg : ∀ g, g ≠ 14 → S g = C g := by
            intro g e; rw [← hS]; funext b c d; unfold bsWr
            rw [if_neg (by omega), if_neg (by omega)]
            unfold rst
            rw [if_neg (by omega), if_neg (by omega), if_neg (by omega), if_neg (by omega), if_neg (by omega), if_neg (by omega), if_neg (by omega), if_neg (by omega), Wof_g e]
          have zg : ∀ g, g ≠ 14 → Z g = C g := by
            intro g e; rw [← hZ]; funext b c d; rw [ar_val, if_neg (by omega), th_g _ _ e, sg g e]
          have z1 : Z 14 1 0 = X 14 1 0 := by rw [← hZ]; funext i; exact ar_rd _ _ _ _
          have zK : ∀ K, K ≠ 0 → K ≠ 1 → K ≠ 5 → Z 14 K 0 = X 14 K 0 := by
            intro K k0 k1 k5; rw [← c14, ← Wof_K (C := C) (n := n) k0 k5, ← hZ]; funext i
            rw [ar_val, if_neg (by omega), th_K _ _ k0, ← hS]; unfold bsWr
            rw [if_neg (by omega), if_neg (by omega)]
            unfold rst
            rw [if_neg (by omega), if_neg (by omega), if_neg (by omega), if_neg (by omega), if_neg (by omega), if_neg (by omega), if_neg (by omega), if_neg (by omega)]
          have zi : ∀ i, i ≠ 0 → Z 14 0 0 i = S 14 0 0 i := by
            intro i e; rw [← hZ, ar_val, if_neg (by omega)]; unfold th bsWr; rw [if_neg (by omega)]
          have s0_ : S 14 0 0 1 = Wof C n 14 0 0 1 ∧ S 14 0 0 4 = Wof C n 14 0 0 4 ∧ S 14 0 0 7 = Wof C n 14 0 0 7 ∧ S 14 0 0 8 = c2 ∧ S 14 0 0 9 = p2 ∧ S 14 0 0 20 = Wof C n 14 0 0 20 := by
            rw [← hS]
            refine ⟨?_, ?_, ?_, ?_, ?_, ?_⟩ <;> simp [b2_t, b2_f, up_at, up_up, up_id, bsWr, rst]
          obtain ⟨y1, y4, y7, y8, y9, y20⟩ := s0_
          have z00 : Z 14 0 0 0 = 2 := by rw [← hZ, ar_val, if_neg (by omega)]; exact th_rd S 2
          refine ⟨(3, 0, C), (0, Z), hcls, Or.inr (Or.inr rfl), hLR, z00, fun q => absurd (show (3 : Nat) = 0 from q) n30, ?_⟩
          show Inv (j + 1) Z
          obtain ⟨a1, a2, a3, a4, ⟨np, ck, u1, u2, u3, u4, u5, u6⟩, a6, ⟨tl, t1, t2, t3, t4⟩, _, _⟩ := h
          have w1 : Z 14 0 0 1 = X 14 0 0 1 := by rw [zi 1 (by decide), y1, Wof_0 (by decide) (by decide) (by decide), c14]
          refine ⟨by rw [w1]; exact a1, by rw [zg 13 (by decide), c13X _ _ _ (by decide) (by decide), w1]; exact a2, ?_, by rw [z1]; exact a4, ⟨np, ck, u1, u2, by rw [zg 13 (by decide), c13X _ _ _ (by decide) (by decide)]; exact u3, by rw [zg 13 (by decide), c13X _ _ _ (by decide) (by decide)]; exact u4, by rw [zi 4 (by decide), y4, Wof_0 (by decide) (by decide) (by decide), c14]; exact u5, ?_⟩, ?_, ⟨tl, t1, by rw [zg 13 (by decide), c13X _ _ _ (by decide) (by decide)]; exact t2, by rw [zi 20 (by decide), y20, Wof_0 (by decide) (by decide) (by decide), c14]; exact t3, fun i hi => by rw [zg 13 (by decide), c13X _ _ _ (by decide) (by decide), zK 6 (by decide) (by decide) (by decide)]; exact t4 i hi⟩, ⟨0, by omega, by rw [zg 13 (by decide), d3]; rfl, by rw [zi 7 (by decide), y7, Wof_7]; rfl, by rw [zg 13 (by decide), d8, zi 8 (by decide), y8], by rw [zg 13 (by decide), d9, zi 9 (by decide), y9], fun i hi => by rw [zg 13 (by decide), c13X _ _ _ (by decide) (by decide), zK 4 (by decide) (by decide) (by decide)]; exact f6 i hi⟩, by rw [zg 12 (by decide), cgX 12 (by decide) (by decide)]; exact a9⟩
          · intro e
            rw [w1] at e
            rw [zg 0 (by decide), cgX 0 (by decide) (by decide), z1]
            exact (a3 e).up
          · intro i hi
            have : stRow Z i = stRow X i := by unfold stRow; rw [zK 2 (by decide) (by decide) (by decide)]
            rw [zg _ (by omega), cgX _ (by omega) (by omega), this]
            exact (u6 i hi).up
          · refine InvS.keep a6 ?_
            intro i hi
            refine ⟨by rw [zK 3 (by decide) (by decide) (by decide)], by rw [zg 13 (by decide), c13X _ _ _ (by decide) (by decide)], by rw [zg _ (by omega), cgX _ (by omega) (by omega)], by unfold stRow; rw [zK 2 (by decide) (by decide) (by decide)]⟩
    · refine bad (fun q => hnf ((pu_le n f (by omega) hn).mp q.2)) ?_
      unfold fX8_load
      rw [if_neg a0, f2, if_neg (fun q => hnf ((pu_le n f (by omega) hn).mp q))]
