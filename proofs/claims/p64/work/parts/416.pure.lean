/-! isLike -/
def PI (Q n t : Nat) (X : bsX) (Z : pY) : Prop := X 13 0 0 7 = 1 ∧ 1 ≤ n ∧ wm Q n t (X 0) ∧ rl n (X 0) Z ∧ rs (X 0) Z
theorem il_423 {Q n t : Nat} {X : bsX} {Z : pY} (P : PI Q n t X Z) {k4 : Int32 → bsX → pY → Option (Int32 × bsX × pY)} {m4 : Nat} (h13 : m4 < 13) : ∀ (d w m : Nat), w + d = 4 → d < m → hL_isLike_423 k4 m (nI m4) (nI w) X Z = k4 (nI m4 + 1) X Z := by
  obtain ⟨h7, n1, hw, hr, hs⟩ := P
  obtain ⟨T, hT, e1, e2, e3, e4⟩ := hr.f
  have hlm : lm Z = T := hr.pm hT e1
  intro d
  induction d with
  | zero =>
    intro w m hk hm
    obtain ⟨m, rfl⟩ : ∃ q, m = q + 1 := ⟨m - 1, by omega⟩
    obtain rfl : w = 4 := by omega
    rw [hL_isLike_423, if_pos (by decide)]
  | succ d ih =>
    intro w m hk hm
    obtain ⟨m, rfl⟩ : ∃ q, m = q + 1 := ⟨m - 1, by omega⟩
    have hw4 : ¬ (4 : Int32) ≤ nI w := by rw [show (4 : Int32) = nI 4 from rfl, pu_le 4 w (by omega) (by omega)]; omega
    rw [hL_isLike_423, if_neg hw4, q8_boot h7 e1 hT (by omega) (by omega)]
    simp only [Option.bind_some, if_true]
    have hi := ih (w + 1) m (by omega) (by omega)
    unfold hL_isLike_475 hL_isLike_477
    rw [pu_succ]
    by_cases c1 : (12 : Int32) ≤ nI m4
    · have c2 : 12 ≤ m4 := (pu_le 12 m4 (by omega) (by omega)).mp c1
      rw [if_pos c1, if_neg (show ¬ m4 < min T 12 by omega), if_pos rfl]
      exact hi
    · have c2 : ¬ 12 ≤ m4 := fun q => c1 ((pu_le 12 m4 (by omega) (by omega)).mpr q)
      rw [if_neg c1, hlm]
      by_cases c3 : nI T ≤ nI m4
      · have c4 : T ≤ m4 := (pu_le T m4 (by omega) (by omega)).mp c3
        rw [if_pos c3, if_neg (show ¬ m4 < min T 12 by omega), if_pos rfl]
        exact hi
      · have c4 : ¬ T ≤ m4 := fun q => c3 ((pu_le T m4 (by omega) (by omega)).mpr q)
        have hs2 : nI T - (1 : Int32) - nI m4 = nI (T - 1 - m4) := by rw [show (1 : Int32) = nI 1 from rfl, pu_sub _ _ (by omega), pu_sub _ _ (by omega)]
        rw [if_neg c3, hs2, if_pos ((pu_in _ T (by omega)).mpr (by omega)), if_pos ((pu_in w 4 (by omega)).mpr (by omega)), pu_ix _ (by omega), pu_ix w (by omega), if_pos (show m4 < min T 12 by omega)]
        obtain ⟨a0, a1, a2, a3⟩ := e4 (T - 1 - m4) (by omega) (by omega)
        have hv : X 0 (7 + w) 0 ((T - 1 - m4) % 12) = Z 12 (T - 1 - m4) w := by
          have : w = 0 ∨ w = 1 ∨ w = 2 ∨ w = 3 := by omega
          rcases this with rfl | rfl | rfl | rfl
          · exact a0.symm
          · exact a1.symm
          · exact a2.symm
          · exact a3.symm
        rw [if_pos hv]
        exact hi
theorem il_413 {Q n t : Nat} {X : bsX} {Z : pY} (P : PI Q n t X Z) : ∀ (d k m : Nat), k + d = 13 → d < m → hL_isLike_413 m (nI k) X Z = some (1, X, Z) := by
  obtain ⟨h7, n1, hw, hr, hs⟩ := id P
  have hl := hr.pn hw.hn
  intro d
  induction d with
  | zero =>
    intro k m hk hm
    obtain ⟨m, rfl⟩ : ∃ q, m = q + 1 := ⟨m - 1, by omega⟩
    obtain rfl : k = 13 := by omega
    rw [hL_isLike_413, if_pos (by decide), (q8_bootX (T := 0) h7).1]
    simp only [Option.bind_some, if_true, hl]
    rw [(q8_slX h7 hw n1).1]
    simp only [Option.bind_some]
    rw [if_pos (by decide), if_pos (by decide), (q8_imX h7 hw n1).1]
    simp only [Option.bind_some]
    rw [if_pos (by decide), if_pos (by decide)]
  | succ d ih =>
    intro k m hk hm
    obtain ⟨m, rfl⟩ : ∃ q, m = q + 1 := ⟨m - 1, by omega⟩
    have hk13 : ¬ (13 : Int32) ≤ nI k := by rw [show (13 : Int32) = nI 13 from rfl, pu_le 13 k (by omega) (by omega)]; omega
    rw [hL_isLike_413, if_neg hk13, show (0 : Int32) = nI 0 from rfl, il_423 P (show k < 13 by omega) 4 0 5 (by omega) (by omega), pu_succ]
    exact ih (k + 1) m (by omega) (by omega)
theorem il_372 {Q n t : Nat} {X : bsX} {Z : pY} (P : PI Q n t X Z) {f : Nat → Int32} (hf : ¬ X 0 2 0 1 = -1 → ∀ w, w < 4 → f w = insV w (X 0)) : ∀ (d w m : Nat), w + d = 4 → d < m → hL_isLike_372 m f (nI w) X Z = some (1, X, Z) := by
  obtain ⟨h7, n1, hw, hr, hs⟩ := id P
  have d1 := hr.d.1
  intro d
  induction d with
  | zero =>
    intro w m hk hm
    obtain ⟨m, rfl⟩ : ∃ q, m = q + 1 := ⟨m - 1, by omega⟩
    obtain rfl : w = 4 := by omega
    rw [hL_isLike_372, if_pos (by decide)]
    exact il_413 P 13 0 14 (by omega) (by omega)
  | succ d ih =>
    intro w m hk hm
    obtain ⟨m, rfl⟩ : ∃ q, m = q + 1 := ⟨m - 1, by omega⟩
    have hw4 : ¬ (4 : Int32) ≤ nI w := by rw [show (4 : Int32) = nI 4 from rfl, pu_le 4 w (by omega) (by omega)]; omega
    rw [hL_isLike_372, if_neg hw4, q8_ins h7 hw (by omega)]
    simp only [Option.bind_some, if_true, d1]
    have hi := ih (w + 1) m (by omega) (by omega)
    unfold hL_isLike_399
    rw [pu_succ]
    rcases hw.hor with q | ⟨q1, q2⟩
    · rw [q, if_neg (by decide), if_pos rfl, if_pos rfl]
      exact hi
    · rw [if_pos (pu_nlt.mp q1), if_neg q2, if_pos ((pu_in w 4 (by omega)).mpr (by omega)), pu_ix w (by omega), if_pos (hf q2 w (by omega)).symm]
      exact hi
theorem il_288 {Q n t k : Nat} {X : bsX} {Z : pY} (P : PI Q n t X Z) (hk : k < n) {k1 : Int32 → bsX → pY → Option (Int32 × bsX × pY)} : ∀ (d w m : Nat), w + d = 5 → d < m → hL_isLike_288 k1 m (nI k) k (nI w) X Z = k1 (nI k + 1) X Z := by
  obtain ⟨h7, n1, hw, hr, hs⟩ := id P
  have h6 := hw.hn
  have hl := hr.pn h6
  intro d
  induction d with
  | zero =>
    intro w m hw5 hm
    obtain ⟨m, rfl⟩ : ∃ q, m = q + 1 := ⟨m - 1, by omega⟩
    obtain rfl : w = 5 := by omega
    rw [hL_isLike_288, if_pos (by decide)]
  | succ d ih =>
    intro w m hw5 hm
    obtain ⟨m, rfl⟩ : ∃ q, m = q + 1 := ⟨m - 1, by omega⟩
    have h5 : ¬ (5 : Int32) ≤ nI w := by rw [show (5 : Int32) = nI 5 from rfl, pu_le 5 w (by omega) (by omega)]; omega
    have hi := ih (w + 1) m (by omega) (by omega)
    rw [hL_isLike_288, if_neg h5, q8_im h7 hw hk (by omega)]
    simp only [Option.bind_some, if_true]
    rw [hq_emp hr hk (hw.sl k (by omega)).2.2.2.2.2.2.1]
    simp only [Option.bind_some, hl, hk, if_true]
    unfold hL_isLike_321
    rw [pu_succ]
    by_cases q : X 0 6 k 0 = 0
    · rw [decide_eq_true q, b2_t, if_neg (by decide), if_pos q, if_pos rfl]
      exact hi
    · rw [decide_eq_false q, b2_f, if_pos rfl, if_neg q, if_pos ((pu_in w 5 (by omega)).mpr (by omega)), pu_ix w (by omega), hr.im hk q (i := w + 1) (by omega) (by omega), if_pos rfl]
      exact hi
theorem il_255 {Q n t k : Nat} {X : bsX} {Z : pY} (P : PI Q n t X Z) (hk : k < n) {k1 : Int32 → bsX → pY → Option (Int32 × bsX × pY)} {f : Nat → Int32} (hf : ∀ w, w < 9 → f w = slV k w (X 0)) : ∀ (d w m : Nat), w + d = 9 → d < m → hL_isLike_255 k1 m (nI k) k f (nI w) X Z = k1 (nI k + 1) X Z := by
  obtain ⟨h7, n1, hw, hr, hs⟩ := id P
  intro d
  induction d with
  | zero =>
    intro w m hw9 hm
    obtain ⟨m, rfl⟩ : ∃ q, m = q + 1 := ⟨m - 1, by omega⟩
    obtain rfl : w = 9 := by omega
    rw [hL_isLike_255, if_pos (by decide)]
    exact il_288 P hk 5 0 6 (by omega) (by omega)
  | succ d ih =>
    intro w m hw9 hm
    obtain ⟨m, rfl⟩ : ∃ q, m = q + 1 := ⟨m - 1, by omega⟩
    have h9 : ¬ (9 : Int32) ≤ nI w := by rw [show (9 : Int32) = nI 9 from rfl, pu_le 9 w (by omega) (by omega)]; omega
    rw [hL_isLike_255, if_neg h9, q8_sl h7 hw hk (by omega)]
    simp only [Option.bind_some, if_true]
    rw [if_pos ((pu_in w 9 (by omega)).mpr (by omega)), pu_ix w (by omega), if_pos (hf w (by omega)).symm, pu_succ]
    exact ih (w + 1) m (by omega) (by omega)
theorem il_130 {Q n t : Nat} {X : bsX} {Z : pY} (P : PI Q n t X Z) : ∀ (d k m : Nat), k + d = n → d < m → hL_isLike_130 m (nI k) X Z = some (1, X, Z) := by
  obtain ⟨h7, n1, hw, hr, hs⟩ := id P
  have h6 := hw.hn
  have hl := hr.pn h6
  intro d
  induction d with
  | zero =>
    intro k m hk hm
    obtain ⟨m, rfl⟩ : ∃ q, m = q + 1 := ⟨m - 1, by omega⟩
    obtain rfl : k = n := by omega
    rw [hL_isLike_130, hl, if_pos (pz_nn k)]
    refine il_372 P ?_ 4 0 5 (by omega) (by omega)
    intro q w hw4
    have h3 : X 0 2 0 3 = 3 := by
      rcases hw.ins with e | ⟨z, _, _, _, e, _⟩
      · exact absurd e q
      · exact e
    obtain ⟨d2, d3⟩ := hr.d.2 q
    have : w = 0 ∨ w = 1 ∨ w = 2 ∨ w = 3 := by omega
    rcases this with rfl | rfl | rfl | rfl
    · simp [upd, insV, hr.d.1]
    · simp [upd, insV, d2]
    · simp [upd, insV, d3 1 (by omega) (by omega)]
    · simp [upd, insV, h3]
  | succ d ih =>
    intro k m hk hm
    obtain ⟨m, rfl⟩ : ∃ q, m = q + 1 := ⟨m - 1, by omega⟩
    have hkn : k < n := by omega
    have hs' := hw.sl k (by omega)
    rw [hL_isLike_130, hl, if_neg (pz_le hkn h6), if_pos (pz_in hkn h6), pu_ix k (by omega), hq_emp hr hkn hs'.2.2.2.2.2.2.1]
    simp only [Option.bind_some, hl, hkn, if_true]
    have fin : ∀ (e g b : Int32), e = X 0 6 k 0 → g = X 0 5 k 4 → b = b2 (sBoot (X 0) k) → hL_isLike_222 (hL_isLike_130 m) (nI k) k (upd (upd (upd (upd (upd (fun _ => (0 : Int32)) 0 e) 1 (Z 5 k 2)) 2 (Z 5 k 3)) 3 g) 4 (Z 5 k 5)) 5 b X Z = some (1, X, Z) := by
      intro e g b he hg hb
      unfold hL_isLike_222
      rw [if_pos (by decide)]
      refine (il_255 P hkn (k1 := hL_isLike_130 m) ?_ 9 0 10 (by omega) (by omega)).trans ?_
      · intro w hw9
        have : w = 0 ∨ w = 1 ∨ w = 2 ∨ w = 3 ∨ w = 4 ∨ w = 5 ∨ w = 6 ∨ w = 7 ∨ w = 8 := by omega
        have b5 : bsIx (5 : Int32) = 5 := by decide
        rcases this with rfl | rfl | rfl | rfl | rfl | rfl | rfl | rfl | rfl
        · simp [upd, slV, he, b5]
        · simp [upd, slV, b5, hr.sl hkn (i := 2) (by omega) (by omega)]
        · simp [upd, slV, b5, hr.sl hkn (i := 3) (by omega) (by omega)]
        · simp [upd, slV, hg, b5]
        · simp [upd, slV, b5, hr.sl hkn (i := 5) (by omega) (by omega)]
        · simp [upd, slV, hb, b5]
        · simp [upd, slV, b5, hr.sl hkn (i := 6) (by omega) (by omega)]
        · simp [upd, slV, b5, hr.sl hkn (i := 7) (by omega) (by omega)]
        · simp [upd, slV, b5, hr.sl hkn (i := 8) (by omega) (by omega)]
      · rw [pu_succ]
        exact ih (k + 1) m (by omega) (by omega)
    have fin2 : ∀ (e g : Int32), e = X 0 6 k 0 → g = X 0 5 k 4 → hL_isLike_198 (hL_isLike_130 m) (nI k) k (upd (upd (upd (fun _ => (0 : Int32)) 0 e) 1 (Z 5 k 2)) 2 (Z 5 k 3)) 3 g X Z = some (1, X, Z) := by
      intro e g he hg
      unfold hL_isLike_198
      rw [if_pos (by decide), show bsIx (3 : Int32) = 3 from by decide, hq_why hw hr hkn]
      simp only [Option.bind_some, hl, hkn, if_true]
      have hbt := hq_boot0 (Q := Q) hw (show k < 6 by omega)
      by_cases c : sWhy (X 0) k = 0
      · rw [if_pos c]
        exact fin e g 1 he hg (by rw [hbt.mp c]; rfl)
      · rw [if_neg c]
        have : sBoot (X 0) k = false := by
          cases hB : sBoot (X 0) k
          · rfl
          · exact absurd (hbt.mpr hB) c
        exact fin e g 0 he hg (by rw [this]; rfl)
    have fin3 : ∀ (e : Int32), e = X 0 6 k 0 → hL_isLike_166 (hL_isLike_130 m) (nI k) k (fun _ => (0 : Int32)) 0 e X Z = some (1, X, Z) := by
      intro e he
      unfold hL_isLike_166
      rw [if_pos (by decide), show bsIx (0 : Int32) = 0 from by decide]
      have h4 := hr.sl hkn (i := 4) (by omega) (by omega)
      by_cases c : Z 5 k 4 = 0
      · rw [if_pos c]
        exact fin2 e 0 he (by rw [← h4]; exact c.symm)
      · rw [if_neg c]
        rw [h4] at c
        exact fin2 e 1 he (hs'.2.2.2.1.resolve_left c).symm
    by_cases q : X 0 6 k 0 = 0
    · rw [decide_eq_true q, b2_t, if_neg (by decide)]
      exact fin3 0 q.symm
    · rw [decide_eq_false q, b2_f, if_pos rfl]
      exact fin3 1 (hs'.1.resolve_left q).symm
theorem il_ok {Q n t : Nat} {X : bsX} {Z : pY} (P : PI Q n t X Z) : hL_isLike X Z = some (1, X, Z) := by
  obtain ⟨h7, n1, hw, hr, hs⟩ := id P
  have h6 := hw.hn
  have hl := hr.pn h6
  obtain ⟨T, hT, e1, e2, e3, e4⟩ := hr.f
  obtain ⟨k9, k10, k11⟩ := hq_count (X := X) hw hr
  obtain ⟨s1, s2, s3⟩ := hs
  unfold hL_isLike
  have key : ∀ (f : Nat → Int32), (∀ w, w < 9 → f w = cntV w (X 0)) → ∀ (d w m : Nat), w + d = 20 → d < m → hL_isLike_74 m f (nI w) X Z = some (1, X, Z) := by
    intro f hf d
    induction d with
    | zero =>
      intro w m hw20 hm
      obtain ⟨m, rfl⟩ : ∃ q, m = q + 1 := ⟨m - 1, by omega⟩
      obtain rfl : w = 20 := by omega
      rw [hL_isLike_74, if_pos (by decide)]
      exact il_130 P n 0 8 (by omega) (by omega)
    | succ d ih =>
      intro w m hw20 hm
      obtain ⟨m, rfl⟩ : ∃ q, m = q + 1 := ⟨m - 1, by omega⟩
      have hi := ih (w + 1) m (by omega) (by omega)
      have h20 : ¬ (20 : Int32) ≤ nI w := by rw [show (20 : Int32) = nI 20 from rfl, pu_le 20 w (by omega) (by omega)]; omega
      rw [hL_isLike_74, if_neg h20, q8_count h7 hw (by omega)]
      simp only [Option.bind_some, if_true]
      unfold hL_isLike_117
      rw [pu_succ]
      by_cases c9 : (9 : Int32) ≤ nI w
      · have d9 : 9 ≤ w := (pu_le 9 w (by omega) (by omega)).mp c9
        rw [if_pos c9]
        by_cases c12 : (12 : Int32) ≤ nI w
        · have d12 : 12 ≤ w := (pu_le 12 w (by omega) (by omega)).mp c12
          rw [if_pos c12, if_pos ((pu_in w 20 (by omega)).mpr (by omega)), pu_ix w (by omega)]
          have hv : cntV w (X 0) = Z 11 0 w := by
            have he := hr.e
            have : w = 12 ∨ w = 13 ∨ w = 14 ∨ w = 15 ∨ w = 16 ∨ w = 17 ∨ w = 18 ∨ w = 19 := by omega
            rcases this with rfl | rfl | rfl | rfl | rfl | rfl | rfl | rfl
            · show X 0 3 0 4 = _
              rw [e3]; exact e1
            · exact (he 0 (by omega)).symm
            · exact (he 1 (by omega)).symm
            · exact (he 2 (by omega)).symm
            · exact (he 3 (by omega)).symm
            · exact (he 4 (by omega)).symm
            · exact (he 5 (by omega)).symm
            · exact (he 6 (by omega)).symm
          rw [if_pos hv]
          exact hi
        · have d12 : ¬ 12 ≤ w := fun q => c12 ((pu_le 12 w (by omega) (by omega)).mpr q)
          rw [if_neg c12]
          have : w = 9 ∨ w = 10 ∨ w = 11 := by omega
          rcases this with rfl | rfl | rfl
          · rw [show hL_count (nI 9) X Z = _ from k9]
            simp only [Option.bind_some]
            rw [if_pos (show cntV 9 (X 0) = sCnt (sBoot (X 0)) from rfl)]
            exact hi
          · rw [show hL_count (nI 10) X Z = _ from k10]
            simp only [Option.bind_some]
            rw [if_pos (show cntV 10 (X 0) = sCnt (fun k => X 0 5 k 4 ≠ 0) from rfl)]
            exact hi
          · rw [show hL_count (nI 11) X Z = _ from k11]
            simp only [Option.bind_some]
            rw [if_pos (show cntV 11 (X 0) = sSum (fun k => X 0 5 k 3) from rfl)]
            exact hi
      · have d9 : ¬ 9 ≤ w := fun q => c9 ((pu_le 9 w (by omega) (by omega)).mpr q)
        rw [if_neg c9, if_pos ((pu_in w 9 (by omega)).mpr (by omega)), pu_ix w (by omega), if_pos (hf w (by omega)).symm]
        exact hi
  refine key _ ?_ 20 0 21 (by omega) (by omega)
  intro w hw9
  have : w = 0 ∨ w = 1 ∨ w = 2 ∨ w = 3 ∨ w = 4 ∨ w = 5 ∨ w = 6 ∨ w = 7 ∨ w = 8 := by omega
  rcases this with rfl | rfl | rfl | rfl | rfl | rfl | rfl | rfl | rfl
  · simp [upd, cntV, hl, hw.sz]
  · simp [upd, cntV, hr.num (i := 9) (by omega) (by omega)]
  · simp [upd, cntV, hr.num (i := 5) (by omega) (by omega)]
  · simp [upd, cntV, hr.num (i := 6) (by omega) (by omega)]
  · simp [upd, cntV, hr.num (i := 7) (by omega) (by omega)]
  · simp [upd, cntV, hr.num (i := 8) (by omega) (by omega)]
  · simp [upd, cntV, s3]
  · simp [upd, cntV, s1]
  · simp [upd, cntV, s2]
