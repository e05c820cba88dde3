/-! finds -/
theorem bit_tw : ∀ i, i < 6 → ∀ g, g < 64 → g < 2 ^ i → nI g + ((1 : Int32) <<< (nI i &&& 31)) = nI g ||| ((1 : Int32) <<< (nI i &&& 31)) ∧ nI g ||| ((1 : Int32) <<< (nI i &&& 31)) = nI (g + 2 ^ i) := by decide +kernel
abbrev fk16 : Type := Int32 → Int32 → Int32 → Int32 → Int32 → Int32 → bsX → pY → Option (Int32 × bsX × pY)
theorem fn_47 {Q n t k : Nat} {X : bsX} {Z : pY} (P : PI Q n t X Z) (hk : k < n) {k16 : fk16} {x2 x3 x4 x5 x6 B0 : Int32} (hB0 : bsMax 0 (nI (lm Z) - 12) = B0) : ∀ (d i m : Nat) (x9 : Int32) (g : Nat), i + d = n → d < m → g < 2 ^ i →
    ∃ x9', (sBoot (X 0) k = true → x9' = itF (sPlF (X 0) k) d i x9) ∧ hL_finds_47 k16 m x2 x3 x4 x5 x6 (nI k) k x9 (nI g) 0 (nI i) X Z = hL_finds_161 k16 14 x2 x3 x4 x5 x6 (nI k) k x9' (itF (fTwin (X 0) k) d i (nI g)) 0 B0 X Z := by
  obtain ⟨h7, n1, hw, hr, hs⟩ := id P
  have h6 := hw.hn
  have hl := hr.pn h6
  intro d
  induction d with
  | zero =>
    intro i m x9 g hi hm hg
    obtain ⟨m, rfl⟩ : ∃ q, m = q + 1 := ⟨m - 1, by omega⟩
    obtain rfl : i = n := by omega
    exact ⟨x9, fun _ => rfl, by rw [hL_finds_47, hl, if_pos (pz_nn i), hB0]; rfl⟩
  | succ d ih =>
    intro i m x9 g hi hm hg
    obtain ⟨m, rfl⟩ : ∃ q, m = q + 1 := ⟨m - 1, by omega⟩
    have hin : i < n := by omega
    have hi6 : i < 6 := by omega
    have hg64 : g < 64 := by
      have : 2 ^ i ≤ 2 ^ 6 := Nat.pow_le_pow_right (by omega) (by omega)
      omega
    obtain ⟨bt1, bt2⟩ := bit_tw i hi6 g hg64 hg
    have hsi := hw.sl i hi6
    have hsk := hw.sl k (by omega)
    have hpow : 2 ^ (i + 1) = 2 ^ i + 2 ^ i := by rw [Nat.pow_succ]; omega
    rw [hL_finds_47, hl, if_neg (pz_le hin h6), hq_why hw hr hin]
    simp only [Option.bind_some]
    have ci := pu_eq i k (by omega) (by omega)
    -- what is added to the twins
    have tw : ∀ (y0 y1 : Int32), ∃ g', g' < 2 ^ (i + 1) ∧ nI g' = fTwin (X 0) k i (nI g) ∧ hL_finds_88 k16 (hL_finds_47 k16 m) x2 x3 x4 x5 x6 (nI k) k (nI g) 0 (nI i) y0 y1 X Z = hL_finds_47 k16 m x2 x3 x4 x5 x6 (nI k) k (y0 + y1) (nI g') 0 (nI (i + 1)) X Z := by
      intro y0 y1
      have none_ : (¬ (nI i ≠ nI k ∧ X 0 6 k 0 ≠ 0 ∧ X 0 6 i 0 ≠ 0 ∧ X 0 6 i 1 = X 0 6 k 1)) → ∃ g', g' < 2 ^ (i + 1) ∧ nI g' = fTwin (X 0) k i (nI g) ∧ hL_finds_138 k16 (hL_finds_47 k16 m) x2 x3 x4 x5 x6 (nI k) k (y0 + y1) 0 (nI i) (nI g) 0 X Z = hL_finds_47 k16 m x2 x3 x4 x5 x6 (nI k) k (y0 + y1) (nI g') 0 (nI (i + 1)) X Z := by
        intro hc
        refine ⟨g, by omega, ?_, ?_⟩
        · unfold fTwin; rw [if_neg hc]
        · unfold hL_finds_138; rw [Int32.add_zero, pu_succ]
      unfold hL_finds_88 hL_finds_137
      by_cases c1 : nI i = nI k
      · rw [if_pos c1]
        exact none_ (fun z => z.1 c1)
      · rw [if_neg c1, hq_emp hr hk hsk.2.2.2.2.2.2.1]
        simp only [Option.bind_some]
        by_cases c2 : X 0 6 k 0 = 0
        · rw [decide_eq_true c2, b2_t, if_neg (by decide), hl, if_pos hk]
          exact none_ (fun z => z.2.1 c2)
        · rw [decide_eq_false c2, b2_f, if_pos rfl, hl, if_pos (pz_in hin h6), if_pos hk, pu_ix i (by omega), hr.im hk c2 (i := 1) (by omega) (by omega)]
          have hiff : Z 6 i 1 = X 0 6 k 1 ↔ X 0 6 i 0 ≠ 0 ∧ X 0 6 i 1 = X 0 6 k 1 := by
            rcases hr.em hin hsi.2.2.2.2.2.2.1 with ⟨a, b, c⟩ | ⟨_, b, c, e⟩
            · constructor
              · intro z
                obtain ⟨v, _, hv, ev⟩ := hsk.2.2.2.2.2.2.1
                rw [b, ev] at z
                exact absurd z.symm (pu_m1 v (by omega))
              · intro z; exact absurd a z.1
            · rw [e]
              exact ⟨fun z => ⟨b, z⟩, fun z => z.2⟩
          by_cases c3 : Z 6 i 1 = X 0 6 k 1
          · rw [if_pos c3]
            have c4 := hiff.mp c3
            refine ⟨g + 2 ^ i, by omega, ?_, ?_⟩
            · unfold fTwin; rw [if_pos ⟨c1, c2, c4.1, c4.2⟩]; exact bt2.symm
            · unfold hL_finds_138; rw [bt1, bt2, pu_succ]
          · rw [if_neg c3]
            exact none_ (fun z => c3 (hiff.mpr ⟨z.2.2.1, z.2.2.2⟩))
    have hbt := hq_boot0 (Q := Q) hw hi6
    have step : ∃ y1 : Int32, (sBoot (X 0) k = true → x9 + y1 = sPlF (X 0) k i x9) ∧ (if sWhy (X 0) i = 0 then ((hX11_worth (nI i) X Z).bind fun r112 => (hX11_worth (nI k) r112.2.1 r112.2.2).bind fun r115 => if r112.1 ≤ r115.1 then (if k < ln r115.2.2 then (hL_finds_87 k16 (hL_finds_47 k16 m) x2 x3 x4 x5 x6 (nI k) k (nI g) 0 (nI i) x9 r115.2.1 r115.2.2) else none) else (if k < ln r115.2.2 then (hL_finds_88 k16 (hL_finds_47 k16 m) x2 x3 x4 x5 x6 (nI k) k (nI g) 0 (nI i) x9 (1 : Int32) r115.2.1 r115.2.2) else none)) else (if k < n then (hL_finds_87 k16 (hL_finds_47 k16 m) x2 x3 x4 x5 x6 (nI k) k (nI g) 0 (nI i) x9 X Z) else none)) = hL_finds_88 k16 (hL_finds_47 k16 m) x2 x3 x4 x5 x6 (nI k) k (nI g) 0 (nI i) x9 y1 X Z := by
      by_cases c : sWhy (X 0) i = 0
      · have hB := hbt.mp c
        have hie : ¬ X 0 6 i 0 = 0 := by
          intro z
          unfold sWhy at c
          rw [if_pos z] at c
          exact absurd c (by decide)
        rw [if_pos c, hq_worth hw hr hin hie]
        simp only [Option.bind_some]
        by_cases e : X 0 6 k 0 = 0
        · obtain ⟨v, ev⟩ := hq_worth0 (X := X) hw hr hk
          rw [ev]
          simp only [Option.bind_some, hl, hk, if_true]
          have nb : ¬ sBoot (X 0) k = true := fun z => by
            unfold sBoot sBootF at z
            simp [e] at z
          by_cases c2 : nI (sW (X 0) i) ≤ v
          · rw [if_pos c2]; exact ⟨0, fun z => absurd z nb, rfl⟩
          · rw [if_neg c2]; exact ⟨1, fun z => absurd z nb, rfl⟩
        · rw [hq_worth hw hr hk e]
          simp only [Option.bind_some, hl, hk, if_true]
          have l1 := sW_lt (Q := Q) hw hi6
          have l2 := sW_lt (Q := Q) hw (show k < 6 by omega)
          have ha := sW_ah (Q := Q) hw hi6 (show k < 6 by omega)
          have c1 := pu_le (sW (X 0) i) (sW (X 0) k) (by omega) (by omega)
          by_cases c2 : nI (sW (X 0) i) ≤ nI (sW (X 0) k)
          · rw [if_pos c2]
            refine ⟨0, fun _ => ?_, rfl⟩
            unfold sPlF
            rw [if_neg (fun z => by have := ha.mpr z.2; have := c1.mp c2; omega), Int32.add_zero]
          · rw [if_neg c2]
            refine ⟨1, fun _ => ?_, rfl⟩
            unfold sPlF
            rw [if_pos ⟨hB, ha.mp (Nat.lt_of_not_le fun z => c2 (c1.mpr z))⟩]
      · rw [if_neg c, if_pos hk]
        refine ⟨0, fun _ => ?_, rfl⟩
        unfold sPlF
        rw [if_neg (fun z => c (hbt.mpr z.1)), Int32.add_zero]
    obtain ⟨y1, s1, s2⟩ := step
    rw [show (if k < ln Z then (hL_finds_87 k16 (hL_finds_47 k16 m) x2 x3 x4 x5 x6 (nI k) k (nI g) 0 (nI i) x9 X Z) else none) = (if k < n then (hL_finds_87 k16 (hL_finds_47 k16 m) x2 x3 x4 x5 x6 (nI k) k (nI g) 0 (nI i) x9 X Z) else none) by rw [hl]]
    rw [s2]
    obtain ⟨g', t1, t2, t3⟩ := tw x9 y1
    rw [t3]
    obtain ⟨x9', u1, u2⟩ := ih (i + 1) m (x9 + y1) g' (by omega) (by omega) t1
    refine ⟨x9', fun hB => ?_, ?_⟩
    · rw [u1 hB, s1 hB]; rfl
    · rw [u2, t2]; rfl
theorem fn_161 {Q n t k T : Nat} {X : bsX} {Z : pY} (P : PI Q n t X Z) (hk : k < n) {k16 : fk16} {x2 x3 x4 x5 x6 x9 x10 : Int32} (hT : T < 1000000) (eT : X 0 3 0 4 = nI T) : ∀ (d r m c : Nat), r + d = min T 12 → d < m → ∃ m', hL_finds_161 k16 m x2 x3 x4 x5 x6 (nI k) k x9 x10 (nI c) (nI (T - min T 12 + r)) X Z = hL_finds_161 k16 (m' + 1) x2 x3 x4 x5 x6 (nI k) k x9 x10 (nI (c + sumN (fun r => decide (X 0 10 0 ((T - min T 12 + r) % 12) = nI k)) d r)) (nI T) X Z := by
  obtain ⟨h7, n1, hw, hr, hs⟩ := id P
  obtain ⟨T2, hT2, e1, e2, e3, e4⟩ := hr.f
  have hTT : T2 = T := (pu_eq T2 T (by omega) (by omega)).mp (by rw [← e1, ← eT])
  subst hTT
  have hlm : lm Z = T2 := hr.pm hT e1
  intro d
  induction d with
  | zero =>
    intro r m c hd hm
    obtain ⟨m, rfl⟩ : ∃ q, m = q + 1 := ⟨m - 1, by omega⟩
    refine ⟨m, ?_⟩
    rw [show T2 - min T2 12 + r = T2 by omega]
    rfl
  | succ d ih =>
    intro r m c hd hm
    obtain ⟨m, rfl⟩ : ∃ q, m = q + 1 := ⟨m - 1, by omega⟩
    have hj : T2 - min T2 12 + r < T2 := by omega
    obtain ⟨_, _, _, a3⟩ := e4 (T2 - min T2 12 + r) hj (by omega)
    rw [hL_finds_161, hlm, if_neg (by rw [pu_le T2 _ (by omega) (by omega)]; omega), if_pos ((pu_in _ T2 (by omega)).mpr hj), pu_ix _ (by omega), a3]
    unfold hL_finds_192
    rw [pu_succ, pu_succ (T2 - min T2 12 + r), show T2 - min T2 12 + r + 1 = T2 - min T2 12 + (r + 1) by omega]
    rw [sumN]
    by_cases g : X 0 10 0 ((T2 - min T2 12 + r) % 12) = nI k
    · rw [if_pos g]
      obtain ⟨m', h⟩ := ih (r + 1) m (c + 1) (by omega) (by omega)
      refine ⟨m', ?_⟩
      rw [h, decide_eq_true g, show n2 true = 1 from rfl, Nat.add_assoc]
    · rw [if_neg g, Int32.add_zero]
      obtain ⟨m', h⟩ := ih (r + 1) m c (by omega) (by omega)
      refine ⟨m', ?_⟩
      rw [h, decide_eq_false g, show n2 false = 0 from rfl, Nat.zero_add]
/-- behind the comparisons of slot k: the next slot -/
theorem fn_490 {Q n t k : Nat} {X : bsX} {Z : pY} (P : PI Q n t X Z) (hk : k < n) {k16 : fk16} {x2 x3 x4 x5 x6 : Int32} : hL_finds_490 k16 x2 x3 x4 x5 x6 (nI k) k X Z = k16 x2 x3 x4 x5 (fHigh (X 0) k x6) (nI (k + 1)) X Z := by
  obtain ⟨h7, n1, hw, hr, hs⟩ := id P
  have h6 := hw.hn
  have hl := hr.pn h6
  have hsk := hw.sl k (by omega)
  obtain ⟨v, _, hv, ev⟩ := hsk.2.2.2.2.2.2.1
  have hv0 : (0 : Int32) ≤ X 0 6 k 1 := by rw [ev]; exact pu_nlt.mp (pu_neg v (by omega))
  unfold hL_finds_490 hL_finds_532 hL_finds_546
  rw [hq_emp hr hk hsk.2.2.2.2.2.2.1, pu_succ]
  simp only [Option.bind_some, hl, hk, if_true]
  unfold fHigh sBootF
  by_cases e : X 0 6 k 0 = 0
  · rw [decide_eq_true e, b2_t, if_neg (by decide)]
    simp [e]
  · rw [decide_eq_false e, b2_f, if_pos rfl, hr.im hk e (i := 4) (by omega) (by omega), hr.im hk e (i := 1) (by omega) (by omega), hr.sl hk (i := 2) (by omega) (by omega), hr.sl hk (i := 4) (by omega) (by omega), hr.sl hk (i := 3) (by omega) (by omega)]
    by_cases c4 : X 0 6 k 4 = 0
    · rw [if_pos c4]
      by_cases c2 : X 0 5 k 2 ≤ 0
      · have g2 := pu_nlt.mpr c2
        rw [if_pos c2]; simp [g2]
      · have g2 := pu_nle.mp c2
        rw [if_neg c2]
        by_cases c3 : X 0 5 k 4 = 0
        · rw [if_pos c3]
          by_cases c5 : X 0 5 k 3 ≤ 0
          · have g3 := pu_nlt.mpr c5
            rw [if_pos c5]; simp [c3, g3]
          · have g3 := pu_nle.mp c5
            rw [if_neg c5]; simp [e, c4, hv0, g2, g3]
        · rw [if_neg c3]; simp [e, c4, hv0, g2, c3]
    · rw [if_neg c4]; simp [c4]
theorem fn_390 {Q n t k : Nat} {X : bsX} {Z : pY} (P : PI Q n t X Z) (hk : k < n) {k16 : fk16} {x2 x3 x4 x6 : Int32} {bW : Option Nat} (hb : ∀ q, bW = some q → q < k) : hL_finds_390 k16 x2 x3 x4 (oI bW) x6 (nI k) k X Z = k16 x2 (fSink (X 0) k x3) (fMost (X 0) k x4) (oI (fWeak (X 0) k bW)) (fHigh (X 0) k x6) (nI (k + 1)) X Z := by
  obtain ⟨h7, n1, hw, hr, hs⟩ := id P
  have h6 := hw.hn
  have hl := hr.pn h6
  have hsk := hw.sl k (by omega)
  have hbt := hq_boot0 (Q := Q) hw (show k < 6 by omega)
  -- tries and the weakest
  have t443 : ∀ (y3 : Int32) (y1 : Int32), y1 = (if sBoot (X 0) k then X 0 5 k 3 else 0) → hL_finds_443 k16 x2 y3 (oI bW) x6 (nI k) k x4 y1 X Z = k16 x2 y3 (fMost (X 0) k x4) (oI (fWeak (X 0) k bW)) (fHigh (X 0) k x6) (nI (k + 1)) X Z := by
    intro y3 y1 hy
    have hm : x4 + y1 = fMost (X 0) k x4 := by
      unfold fMost
      rw [hy]
      split
      · rfl
      · rw [Int32.add_zero]
    unfold hL_finds_443 hL_finds_486
    rw [hq_why hw hr hk, hm]
    simp only [Option.bind_some, hl, hk, if_true]
    by_cases c : sWhy (X 0) k = 0
    · have hB := hbt.mp c
      rw [if_pos c, hr.sl hk (i := 4) (by omega) (by omega)]
      by_cases c2 : X 0 5 k 4 = 0
      · rw [if_pos c2]
        cases bW with
        | none =>
          rw [if_pos (show oI none < 0 by decide), fn_490 P hk]
          have : fWeak (X 0) k none = some k := by unfold fWeak; rw [if_pos ⟨hB, c2, Or.inl rfl⟩]
          rw [this]; rfl
        | some q =>
          have hq := hb q rfl
          rw [if_neg (show ¬ oI (some q) < 0 from pu_neg q (by omega)), show oI (some q) = nI q from rfl, if_pos (pz_in (show q < n by omega) h6), pu_ix q (by omega), hr.sl (show q < n by omega) (i := 3) (by omega) (by omega), hr.sl hk (i := 3) (by omega) (by omega)]
          by_cases c3 : X 0 5 q 3 ≤ X 0 5 k 3
          · rw [if_pos c3, fn_490 P hk]
            have : fWeak (X 0) k (some q) = some q := by
              unfold fWeak; rw [if_neg]
              rintro ⟨_, _, z | ⟨w, z1, z2⟩⟩
              · cases z
              · simp only [Option.some.injEq] at z1
                subst z1
                exact pu_nlt.mpr c3 z2
            rw [this]; rfl
          · rw [if_neg c3, fn_490 P hk]
            have : fWeak (X 0) k (some q) = some k := by unfold fWeak; rw [if_pos ⟨hB, c2, Or.inr ⟨q, rfl, pu_nle.mp c3⟩⟩]
            rw [this]; rfl
      · rw [if_neg c2, fn_490 P hk]
        have : fWeak (X 0) k bW = bW := by unfold fWeak; rw [if_neg (fun z => c2 z.2.1)]
        rw [this]
    · rw [if_neg c, fn_490 P hk]
      have : fWeak (X 0) k bW = bW := by unfold fWeak; rw [if_neg (fun z => c (hbt.mpr z.1))]
      rw [this]
  have t421 : ∀ (y1 : Int32), x3 ||| y1 = fSink (X 0) k x3 → hL_finds_421 k16 x2 x4 (oI bW) x6 (nI k) k x3 y1 X Z = k16 x2 (fSink (X 0) k x3) (fMost (X 0) k x4) (oI (fWeak (X 0) k bW)) (fHigh (X 0) k x6) (nI (k + 1)) X Z := by
    intro y1 hy
    unfold hL_finds_421
    rw [hq_why hw hr hk, hy]
    simp only [Option.bind_some, hl, hk, if_true]
    by_cases c : sWhy (X 0) k = 0
    · rw [if_pos c]
      exact t443 _ _ (by rw [if_pos (hbt.mp c)]; exact hr.sl hk (by omega) (by omega))
    · rw [if_neg c]
      exact t443 _ _ (by rw [if_neg (fun z => c (hbt.mpr z))])
  have hor : x3 ||| (0 : Int32) = x3 := by rw [Int32.or_zero]
  unfold hL_finds_390 hL_finds_420
  rw [hq_emp hr hk hsk.2.2.2.2.2.2.1]
  simp only [Option.bind_some, hl, hk, if_true]
  by_cases e : X 0 6 k 0 = 0
  · rw [decide_eq_true e, b2_t, if_neg (by decide)]
    exact t421 0 (by unfold fSink; rw [if_neg (fun z => z.1 e)]; exact hor)
  · rw [decide_eq_false e, b2_f, if_pos rfl, hr.num (i := 8) (by omega) (by omega), hr.im hk e (i := 1) (by omega) (by omega)]
    by_cases c : X 0 0 0 8 ≤ X 0 6 k 1
    · rw [if_pos c]
      exact t421 0 (by unfold fSink; rw [if_neg (fun z => pu_nlt.mpr c z.2)]; exact hor)
    · rw [if_neg c]
      exact t421 _ (by unfold fSink; rw [if_pos ⟨e, pu_nle.mp c⟩])
theorem fn_263 {Q n t k T : Nat} {X : bsX} {Z : pY} (P : PI Q n t X Z) (hk : k < n) (hT : T < 1000000) (eT : X 0 3 0 4 = nI T) {k16 : fk16} {x3 x4 x6 x9 y0 : Int32} {bN bW : Option Nat} (hbN : ∀ q, bN = some q → q < k ∧ ¬ X 0 6 q 0 = 0) (hb : ∀ q, bW = some q → q < k) (h9 : sBoot (X 0) k = true → x9 = sPlace (X 0) k)
    (hy : y0 = b2 (decide (X 0 6 k 0 ≠ 0 ∧ (X 0 6 k 3 = 0 ∨ X 0 6 k 2 < X 0 6 k 3) ∧ (X 0 5 k 4 ≠ 0 ∨ X 0 6 k 2 ≤ X 0 0 0 5)))) :
    hL_finds_263 k16 (oI bN) x3 x4 (oI bW) x6 (nI k) k x9 (itF (fTwin (X 0) k) n 0 0) (nI (sumN (fun r => decide (X 0 10 0 ((T - min T 12 + r) % 12) = nI k)) (min T 12) 0)) y0 X Z = k16 (oI (fNew (X 0) k bN)) (fSink (X 0) k x3) (fMost (X 0) k x4) (oI (fWeak (X 0) k bW)) (fHigh (X 0) k x6) (nI (k + 1)) X Z := by
  obtain ⟨h7, n1, hw, hr, hs⟩ := id P
  have h6 := hw.hn
  have hl := hr.pn h6
  have hsk := hw.sl k (by omega)
  have hbt := hq_boot0 (Q := Q) hw (show k < 6 by omega)
  have t301 : hL_finds_301 k16 (oI bN) x3 x4 (oI bW) x6 (nI k) k (itF (fTwin (X 0) k) n 0 0) (nI (sumN (fun r => decide (X 0 10 0 ((T - min T 12 + r) % 12) = nI k)) (min T 12) 0)) y0 (if sBoot (X 0) k = true then sPlace (X 0) k else -1) (if sBoot (X 0) k = true then sPlace (X 0) k else -1) X Z = k16 (oI (fNew (X 0) k bN)) (fSink (X 0) k x3) (fMost (X 0) k x4) (oI (fWeak (X 0) k bW)) (fHigh (X 0) k x6) (nI (k + 1)) X Z := by
    unfold hL_finds_301 hL_finds_387
    rw [if_pos rfl, q8_twins h7 hw hk]
    simp only [Option.bind_some, if_true]
    rw [q8_bootsOf h7 hw hk eT hT]
    simp only [Option.bind_some, if_true]
    rw [q8_floor h7 hw hk]
    simp only [Option.bind_some, if_true]
    rw [hq_floor (X := X) h6 hw.sl (fun q a b => (hw.hi q a b).1) hr hk]
    simp only [Option.bind_some, if_true]
    rw [q8_hold h7 hw hk]
    simp only [Option.bind_some, if_true]
    rw [if_pos hy.symm, hq_emp hr hk hsk.2.2.2.2.2.2.1]
    simp only [Option.bind_some, hl, hk, if_true]
    by_cases e : X 0 6 k 0 = 0
    · rw [decide_eq_true e, b2_t, if_neg (by decide), fn_390 P hk hb]
      have : fNew (X 0) k bN = bN := by unfold fNew; rw [if_neg (fun z => z.1 e)]
      rw [this]
    · rw [decide_eq_false e, b2_f, if_pos rfl]
      cases bN with
      | none =>
        rw [if_pos (show oI none < 0 by decide), fn_390 P hk hb]
        have : fNew (X 0) k none = some k := by unfold fNew; rw [if_pos ⟨e, Or.inl rfl⟩]
        rw [this]; rfl
      | some q =>
        obtain ⟨hq, hqe⟩ := hbN q rfl
        rw [if_neg (show ¬ oI (some q) < 0 from pu_neg q (by omega)), show oI (some q) = nI q from rfl, if_pos (pz_in (show q < n by omega) h6), pu_ix q (by omega), hr.im hk e (i := 1) (by omega) (by omega), hr.im (show q < n by omega) hqe (i := 1) (by omega) (by omega)]
        by_cases c : X 0 6 k 1 ≤ X 0 6 q 1
        · rw [if_pos c, fn_390 P hk hb]
          have : fNew (X 0) k (some q) = some q := by
            unfold fNew; rw [if_neg]
            rintro ⟨_, z | ⟨w, z1, z2⟩⟩
            · cases z
            · simp only [Option.some.injEq] at z1
              subst z1
              exact pu_nlt.mpr c z2
          rw [this]; rfl
        · rw [if_neg c, fn_390 P hk hb]
          have : fNew (X 0) k (some q) = some k := by unfold fNew; rw [if_pos ⟨e, Or.inr ⟨q, rfl, pu_nle.mp c⟩⟩]
          rw [this]; rfl
  unfold hL_finds_263
  rw [q8_why h7 hw hk]
  simp only [Option.bind_some, if_true]
  rw [hq_why hw hr hk]
  simp only [Option.bind_some, if_true]
  rw [q8_place h7 hw hk]
  simp only [Option.bind_some, if_true]
  rw [hq_why hw hr hk]
  simp only [Option.bind_some, hl, hk, if_true]
  by_cases c : sWhy (X 0) k = 0
  · have hB := hbt.mp c
    rw [if_pos c]
    rw [if_pos hB] at t301
    rw [if_pos hB, h9 hB]
    exact t301
  · have hB : ¬ sBoot (X 0) k = true := fun z => c (hbt.mpr z)
    rw [if_neg c]
    rw [if_neg hB] at t301
    rw [if_neg hB]
    exact t301
theorem fn_16 {Q n t T : Nat} {X : bsX} {Z : pY} (P : PI Q n t X Z) (hT : T < 1000000) (eT : X 0 3 0 4 = nI T) : ∀ (d k m : Nat) (bN bW : Option Nat) (x3 x4 x6 : Int32), k + d = n → d < m → (∀ q, bN = some q → q < k ∧ ¬ X 0 6 q 0 = 0) → (∀ q, bW = some q → q < k) →
    ∃ m', hL_finds_16 m (oI bN) x3 x4 (oI bW) x6 (nI k) X Z = hL_finds_16 (m' + 1) (oI (itF (fNew (X 0)) d k bN)) (itF (fSink (X 0)) d k x3) (itF (fMost (X 0)) d k x4) (oI (itF (fWeak (X 0)) d k bW)) (itF (fHigh (X 0)) d k x6) (nI n) X Z := by
  obtain ⟨h7, n1, hw, hr, hs⟩ := id P
  have h6 := hw.hn
  have hl := hr.pn h6
  have hlm : lm Z = T := hr.pm hT eT
  intro d
  induction d with
  | zero =>
    intro k m bN bW x3 x4 x6 hk hm _ _
    obtain ⟨m, rfl⟩ : ∃ q, m = q + 1 := ⟨m - 1, by omega⟩
    obtain rfl : k = n := by omega
    exact ⟨m, rfl⟩
  | succ d ih =>
    intro k m bN bW x3 x4 x6 hk hm hbN hbW
    obtain ⟨m, rfl⟩ : ∃ q, m = q + 1 := ⟨m - 1, by omega⟩
    have hkn : k < n := by omega
    have hsk := hw.sl k (by omega)
    rw [hL_finds_16, hl, if_neg (pz_le hkn h6), if_pos (pz_in hkn h6), pu_ix k (by omega)]
    have hB0 : bsMax 0 (nI (lm Z) - 12) = nI (T - min T 12 + 0) := by
      rw [hlm]
      by_cases c : 12 ≤ T
      · rw [show nI T - (12 : Int32) = nI (T - 12) from pu_sub T 12 c, show (0 : Int32) = nI 0 from rfl, bsMax_nI (by omega) (by omega)]
        congr 1; omega
      · have : T = 0 ∨ T = 1 ∨ T = 2 ∨ T = 3 ∨ T = 4 ∨ T = 5 ∨ T = 6 ∨ T = 7 ∨ T = 8 ∨ T = 9 ∨ T = 10 ∨ T = 11 := by omega
        rcases this with rfl | rfl | rfl | rfl | rfl | rfl | rfl | rfl | rfl | rfl | rfl | rfl <;> decide
    obtain ⟨x9, u1, u2⟩ := fn_47 P hkn (k16 := hL_finds_16 m) (x2 := oI bN) (x3 := x3) (x4 := x4) (x5 := oI bW) (x6 := x6) hB0 n 0 8 0 0 (by omega) (by omega) (by omega)
    rw [show hL_finds_47 (hL_finds_16 m) 8 (oI bN) x3 x4 (oI bW) x6 (nI k) k 0 0 0 0 X Z = _ from u2]
    obtain ⟨m1, v1⟩ := fn_161 P hkn (k16 := hL_finds_16 m) (x2 := oI bN) (x3 := x3) (x4 := x4) (x5 := oI bW) (x6 := x6) (x9 := x9) (x10 := itF (fTwin (X 0) k) n 0 (nI 0)) hT eT (min T 12) 0 14 0 (by omega) (by omega)
    rw [show hL_finds_161 (hL_finds_16 m) 14 (oI bN) x3 x4 (oI bW) x6 (nI k) k x9 (itF (fTwin (X 0) k) n 0 (nI 0)) 0 (nI (T - min T 12 + 0)) X Z = _ from v1, Nat.zero_add]
    rw [hL_finds_161, hlm, if_pos (pz_nn T), hq_emp hr hkn hsk.2.2.2.2.2.2.1]
    simp only [Option.bind_some, hl, hkn, if_true]
    have fin : ∀ y0 : Int32, y0 = b2 (decide (X 0 6 k 0 ≠ 0 ∧ (X 0 6 k 3 = 0 ∨ X 0 6 k 2 < X 0 6 k 3) ∧ (X 0 5 k 4 ≠ 0 ∨ X 0 6 k 2 ≤ X 0 0 0 5))) → ∃ m', hL_finds_263 (hL_finds_16 m) (oI bN) x3 x4 (oI bW) x6 (nI k) k x9 (itF (fTwin (X 0) k) n 0 (nI 0)) (nI (sumN (fun r => decide (X 0 10 0 ((T - min T 12 + r) % 12) = nI k)) (min T 12) 0)) y0 X Z = hL_finds_16 (m' + 1) (oI (itF (fNew (X 0)) (d + 1) k bN)) (itF (fSink (X 0)) (d + 1) k x3) (itF (fMost (X 0)) (d + 1) k x4) (oI (itF (fWeak (X 0)) (d + 1) k bW)) (itF (fHigh (X 0)) (d + 1) k x6) (nI n) X Z := by
      intro y0 hy
      have hN : ∀ q, fNew (X 0) k bN = some q → q < k + 1 ∧ ¬ X 0 6 q 0 = 0 := by
        intro q hq
        unfold fNew at hq
        split at hq
        · rename_i c
          simp only [Option.some.injEq] at hq
          subst hq
          exact ⟨by omega, c.1⟩
        · have := hbN q hq; exact ⟨by omega, this.2⟩
      have hW : ∀ q, fWeak (X 0) k bW = some q → q < k + 1 := by
        intro q hq
        unfold fWeak at hq
        split at hq
        · simp only [Option.some.injEq] at hq; omega
        · have := hbW q hq; omega
      obtain ⟨m', h⟩ := ih (k + 1) m (fNew (X 0) k bN) (fWeak (X 0) k bW) (fSink (X 0) k x3) (fMost (X 0) k x4) (fHigh (X 0) k x6) (by omega) (by omega) hN hW
      refine ⟨m', ?_⟩
      refine (fn_263 P hkn hT eT hbN hbW (fun hB => (u1 hB).trans ?_) hy).trans h
      unfold sPlace
      rw [itF_6 h6 (fun q a h1 h2 => by unfold sPlF; rw [if_neg (fun z => by rw [show sBoot (X 0) q = false from hw.nb h1 h2] at z; exact absurd z.1 (by decide))]) 0]
    unfold hL_finds_236 hL_finds_258 hL_finds_262
    by_cases e : X 0 6 k 0 = 0
    · rw [decide_eq_true e, b2_t, if_neg (by decide)]
      exact fin 0 (by rw [decide_eq_false (fun z => z.1 e)]; rfl)
    · rw [decide_eq_false e, b2_f, if_pos rfl, hr.im hkn e (i := 3) (by omega) (by omega), hr.im hkn e (i := 2) (by omega) (by omega), hr.sl hkn (i := 4) (by omega) (by omega), hr.num (i := 5) (by omega) (by omega)]
      have t236 : (X 0 6 k 3 = 0 ∨ X 0 6 k 2 < X 0 6 k 3) → ∃ m', (if X 0 5 k 4 = 0 then (if X 0 0 0 5 < X 0 6 k 2 then hL_finds_263 (hL_finds_16 m) (oI bN) x3 x4 (oI bW) x6 (nI k) k x9 (itF (fTwin (X 0) k) n 0 (nI 0)) (nI (sumN (fun r => decide (X 0 10 0 ((T - min T 12 + r) % 12) = nI k)) (min T 12) 0)) 0 X Z else hL_finds_263 (hL_finds_16 m) (oI bN) x3 x4 (oI bW) x6 (nI k) k x9 (itF (fTwin (X 0) k) n 0 (nI 0)) (nI (sumN (fun r => decide (X 0 10 0 ((T - min T 12 + r) % 12) = nI k)) (min T 12) 0)) 1 X Z) else hL_finds_263 (hL_finds_16 m) (oI bN) x3 x4 (oI bW) x6 (nI k) k x9 (itF (fTwin (X 0) k) n 0 (nI 0)) (nI (sumN (fun r => decide (X 0 10 0 ((T - min T 12 + r) % 12) = nI k)) (min T 12) 0)) 1 X Z) = hL_finds_16 (m' + 1) (oI (itF (fNew (X 0)) (d + 1) k bN)) (itF (fSink (X 0)) (d + 1) k x3) (itF (fMost (X 0)) (d + 1) k x4) (oI (itF (fWeak (X 0)) (d + 1) k bW)) (itF (fHigh (X 0)) (d + 1) k x6) (nI n) X Z := by
        intro hc
        by_cases c4 : X 0 5 k 4 = 0
        · rw [if_pos c4]
          by_cases c5 : X 0 0 0 5 < X 0 6 k 2
          · rw [if_pos c5]
            exact fin 0 (by rw [decide_eq_false (fun z => z.2.2.elim (fun w => w c4) (fun w => pu_nle.mpr c5 w))]; rfl)
          · rw [if_neg c5]
            exact fin 1 (by rw [decide_eq_true ⟨e, hc, Or.inr (pu_nlt.mp c5)⟩]; rfl)
        · rw [if_neg c4]
          exact fin 1 (by rw [decide_eq_true ⟨e, hc, Or.inl c4⟩]; rfl)
      by_cases c3 : X 0 6 k 3 = 0
      · rw [if_pos c3]
        exact t236 (Or.inl c3)
      · rw [if_neg c3]
        by_cases c5 : X 0 6 k 3 ≤ X 0 6 k 2
        · rw [if_pos c5]
          exact fin 0 (by rw [decide_eq_false (fun z => z.2.1.elim c3 (fun w => pu_nlt.mpr c5 w))]; rfl)
        · rw [if_neg c5]
          exact t236 (Or.inr (pu_nle.mp c5))
theorem fn_ok {Q n t : Nat} {X : bsX} {Z : pY} (P : PI Q n t X Z) : hL_finds X Z = some (1, X, Z) := by
  obtain ⟨h7, n1, hw, hr, hs⟩ := id P
  have h6 := hw.hn
  have hl := hr.pn h6
  obtain ⟨T, hT, e1, _⟩ := hr.f
  obtain ⟨s1, s2, s3⟩ := id hs
  unfold hL_finds
  obtain ⟨m', h⟩ := fn_16 P hT e1 n 0 8 none none 0 0 (-1) (by omega) (by omega) (by intro q e; cases e) (by intro q e; cases e)
  rw [show hL_finds_16 8 (-1) 0 0 (-1) (-1) 0 X Z = _ from h, hL_finds_16, hl, if_pos (pz_nn n), q8_newest h7 hw]
  simp only [Option.bind_some, if_true]
  rw [q8_sinking h7 hw]
  simp only [Option.bind_some, if_true]
  rw [q8_most h7 hw]
  simp only [Option.bind_some, if_true]
  rw [q8_weakest h7 hw]
  simp only [Option.bind_some, if_true]
  rw [q8_high h7 hw]
  simp only [Option.bind_some, if_true]
  rw [q8_choice h7 hw]
  simp only [Option.bind_some, if_true]
  rw [hq_choice hw hr]
  simp only [Option.bind_some, if_true]
  rw [q8_fallback h7 hw]
  simp only [Option.bind_some, if_true]
  rw [s3, s1]
  unfold hL_finds_631
  by_cases c : sSt (X 0) = 1
  · rw [if_pos c, if_pos c, hq_choice hw hr]
    simp only [Option.bind_some, if_true]
    rw [q8_spare h7 hw]
    simp only [Option.bind_some, if_true]
    rw [hq_spare hw hr hs n1]
    simp only [Option.bind_some, if_true]
  · rw [if_neg c, if_neg c, if_pos rfl, q8_spare h7 hw]
    simp only [Option.bind_some, if_true]
    rw [hq_spare hw hr hs n1]
    simp only [Option.bind_some, if_true]
