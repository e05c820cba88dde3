/-! WORLD(DRAWS): its second loop, whole -/
/-- the table's row of what is drawn -/
def rowD (v s c : Nat) (u d : Bool) (o : Option (Nat × Nat × Bool)) (i : Nat) : Nat := match o with
  | none => if i = 0 then 1 else if i = 1 then v else if i = 2 then s else if i = 3 then c else if i = 4 then (if u then 1 else 0) else if i = 5 then (if d then 1 else 0) else 0
  | some (p, r, g) => if i = 0 then 2 else if i = 1 then v else if i = 2 then s else if i = 3 then c else if i = 4 then (if u then 1 else 0) else if i = 5 then (if d then 1 else 0) else if i = 6 then p else if i = 7 then r else (if g then 1 else 0)
theorem dec_01 (u : Bool) : decide ((if u then (1 : Nat) else 0) = 1) = u := by cases u <;> rfl
def afT2 (k : Nat) (o : Option (Nat × Nat × Bool)) : List Int32 := match o with | none => [] | some (p, r, g) => 59 :: (wrd 5 ++ (fld k ++ (fld p ++ (fld r ++ OW g 6))))
theorem w12_5 : wrd 12 = 59 :: wrd 5 := by decide
theorem w9_2 : wrd 9 = 59 :: wrd 2 := by decide
theorem afT_2 (k : Nat) (o : Option (Nat × Nat × Bool)) : afT k o = afT2 k o := by
  rcases o with _ | ⟨p, r, g⟩
  · rfl
  · unfold afT afT2
    rw [w12_5]
    simp only [List.append_assoc, List.cons_append]
theorem rowD_it {v s c k : Nat} {u d : Bool} {o : Option (Nat × Nat × Bool)} {M : List Int32} {D : Nat → Nat → Nat} (hD : D k = rowD v s c u d o) : itM D k M = (59 :: (wrd 2 ++ (fld k ++ (fld v ++ (fld s ++ (fld c ++ (OW u 3 ++ (OW d 4 ++ (afT2 k o ++ M))))))))) := by
  unfold itM mkM
  rw [hD]
  rcases o with _ | ⟨p, r, g⟩
  · have e0 : rowD v s c u d none 0 = 1 := rfl
    have e4 : rowD v s c u d none 4 = (if u then 1 else 0) := rfl
    have e5 : rowD v s c u d none 5 = (if d then 1 else 0) := rfl
    rw [e0, e4, e5, dec_01, dec_01, if_neg (by decide), if_neg (by decide)]
    rfl
  · have e0 : rowD v s c u d (some (p, r, g)) 0 = 2 := rfl
    have e4 : rowD v s c u d (some (p, r, g)) 4 = (if u then 1 else 0) := rfl
    have e5 : rowD v s c u d (some (p, r, g)) 5 = (if d then 1 else 0) := rfl
    have e8 : rowD v s c u d (some (p, r, g)) 8 = (if g then 1 else 0) := rfl
    rw [e0, e4, e5, e8, dec_01, dec_01, dec_01, if_neg (by decide), if_pos rfl]
    unfold afT2
    simp only [List.append_assoc, List.cons_append]
    rfl
theorem rowD_ok {v s c : Nat} {u d : Bool} {o : Option (Nat × Nat × Bool)} {D : Nat → Nat → Nat} {k : Nat} (hD : D k = rowD v s c u d o) (hv : v < 100) (hs : 1 ≤ s) (hs2 : s < 100) (hc : c < 100) (ho : afO o) : okD D k ∧ D k 0 ≠ 0 := by
  unfold okD
  rw [hD]
  rcases o with _ | ⟨p, r, g⟩
  · exact ⟨⟨(show (1 : Nat) ≤ 2 by decide), hv, hs, hs2, hc, (show (0 : Nat) ≤ 15 by decide), (show (0 : Nat) ≤ 7 by decide)⟩, (show (1 : Nat) ≠ 0 by decide)⟩
  · obtain ⟨p15, r7⟩ := ho p r g rfl
    exact ⟨⟨(show (2 : Nat) ≤ 2 by decide), hv, hs, hs2, hc, p15, r7⟩, (show (2 : Nat) ≠ 0 by decide)⟩
def wRo (o : Option (Nat × Nat × Bool)) (i : Nat) : Int32 := match o with | none => (if i = 2 then 1 else if i = 3 then 1 else 0) | some (p, r, g) => (if i = 2 then nI p else if i = 3 then nI r else if i = 4 then b2 g else 0)
/-- the slot agrees -/
theorem rowD_zS {v s c k : Nat} {u d : Bool} {o : Option (Nat × Nat × Bool)} {D : Nat → Nat → Nat} {Z : pY} (hD : D k = rowD v s c u d o) (h5 : ∀ i, 2 ≤ i → i ≤ 8 → Z 5 k i = 0) : zS D k (afZ k o (zImg5 k v s c u d Z)) := by
  have hne : D k 0 ≠ 0 := by
    rw [hD]
    rcases o with _ | ⟨p, r, g⟩
    · exact (show (1 : Nat) ≠ 0 by decide)
    · exact (show (2 : Nat) ≠ 0 by decide)
  have v1 : ∀ i, 1 ≤ i → i ≤ 5 → vD D k i = (if i = 1 then nI v else if i = 2 then nI s else if i = 3 then nI c else if i = 4 then b2 u else b2 d) := by
    intro i i1 i2
    unfold vD
    rw [hD]
    have : i = 1 ∨ i = 2 ∨ i = 3 ∨ i = 4 ∨ i = 5 := by omega
    rcases o with _ | ⟨p, r, g⟩
    · have e4 : rowD v s c u d none 4 = (if u then 1 else 0) := rfl
      have e5 : rowD v s c u d none 5 = (if d then 1 else 0) := rfl
      rw [e4, e5, dec_01, dec_01]
      rcases this with rfl | rfl | rfl | rfl | rfl <;> rfl
    · have e4 : rowD v s c u d (some (p, r, g)) 4 = (if u then 1 else 0) := rfl
      have e5 : rowD v s c u d (some (p, r, g)) 5 = (if d then 1 else 0) := rfl
      rw [e4, e5, dec_01, dec_01]
      rcases this with rfl | rfl | rfl | rfl | rfl <;> rfl
  have i6 : ∀ i, 1 ≤ i → i ≤ 5 → zImg5 k v s c u d Z 6 k i = vD D k i := by
    intro i i1 i2
    rw [v1 i i1 i2]
    have : i = 1 ∨ i = 2 ∨ i = 3 ∨ i = 4 ∨ i = 5 := by omega
    rcases this with rfl | rfl | rfl | rfl | rfl <;> simp [zImg5, wr_rd]
  have i5 : ∀ i, 2 ≤ i → i ≤ 8 → zImg5 k v s c u d Z 5 k i = if i = 2 then 1 else if i = 3 then 1 else 0 := by
    intro i i1 i2
    have : i = 2 ∨ i = 3 ∨ 4 ≤ i := by omega
    rcases this with rfl | rfl | z
    · simp [zImg5, wr_rd]
    · simp [zImg5, wr_rd]
    · rw [if_neg (by omega), if_neg (by omega)]
      unfold zImg5
      rw [wr_y _ _ _ _ _ (by omega), wr_y _ _ _ _ _ (by omega), wr_y _ _ _ _ _ (by omega), wr_y _ _ _ _ _ (by omega), wr_y _ _ _ _ _ (by omega), wr_y _ _ _ _ _ (by omega), wr_y _ _ _ _ _ (by omega)]
      exact h5 i i1 i2
  have w1 : ∀ i, 2 ≤ i → i ≤ 8 → wD D k i = wRo o i := by
    intro i i1 i2
    unfold wD
    rw [if_neg hne, hD]
    rcases o with _ | ⟨p, r, g⟩
    · have e0 : rowD v s c u d none 0 = 1 := rfl
      rw [e0, if_neg (by decide)]
      rfl
    · have e0 : rowD v s c u d (some (p, r, g)) 0 = 2 := rfl
      have e6 : rowD v s c u d (some (p, r, g)) 6 = p := rfl
      have e7 : rowD v s c u d (some (p, r, g)) 7 = r := rfl
      have e8 : rowD v s c u d (some (p, r, g)) 8 = (if g then 1 else 0) := rfl
      rw [e0, e6, e7, e8, dec_01, if_pos rfl]
      rfl
  refine ⟨fun z => absurd z hne, fun _ i i1 i2 => ?_, fun i i1 i2 => ?_⟩
  · rw [← i6 i i1 i2]
    rcases o with _ | ⟨p, r, g⟩
    · rfl
    · show (wr (wr (wr (zImg5 k v s c u d Z) 5 k 2 (nI p)) 5 k 3 (nI r)) 5 k 4 (b2 g)) 6 k i = _
      rw [wr_y _ _ _ _ _ (by omega), wr_y _ _ _ _ _ (by omega), wr_y _ _ _ _ _ (by omega)]
  · rw [w1 i i1 i2]
    rcases o with _ | ⟨p, r, g⟩
    · exact i5 i i1 i2
    · show (wr (wr (wr (zImg5 k v s c u d Z) 5 k 2 (nI p)) 5 k 3 (nI r)) 5 k 4 (b2 g)) 5 k i = (if i = 2 then nI p else if i = 3 then nI r else if i = 4 then b2 g else 0)
      have : i = 2 ∨ i = 3 ∨ i = 4 ∨ 5 ≤ i := by omega
      rcases this with rfl | rfl | rfl | z
      · simp [wr_rd]
      · simp [wr_rd]
      · simp [wr_rd]
      · rw [wr_y _ _ _ _ _ (by omega), wr_y _ _ _ _ _ (by omega), wr_y _ _ _ _ _ (by omega), i5 i i1 i2, if_neg (by omega), if_neg (by omega), if_neg (by omega), if_neg (by omega), if_neg (by omega)]
theorem afZ_no {k : Nat} {v s c : Nat} {u d : Bool} {o : Option (Nat × Nat × Bool)} {Z : pY} {K j i : Nat} (h : ¬ ((K = 5 ∨ K = 6) ∧ j = k)) : afZ k o (zImg5 k v s c u d Z) K j i = Z K j i := by
  have hz : zImg5 k v s c u d Z K j i = Z K j i := by
    unfold zImg5
    rw [wr_y _ _ _ _ _ (by omega), wr_y _ _ _ _ _ (by omega), wr_y _ _ _ _ _ (by omega), wr_y _ _ _ _ _ (by omega), wr_y _ _ _ _ _ (by omega), wr_y _ _ _ _ _ (by omega), wr_y _ _ _ _ _ (by omega)]
  rcases o with _ | ⟨p, r, g⟩
  · exact hz
  · show (wr (wr (wr (zImg5 k v s c u d Z) 5 k 2 (nI p)) 5 k 3 (nI r)) 5 k 4 (b2 g)) K j i = _
    rw [wr_y _ _ _ _ _ (by omega), wr_y _ _ _ _ _ (by omega), wr_y _ _ _ _ _ (by omega)]
    exact hz
/-- one image's draws -/
theorem wi_294 {xs : Nat → Int32} {L : Nat} {K : wiK} {t : Nat → Nat} {n k v Dn : Nat} {y6 : Int32} {f1 : Nat → Int32} {X : bsX} {Z : pY} (hk : k < 6) (hn : n + 150 ≤ 512) (hD : Dn + 10 < 1000000) (hf0 : f1 0 = nI v) (hv : v < 100) (hy : y6 = nI 12 ∨ y6 = nI 5) :
    ∃ t' n' D' s c u d o, afO o ∧ 1 ≤ s ∧ s < 100 ∧ c < 100 ∧ D' ≤ Dn + 10 ∧ hX11_init_294 xs L K t n (nI k) k k f1 1 1 y6 X Z Dn = K t' n' (nI k + 1) X (afZ k o (zImg5 k v s c u d Z)) D' ∧ tl t' n' = tl t n ++ ((((((wrd 9 ++ fld k) ++ fld v) ++ fld s) ++ fld c) ++ OW u 3) ++ (OW d 4 ++ afT k o)) := by
  have b1 : bsIx (1 : Int32) = 1 := by decide
  have b2' : bsIx (2 : Int32) = 2 := by decide
  have b3 : bsIx (3 : Int32) = 3 := by decide
  obtain ⟨s, s1, s12, es⟩ : ∃ s, 1 ≤ s ∧ s ≤ 12 ∧ dVal xs L Dn 1 y6 = nI s := by
    rcases hy with rfl | rfl
    · exact dv_in xs L Dn 1 12 (by omega) (by omega)
    · obtain ⟨s, a, b, e⟩ := dv_in xs L Dn 1 5 (by omega) (by omega)
      exact ⟨s, a, by omega, e⟩
  have hz : ¬ y6 - 1 + 1 = 0 := by rcases hy with rfl | rfl <;> decide
  -- with the crash's number in
  have go : ∀ (c Dc : Nat), c < 100 → Dc ≤ Dn + 3 → ∃ t' n' D' u d o, afO o ∧ D' ≤ Dn + 10 ∧ hX11_init_320 xs L K t n (nI k) k k (upd f1 1 (nI s)) 2 (nI c) X Z Dc = K t' n' (nI k + 1) X (afZ k o (zImg5 k v s c u d Z)) D' ∧ tl t' n' = tl t n ++ ((((((wrd 9 ++ fld k) ++ fld v) ++ fld s) ++ fld c) ++ OW u 3) ++ (OW d 4 ++ afT k o)) := by
    intro c Dc hc hDc
    have go2 : ∀ (u : Bool), ∃ t' n' D' d o, afO o ∧ D' ≤ Dn + 10 ∧ hX11_init_338 xs L K t n (nI k) k k (upd (upd f1 1 (nI s)) 2 (nI c)) 3 (b2 u) X Z (Dc + 1) = K t' n' (nI k + 1) X (afZ k o (zImg5 k v s c u d Z)) D' ∧ tl t' n' = tl t n ++ ((((((wrd 9 ++ fld k) ++ fld v) ++ fld s) ++ fld c) ++ OW u 3) ++ (OW d 4 ++ afT k o)) := by
      intro u
      have go3 : ∀ (d : Bool), ∃ t' n' D' o, afO o ∧ D' ≤ Dn + 10 ∧ hX11_init_355 xs L K t n (nI k) k k (upd (upd (upd f1 1 (nI s)) 2 (nI c)) 3 (b2 u)) 4 (b2 d) X Z (Dc + 1 + 1) = K t' n' (nI k + 1) X (afZ k o (zImg5 k v s c u d Z)) D' ∧ tl t' n' = tl t n ++ ((((((wrd 9 ++ fld k) ++ fld v) ++ fld s) ++ fld c) ++ OW u 3) ++ (OW d 4 ++ afT k o)) := by
        intro d
        obtain ⟨t', n', D', o, h0, h1, h2, h3⟩ := wi_355 (xs := xs) (L := L) (K := K) (t := t) (n := n) (k := k) (v := v) (s := s) (c := c) (D := Dc + 1 + 1) (u := u) (d := d) (f1 := upd (upd (upd f1 1 (nI s)) 2 (nI c)) 3 (b2 u)) (X := X) (Z := Z) hk hn (by omega) (by simp [upd, hf0]) hv (by simp [upd]) (by omega) (by simp [upd]) hc (by simp [upd])
        exact ⟨t', n', D', o, h0, by omega, h2, h3⟩
      unfold hX11_init_338
      rw [if_pos (show bsIn (3 : Int32) 5 by decide), if_pos (by omega), b3]
      by_cases g : dVal xs L (Dc + 1) (0 : Int32) (5 : Int32) = 0
      · rw [if_pos g]
        obtain ⟨t', n', D', o, h⟩ := go3 true
        exact ⟨t', n', D', true, o, h⟩
      · rw [if_neg g]
        obtain ⟨t', n', D', o, h⟩ := go3 false
        exact ⟨t', n', D', false, o, h⟩
    unfold hX11_init_320
    rw [if_pos (show bsIn (2 : Int32) 5 by decide), if_pos (by omega), b2']
    by_cases g : dVal xs L Dc (0 : Int32) (7 : Int32) = 0
    · rw [if_pos g]
      obtain ⟨t', n', D', d, o, h⟩ := go2 true
      exact ⟨t', n', D', true, d, o, h⟩
    · rw [if_neg g]
      obtain ⟨t', n', D', d, o, h⟩ := go2 false
      exact ⟨t', n', D', false, d, o, h⟩
  unfold hX11_init_294
  rw [if_pos hz, if_pos (by omega), if_pos (show bsIn (1 : Int32) 5 by decide), if_pos (by omega), es, b1]
  by_cases g : dVal xs L (Dn + 1) (0 : Int32) (1 : Int32) = 0
  · rw [if_pos g]
    obtain ⟨t', n', D', u, d, o, h0, h1, h2, h3⟩ := go 0 (Dn + 1 + 1) (by omega) (by omega)
    exact ⟨t', n', D', s, 0, u, d, o, h0, s1, by omega, by omega, h1, h2, h3⟩
  · rw [if_neg g, if_pos (by omega)]
    obtain ⟨c, _, c14, ec⟩ := dv_in xs L (Dn + 1 + 1) 0 14 (by omega) (by omega)
    have ec' : dVal xs L (Dn + 1 + 1) (0 : Int32) (14 : Int32) = nI c := ec
    rw [ec']
    obtain ⟨t', n', D', u, d, o, h0, h1, h2, h3⟩ := go c (Dn + 1 + 1 + 1) (by omega) (by omega)
    exact ⟨t', n', D', s, c, u, d, o, h0, s1, by omega, by omega, h1, h2, h3⟩
theorem txM_eq {D E : Nat → Nat → Nat} : ∀ d k, (∀ j, k ≤ j → j < k + d → D j = E j) → txM D d k = txM E d k := by
  intro d
  induction d with
  | zero => intro k _; rfl
  | succ d ih =>
    intro k h
    show itM D k (txM D d (k + 1)) = itM E k (txM E d (k + 1))
    rw [ih (k + 1) (fun j a b => h j (by omega) (by omega))]
    unfold itM mkM
    rw [h k (by omega) (by omega)]
theorem okD_eq {D E : Nat → Nat → Nat} {k : Nat} (h : D k = E k) (g : okD D k) : okD E k := by
  unfold okD at *
  rw [← h]
  exact g
theorem zS_eq {D E : Nat → Nat → Nat} {k : Nat} {Z : pY} (h : D k = E k) (g : zS D k Z) : zS E k Z := by
  unfold zS vD wD at *
  rw [← h]
  exact g
theorem zS_of {D : Nat → Nat → Nat} {k : Nat} {Z Z' : pY} (h : ∀ K i, K = 5 ∨ K = 6 → Z' K k i = Z K k i) (g : zS D k Z) : zS D k Z' := by
  obtain ⟨a, b, c⟩ := g
  exact ⟨fun z => by rw [h 6 1 (by omega)]; exact a z, fun z i i1 i2 => by rw [h 6 i (by omega)]; exact b z i i1 i2, fun i i1 i2 => by rw [h 5 i (by omega)]; exact c i i1 i2⟩
