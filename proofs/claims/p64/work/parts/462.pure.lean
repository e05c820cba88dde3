/-! WORLD(DRAWS): the machine that is drawn, and its text -/
theorem ow_len {b : Bool} {t : Nat} : (OW b t).length ≤ 1 + (wrd t).length := by
  cases b
  · exact Nat.zero_le _
  · unfold OW
    rw [if_pos rfl, List.length_append]
    exact Nat.le_refl _
theorem line_len {k v s c : Nat} {u d : Bool} {o : Option (Nat × Nat × Bool)} (hk : k < 6) (hv : v < 100) (hs : s < 100) (hc : c < 100) (ho : afO o) : (((((((wrd 9 ++ fld k) ++ fld v) ++ fld s) ++ fld c) ++ OW u 3) ++ (OW d 4 ++ afT k o))).length ≤ 52 := by
  have a1 := wq9
  have a2 := fld_1 (show k ≤ 9 by omega)
  have a3 := fld_2 (show v ≤ 99 by omega)
  have a4 := fld_2 (show s ≤ 99 by omega)
  have a5 := fld_2 (show c ≤ 99 by omega)
  have a6 := ow_len (b := u) (t := 3)
  have a7 := ow_len (b := d) (t := 4)
  have b3 : (wrd 3).length = 8 := by decide
  have b4 : (wrd 4).length = 7 := by decide
  have a8 : (afT k o).length ≤ 17 := by
    rcases o with _ | ⟨p, r, g⟩
    · exact Nat.zero_le _
    · obtain ⟨p15, r7⟩ := ho p r g rfl
      have c1 := wq12
      have c2 := fld_2 (show p ≤ 99 by omega)
      have c3 := fld_1 (show r ≤ 9 by omega)
      have c4 := ow_len (b := g) (t := 6)
      have b6 : (wrd 6).length = 4 := by decide
      unfold afT
      simp only [List.length_append]
      omega
  simp only [List.length_append]
  omega
def setD (T : Nat → Nat → Nat) (k : Nat) (f : Nat → Nat) : Nat → Nat → Nat := fun j => if j = k then f else T j
theorem setD_k {T : Nat → Nat → Nat} {k : Nat} {f : Nat → Nat} : setD T k f k = f := if_pos rfl
theorem setD_n {T : Nat → Nat → Nat} {k j : Nat} {f : Nat → Nat} (h : j ≠ k) : setD T k f j = T j := if_neg h
theorem wi_233 {xs : Nat → Int32} {L n : Nat} {X : bsX} (hn6 : n ≤ 6) : ∀ (d k m : Nat) (t : Nat → Nat) (nn Dn : Nat) (Z : pY), k + d = n → d < m → ln Z = n → nn ≤ 49 + 52 * k → Dn + 16 * d < 999000 → (∀ j, k ≤ j → j < n → Z 6 j 1 = -1 ∧ ∀ i, 2 ≤ i → i ≤ 8 → Z 5 j i = 0) →
    ∃ t' nn' D' Z' T, hX11_init_233 xs L m t nn (nI k) X Z Dn = some (0, X, Z', D', t', nn') ∧ tl t' nn' = tl t nn ++ txM T d k ∧ nn' ≤ 49 + 52 * n ∧ D' ≤ Dn + 16 * d ∧ (∀ j, k ≤ j → j < n → okD T j ∧ zS T j Z') ∧ (∀ K j i, ¬ ((K = 5 ∨ K = 6) ∧ k ≤ j ∧ j < n) → Z' K j i = Z K j i) := by
  intro d
  induction d with
  | zero =>
    intro k m t nn Dn Z hk hm hl hnn hD hb
    obtain ⟨m, rfl⟩ : ∃ q, m = q + 1 := ⟨m - 1, by omega⟩
    obtain rfl : k = n := (by omega)
    refine ⟨t, nn, Dn, Z, fun _ _ => 0, by rw [hX11_init_233, hl, if_pos (pz_nn k)], ?_, hnn, by omega, fun j j1 j2 => by omega, fun _ _ _ _ => rfl⟩
    show _ = tl t nn ++ []
    rw [List.append_nil]
  | succ d ih =>
    intro k m t nn Dn Z hk hm hl hnn hD hb
    obtain ⟨m, rfl⟩ : ∃ q, m = q + 1 := ⟨m - 1, by omega⟩
    have hkn : k < n := by omega
    obtain ⟨bk6, bk5⟩ := hb k (Nat.le_refl k) hkn
    rw [hX11_init_233, hl, if_neg (pz_le hkn hn6), if_pos (by omega)]
    by_cases c : dVal xs L Dn (0 : Int32) (4 : Int32) = 0
    · rw [if_pos c]
      unfold hX11_init_585
      rw [pu_succ]
      obtain ⟨t', nn', D', Z', T, h1, h2, h3, h4, h5, h6⟩ := ih (k + 1) m t nn (Dn + 1) Z (by omega) (by omega) hl (by omega) (by omega) (fun j j1 j2 => hb j (by omega) j2)
      refine ⟨t', nn', D', Z', setD T k (fun i => if i = 2 then 1 else 0), h1, ?_, h3, by omega, fun j j1 j2 => ?_, fun K j i h => h6 K j i (by omega)⟩
      · rw [h2]
        show _ = tl t nn ++ itM (setD T k (fun i => if i = 2 then 1 else 0)) k (txM (setD T k (fun i => if i = 2 then 1 else 0)) d (k + 1))
        unfold itM
        rw [setD_k, if_pos (show (if (0 : Nat) = 2 then 1 else 0) = 0 from rfl), show txM (setD T k (fun i => if i = 2 then 1 else 0)) d (k + 1) = txM T d (k + 1) from txM_eq d (k + 1) (fun j a b => setD_n (by omega))]
      · by_cases e : j = k
        · subst e
          refine ⟨?_, ?_⟩
          · unfold okD
            rw [setD_k]
            decide
          · refine ⟨fun _ => by rw [h6 6 j 1 (by omega)]; exact bk6, fun z => absurd (by rw [setD_k]; rfl) z, fun i i1 i2 => ?_⟩
            unfold wD
            rw [setD_k, if_pos (show (if (0 : Nat) = 2 then 1 else 0) = 0 from rfl), h6 5 j i (by omega)]
            exact bk5 i i1 i2
        · obtain ⟨a, b⟩ := h5 j (by omega) j2
          exact ⟨okD_eq (setD_n e).symm a, zS_eq (setD_n e).symm b⟩
    · rw [if_neg c, if_pos (pz_in hkn hn6), if_pos (by omega), if_pos (by omega), pu_ix k (by omega)]
      obtain ⟨v, _, v30, ev⟩ := dv_in xs L (Dn + 1) 0 30 (by omega) (by omega)
      have ev' : dVal xs L (Dn + 1) (0 : Int32) (30 : Int32) = nI v := ev
      rw [ev']
      have go : ∀ y6, (y6 = nI 12 ∨ y6 = nI 5) → ∃ t' nn' D' Z' T, hX11_init_294 xs L (hX11_init_233 xs L m) t nn (nI k) k k (upd (fun _ => (0 : Int32)) 0 (nI v)) 1 1 y6 X Z (Dn + 1 + 1 + 1) = some (0, X, Z', D', t', nn') ∧ tl t' nn' = tl t nn ++ txM T (d + 1) k ∧ nn' ≤ 49 + 52 * n ∧ D' ≤ Dn + 16 * (d + 1) ∧ (∀ j, k ≤ j → j < n → okD T j ∧ zS T j Z') ∧ (∀ K j i, ¬ ((K = 5 ∨ K = 6) ∧ k ≤ j ∧ j < n) → Z' K j i = Z K j i) := by
        intro y6 hy
        obtain ⟨t1, n1, D1, s, cc, u, dd, o, o1, s1, s2, c2, d2, e1, e2⟩ := wi_294 (xs := xs) (L := L) (K := hX11_init_233 xs L m) (t := t) (n := nn) (k := k) (v := v) (Dn := Dn + 1 + 1 + 1) (f1 := upd (fun _ => (0 : Int32)) 0 (nI v)) (X := X) (Z := Z) (by omega) (by omega) (by omega) (by simp [upd]) (by omega) hy
        have hlen := line_len (k := k) (v := v) (s := s) (c := cc) (u := u) (d := dd) (o := o) (by omega) (by omega) s2 c2 o1
        have hn1 : n1 ≤ nn + 52 := by
          have h1 : (tl t1 n1).length = n1 := tl_len _ _
          rw [e2, List.length_append, tl_len] at h1
          omega
        have hl1 : ln (afZ k o (zImg5 k v s cc u dd Z)) = n := by
          have : ln (afZ k o (zImg5 k v s cc u dd Z)) = ln Z := by
            unfold ln
            rw [afZ_no (by omega)]
          rw [this]
          exact hl
        rw [e1, pu_succ]
        obtain ⟨t', nn', D', Z', T, h1, h2, h3, h4, h5, h6⟩ := ih (k + 1) m t1 n1 D1 _ (by omega) (by omega) hl1 (by omega) (by omega) (fun j j1 j2 => by
          obtain ⟨a, b⟩ := hb j (by omega) j2
          exact ⟨by rw [afZ_no (by omega)]; exact a, fun i i1 i2 => by rw [afZ_no (by omega)]; exact b i i1 i2⟩)
        refine ⟨t', nn', D', Z', setD T k (rowD v s cc u dd o), h1, ?_, h3, by omega, fun j j1 j2 => ?_, fun K j i h => by rw [h6 K j i (by omega), afZ_no (by omega)]⟩
        · rw [h2, e2]
          show _ = tl t nn ++ itM (setD T k (rowD v s cc u dd o)) k (txM (setD T k (rowD v s cc u dd o)) d (k + 1))
          rw [rowD_it setD_k, show txM (setD T k (rowD v s cc u dd o)) d (k + 1) = txM T d (k + 1) from txM_eq d (k + 1) (fun j a b => setD_n (by omega)), w9_2, afT_2]
          simp only [List.append_assoc, List.cons_append]
        · by_cases e : j = k
          · subst e
            refine ⟨(rowD_ok setD_k (by omega) s1 s2 c2 o1).1, zS_of (fun K i hK => h6 K j i (by omega)) (rowD_zS setD_k bk5)⟩
          · obtain ⟨a, b⟩ := h5 j (by omega) j2
            exact ⟨okD_eq (setD_n e).symm a, zS_eq (setD_n e).symm b⟩
      by_cases c2 : dVal xs L (Dn + 1 + 1) (0 : Int32) (1 : Int32) = 0
      · rw [if_pos c2]
        exact go 12 (Or.inl rfl)
      · rw [if_neg c2]
        exact go 5 (Or.inr rfl)
theorem w8_1 : wrd 8 = 59 :: wrd 1 := by decide
theorem sl_tl (M : List Int32) : ∀ (d : Nat) (t : Nat → Nat) (nn : Nat), tl (slT d t nn) (slN d nn) ++ M = tl t nn ++ slM d M := by
  intro d
  induction d with
  | zero => intro t nn; rfl
  | succ d ih =>
    intro t nn
    show tl (slT d (sb_cat t nn (stT 8)) (nn + stN 8)) (slN d (nn + stN 8)) ++ M = tl t nn ++ (59 :: (wrd 1 ++ slM d M))
    rw [ih, tl_cat, tl_8, w8_1]
    simp only [List.append_assoc, List.cons_append]
theorem slN_eq : ∀ d n, slN d n = n + 5 * d := by
  intro d
  induction d with
  | zero => intro n; rfl
  | succ d ih =>
    intro n
    show slN d (n + stN 8) = _
    rw [ih, show stN 8 = 5 from rfl]
    omega
theorem hd_tl {w l f o : Nat} (hw : w < 100) (hl : l ≤ 9) (hf : f ≤ 7) (ho : o < 100) : tl (hdT (nI w) (nI l) (nI f) (nI o)) (hdN (nI w) (nI l) (nI f) (nI o)) = (((wrd 0 ++ fld w) ++ fld l) ++ fld f) ++ fld o := by
  have dw := tl_dec (k := w) (by omega)
  have dl := tl_dec (k := l) (by omega)
  have df := tl_dec (k := f) (by omega)
  have d0 := tl_dec (k := o) (by omega)
  unfold hdT hdN
  rw [pu_ix w (by omega), pu_ix l (by omega), pu_ix f (by omega), pu_ix o (by omega)]
  simp only [tl_cat, tl_14, tl_c32, dw, dl, df, d0, fld, List.append_assoc, List.cons_append, List.nil_append]
def wZ0 (w l f o n : Nat) : pY := fun K j i => if K = 0 ∧ j = 0 then (if i = 4 then nI n else if i = 5 then nI w else if i = 6 then nI l else if i = 7 then nI f else if i = 8 then nI o else if i = 11 then -1 else 0) else if K = 2 ∧ j = 0 ∧ i = 1 then -1 else if K = 6 ∧ i = 1 then -1 else 0
/-- the machine and the text that the draws give -/
theorem wo_ok (xs : Nat → Int32) (L : Nat) (X : bsX) : ∃ w l f o n, (1 ≤ w ∧ w < 100 ∧ 1 ≤ l ∧ l ≤ 9 ∧ f ≤ 7 ∧ o < 100 ∧ 1 ≤ n ∧ n ≤ 6) ∧ (aWat xs L 0 = nI w ∧ aLim xs L 0 = nI l ∧ aRet xs L 0 = nI f ∧ aFlo xs L 0 = nI o ∧ dVal xs L (aDe xs L 0) 1 6 = nI n ∧ aDe xs L 0 ≤ 8) ∧
    ∃ t' nn' D' Z' T, hX11_init_233 xs L 8 (slT n (hdT (nI w) (nI l) (nI f) (nI o)) (hdN (nI w) (nI l) (nI f) (nI o))) (slN n (hdN (nI w) (nI l) (nI f) (nI o))) 0 X (wZ0 w l f o n) (aDe xs L 0 + 1) = some (0, X, Z', D', t', nn') ∧ tl t' nn' = lawL w l f o n T ∧ nn' ≤ 512 ∧ D' ≤ 200 ∧ (∀ k, k < n → okD T k) ∧ zW w l f o n T Z' := by
  obtain ⟨w, w1, w99, ew⟩ : ∃ w, 1 ≤ w ∧ w ≤ 99 ∧ aWat xs L 0 = nI w := by
    unfold aWat
    by_cases c : dVal xs L 0 0 1 = 0
    · rw [if_pos c]; exact dv_in xs L (0 + 1) 1 99 (by omega) (by omega)
    · rw [if_neg c]
      obtain ⟨w, a, b, e⟩ := dv_in xs L (0 + 1) 1 9 (by omega) (by omega)
      exact ⟨w, a, by omega, e⟩
  obtain ⟨l, l1, l9, el⟩ : ∃ l, 1 ≤ l ∧ l ≤ 9 ∧ aLim xs L 0 = nI l := by
    unfold aLim
    by_cases c : dVal xs L ((0 + 1) + 1) 0 1 = 0
    · rw [if_pos c]; exact dv_in xs L ((0 + 1) + 1 + 1) 1 9 (by omega) (by omega)
    · rw [if_neg c]
      obtain ⟨l, a, b, e⟩ := dv_in xs L ((0 + 1) + 1 + 1) 1 3 (by omega) (by omega)
      exact ⟨l, a, by omega, e⟩
  obtain ⟨f, _, f7, ef⟩ : ∃ f, 0 ≤ f ∧ f ≤ 7 ∧ aRet xs L 0 = nI f := dv_in xs L (((0 + 1) + 1 + 1) + 1) 0 7 (by omega) (by omega)
  obtain ⟨o, o20, eo⟩ : ∃ o, o ≤ 20 ∧ aFlo xs L 0 = nI o := by
    unfold aFlo
    by_cases c : dVal xs L ((((0 + 1) + 1 + 1) + 1) + 1) 0 1 = 0
    · rw [if_pos c]; exact ⟨0, by omega, rfl⟩
    · rw [if_neg c]
      obtain ⟨o, _, b, e⟩ := dv_in xs L (((0 + 1) + 1 + 1) + 1 + 1 + 1) 0 20 (by omega) (by omega)
      exact ⟨o, b, e⟩
  have hde : aDe xs L 0 ≤ 8 := by
    unfold aDe
    split <;> omega
  obtain ⟨n, n1, n6, en⟩ := dv_in xs L (aDe xs L 0) 1 6 (by omega) (by omega)
  refine ⟨w, l, f, o, n, ⟨w1, by omega, l1, l9, f7, by omega, n1, n6⟩, ⟨ew, el, ef, eo, en, hde⟩, ?_⟩
  have hT := hd_tl (w := w) (l := l) (f := f) (o := o) (by omega) l9 f7 (by omega)
  have hln : ln (wZ0 w l f o n) = n := by
    unfold ln wZ0
    exact pu_ix n (by omega)
  have hN : hdN (nI w) (nI l) (nI f) (nI o) ≤ 19 := by
    have h := tl_len (hdT (nI w) (nI l) (nI f) (nI o)) (hdN (nI w) (nI l) (nI f) (nI o))
    rw [hT] at h
    have a0 := wq0
    have a1 := fld_2 (show w ≤ 99 by omega)
    have a2 := fld_2 (show l ≤ 99 by omega)
    have a3 := fld_2 (show f ≤ 99 by omega)
    have a4 := fld_2 (show o ≤ 99 by omega)
    simp only [List.length_append] at h
    omega
  obtain ⟨t', nn', D', Z', T, h1, h2, h3, h4, h5, h6⟩ := wi_233 (xs := xs) (L := L) (X := X) n6 n 0 8 (slT n (hdT (nI w) (nI l) (nI f) (nI o)) (hdN (nI w) (nI l) (nI f) (nI o))) (slN n (hdN (nI w) (nI l) (nI f) (nI o))) (aDe xs L 0 + 1) (wZ0 w l f o n) (by omega) (by omega) hln (by rw [slN_eq]; omega) (by omega) (fun j _ hj => by
    refine ⟨?_, fun i i1 i2 => ?_⟩
    · unfold wZ0
      rw [if_neg (by omega), if_neg (by omega), if_pos (by omega)]
    · unfold wZ0
      rw [if_neg (by omega), if_neg (by omega), if_neg (by omega)])
  refine ⟨t', nn', D', Z', T, h1, ?_, by omega, by omega, fun k hk => (h5 k (by omega) hk).1, ⟨?_, ?_, ?_, ?_⟩, ?_, fun i i1 i2 => ?_, fun k hk => (h5 k (by omega) hk).2⟩
  · rw [h2, sl_tl, hT]
    unfold lawL
    simp only [List.append_assoc]
  · rw [h6 _ _ _ (by omega)]; rfl
  · rw [h6 _ _ _ (by omega)]; rfl
  · rw [h6 _ _ _ (by omega)]; rfl
  · refine ⟨?_, ?_⟩ <;> rw [h6 _ _ _ (by omega)] <;> rfl
  · refine ⟨?_, ?_, ?_, ?_, ?_, ?_⟩ <;> rw [h6 _ _ _ (by omega)] <;> rfl
  · rw [h6 _ _ _ (by omega)]
    unfold wZ0
    rw [if_neg (by omega), if_neg (by omega), if_neg (by omega)]
