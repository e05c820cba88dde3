/-! CHANGES: the class's side -/
theorem c30f : ((3 : Nat) = 0) = False := eq_false (by decide)
def AK (X : bsX) : Prop := X 13 0 0 7 = 1 ∧ ∃ np ck, np < 8 ∧ ck ≤ 8 ∧ X 13 0 0 8 = nI np ∧ X 13 0 0 9 = nI ck
theorem ak_rem {Q n t : Nat} {X : bsX} (h : AK X) (hw : wm Q n t (X 0)) : ∃ X1, fX8_remember X = some X1 ∧ X1 0 = X 0 ∧ X1 13 0 0 7 = 1 ∧ ∀ Y, AK (up X1 0 Y) := by
  obtain ⟨h7, np, ck, a, b, c, d⟩ := h
  refine ⟨_, qX8_remember a b c d hw, ?_, ?_, ?_⟩
  · funext K j i
    unfold c13 bsWr
    rw [if_neg (by omega), if_neg (by omega), up_ne _ _ (by omega)]
  · unfold c13 bsWr
    rw [if_neg (by omega), if_neg (by omega), up_ne _ _ (by omega)]
    exact h7
  · intro Y
    refine ⟨?_, (np + 1) % 8, min (ck + 1) 8, by omega, by omega, ?_, ?_⟩
    · rw [up_ne _ _ (by decide)]
      unfold c13 bsWr
      rw [if_neg (by omega), if_neg (by omega), up_ne _ _ (by omega)]
      exact h7
    · rw [up_ne _ _ (by decide)]
      unfold c13 bsWr
      rw [if_neg (by omega), if_pos (by omega)]
    · rw [up_ne _ _ (by decide)]
      unfold c13 bsWr
      rw [if_pos (by omega)]
theorem q8_on {X : bsX} (h : X 13 0 0 7 = 1) (on : ¬ X 0 0 0 10 = 0) : fX8_requireOn X = some (0, 0, X) := by
  unfold fX8_requireOn
  rw [q8_req h]
  simp only [Option.bind_some, if_true]
  rw [if_neg on]
theorem q8_off {X : bsX} (h : X 13 0 0 7 = 1) (off : X 0 0 0 10 = 0) : fX8_requireOn X = some (3, 0, X) := by
  unfold fX8_requireOn
  rw [q8_req h]
  simp only [Option.bind_some, if_true]
  rw [if_pos off]
theorem ch_power {Q n t : Nat} {X : bsX} (h : AK X) (hw : wm Q n t (X 0)) (hQ : Q < 1000000) (off : X 0 0 0 10 = 0) : ∃ X', fX8_power X = some (0, (sBoots 0 (X 0)).2 0 0 11, X') ∧ X' 0 = (sBoots 0 (X 0)).2 ∧ AK X' := by
  obtain ⟨X1, r1, r2, r3, r4⟩ := ak_rem h hw
  have hb := qX3_bootBy (g := 0) (c := 0) (X := X1) (Q := Q) (n := n) (t := t) hQ (by rw [r2]; exact wm_boot0 hw)
  rw [r2] at hb
  refine ⟨up X1 0 (sBoots 0 (X 0)).2, ?_, up_at _ _ _, r4 _⟩
  unfold fX8_power
  rw [q8_req h.1]
  simp only [Option.bind_some, if_true]
  rw [if_pos off, r1]
  simp only [Option.bind_some, hb, up_at]
theorem ch_powerN {X : bsX} (h : AK X) (on : ¬ X 0 0 0 10 = 0) : fX8_power X = some (3, 0, X) := by
  unfold fX8_power
  rw [q8_req h.1]
  simp only [Option.bind_some, if_true]
  rw [if_neg on]
theorem ch_reboot {Q n t : Nat} {X : bsX} (h : AK X) (hw : wm Q n t (X 0)) (hQ : Q < 1000000) (on : ¬ X 0 0 0 10 = 0) : ∃ X', fX8_reboot X = some (0, (sBoots 1 (X 0)).2 0 0 11, X') ∧ X' 0 = (sBoots 1 (X 0)).2 ∧ AK X' := by
  obtain ⟨X1, r1, r2, r3, r4⟩ := ak_rem h hw
  have hb := qX3_bootBy (g := 0) (c := 1) (X := X1) (Q := Q) (n := n) (t := t) hQ (by rw [r2]; exact wm_boot0 hw)
  rw [r2] at hb
  refine ⟨up X1 0 (sBoots 1 (X 0)).2, ?_, up_at _ _ _, r4 _⟩
  unfold fX8_reboot
  rw [q8_on h.1 on]
  simp only [Option.bind_some, if_true]
  rw [r1]
  simp only [Option.bind_some, hb, up_at]
theorem ch_rebootN {X : bsX} (h : AK X) (off : X 0 0 0 10 = 0) : fX8_reboot X = some (3, 0, X) := by
  unfold fX8_reboot
  rw [q8_off h.1 off]
  simp only [Option.bind_some, c30f, if_false]
theorem ch_cut {Q n t : Nat} {X : bsX} (h : AK X) (hw : wm Q n t (X 0)) (on : ¬ X 0 0 0 10 = 0) : ∃ X', fX8_cut X = some (0, X 0 2 0 1, X') ∧ X' 0 = sCut (X 0) ∧ AK X' := by
  obtain ⟨X1, r1, r2, r3, r4⟩ := ak_rem h hw
  refine ⟨up X1 0 (sCut (X 0)), ?_, up_at _ _ _, r4 _⟩
  unfold fX8_cut
  rw [q8_on h.1 on]
  simp only [Option.bind_some, if_true]
  rw [r1]
  simp only [Option.bind_some, qX3_off, r2]
theorem ch_cutN {X : bsX} (h : AK X) (off : X 0 0 0 10 = 0) : fX8_cut X = some (3, 0, X) := by
  unfold fX8_cut
  rw [q8_off h.1 off]
  simp only [Option.bind_some, c30f, if_false]
theorem ch_tick {m : Nat} {Q n t : Nat} {X : bsX} (h : AK X) (hw : wm Q n t (X 0)) (m1 : 1 ≤ m) (m3 : m ≤ 300) (htm : t + m ≤ 9999) (hQ : Q + 2 * m < 900000) : ∃ X', fX8_tick (nI m) X = some (0, sTicks m (X 0) 3 0 4 - X 0 3 0 4, X') ∧ X' 0 = sTicks m (X 0) ∧ AK X' := by
  obtain ⟨X1, r1, r2, r3, r4⟩ := ak_rem h hw
  have hL := qX8_tickL (B := X1) (m := m) (n := n) (x2 := X 0 3 0 4) (by omega) m 0 bsF Q t (X 0) (by omega) (by unfold bsF; omega) (by omega) hw
  have hself : up X1 0 (X 0) = X1 := by rw [← r2]; exact up_id _ _
  rw [hself] at hL
  refine ⟨up X1 0 (sTicks m (X 0)), ?_, up_at _ _ _, r4 _⟩
  have hwm : fX8_requireWithin (nI m) 1 300 X = some (0, 0, X) := by rw [rw_within, if_pos ⟨(pu_le 1 m (by omega) (by omega)).mpr m1, (pu_le m 300 (by omega) (by omega)).mpr m3⟩]
  have hwi : fX8_requireWithin (nI (t + m)) 0 9999 X = some (0, 0, X) := by rw [rw_within, if_pos ⟨(pu_le 0 (t + m) (by omega) (by omega)).mpr (Nat.zero_le _), (pu_le (t + m) 9999 (by omega) (by omega)).mpr htm⟩]
  have htm2 : X 0 0 0 9 + nI m = nI (t + m) := by rw [hw.tim, pu_add]
  unfold fX8_tick
  rw [q8_req h.1]
  simp only [Option.bind_some, if_true, hwm, htm2, hwi, r1, r2]
  exact hL
theorem ch_tickN {X : bsX} (h : AK X) : fX8_tick 301 X = some (3, 0, X) := by
  unfold fX8_tick
  rw [q8_req h.1]
  simp only [Option.bind_some, if_true, rw_within]
  rw [if_neg (show ¬ ((1 : Int32) ≤ 301 ∧ (301 : Int32) ≤ 300) by decide)]
  simp only [Option.bind_some, c30f, if_false]
theorem ch_ahead {X : bsX} (h : AK X) : fX8_stateIn 301 X = some (3, 0, X) := by
  unfold fX8_stateIn fX8_lookAhead
  rw [q8_req h.1]
  simp only [Option.bind_some, if_true, rw_within]
  rw [if_neg (show ¬ ((0 : Int32) ≤ 301 ∧ (301 : Int32) ≤ 300) by decide)]
  simp only [Option.bind_some, c30f, if_false]
theorem ch_begin {k : Nat} {v s c m : Int32} {Q n t : Nat} {X : bsX} (h : AK X) (hw : wm Q n t (X 0)) (hk : k < n) (on : ¬ X 0 0 0 10 = 0) (hr : ¬ X 0 0 0 11 = nI k) (hi : X 0 2 0 1 = -1) (g1 : (0 : Int32) ≤ v ∧ v ≤ 99) (g2 : (1 : Int32) ≤ s ∧ s ≤ 99) (g3 : (0 : Int32) ≤ c ∧ c ≤ 99) (g4 : (1 : Int32) ≤ m ∧ m ≤ 99) :
    ∃ X', fX8_begin (nI k) v s c m X = some (0, X 0 0 0 9 + m, X') ∧ X' 0 = sBeg k v s c m (X 0) ∧ AK X' := by
  have h6 := hw.hn
  obtain ⟨X1, r1, r2, r3, r4⟩ := ak_rem h hw
  have hin : fX2_isOn 0 X = some (0, X) := by unfold fX2_isOn; rw [hi]; rfl
  refine ⟨up X1 0 (sBeg k v s c m (X 0)), ?_, up_at _ _ _, r4 _⟩
  unfold fX8_begin
  rw [q8_slot h.1 hw hk]
  simp only [Option.bind_some, if_true, rw_within]
  rw [if_pos g1]
  simp only [Option.bind_some, if_true]
  rw [if_pos g2]
  simp only [Option.bind_some, if_true]
  rw [if_pos g3]
  simp only [Option.bind_some, if_true]
  rw [if_pos g4]
  simp only [Option.bind_some, if_true, q8_on h.1 on, hin, r1, pu_inT (show k < 6 by omega) (show 6 < 2147483648 by decide), pu_ix6 (show k < 6 by omega)]
  rw [if_neg (fun q => hr q.symm)]
  refine qX_beg.trans ?_
  rw [r2, sBeg_0 (by decide) (by decide) (by decide)]
theorem ch_beginN {k : Nat} {v s c m : Int32} {Q n t : Nat} {X : bsX} (h : AK X) (hw : wm Q n t (X 0)) (hk : k < n) (g1 : (0 : Int32) ≤ v ∧ v ≤ 99) (g2 : (1 : Int32) ≤ s ∧ s ≤ 99) (g3 : (0 : Int32) ≤ c ∧ c ≤ 99) (g4 : (1 : Int32) ≤ m ∧ m ≤ 99) (hb : X 0 0 0 10 = 0 ∨ ¬ X 0 2 0 1 = -1 ∨ X 0 0 0 11 = nI k) : fX8_begin (nI k) v s c m X = some (3, 0, X) := by
  unfold fX8_begin
  rw [q8_slot h.1 hw hk]
  simp only [Option.bind_some, if_true, rw_within]
  rw [if_pos g1]
  simp only [Option.bind_some, if_true]
  rw [if_pos g2]
  simp only [Option.bind_some, if_true]
  rw [if_pos g3]
  simp only [Option.bind_some, if_true]
  rw [if_pos g4]
  by_cases on : X 0 0 0 10 = 0
  · simp only [Option.bind_some, if_true, q8_off h.1 on, c30f, if_false]
  · simp only [Option.bind_some, if_true, q8_on h.1 on]
    by_cases e : nI k = X 0 0 0 11
    · rw [if_pos e]
    · rw [if_neg e]
      have hin : fX2_isOn 0 X = some (1, X) := by
        rcases hw.hor with q | ⟨q1, q2⟩
        · exact absurd (hb.resolve_left on) (fun z => z.elim (fun w => w q) (fun w => e w.symm))
        · unfold fX2_isOn; rw [if_neg q1]
      simp only [hin, Option.bind_some]
      rw [if_neg (by decide)]
theorem ch_begin100 {k : Nat} {Q n t : Nat} {X : bsX} (h : AK X) (hw : wm Q n t (X 0)) (hk : k < n) : fX8_begin (nI k) 100 1 0 1 X = some (3, 0, X) := by
  unfold fX8_begin
  rw [q8_slot h.1 hw hk]
  simp only [Option.bind_some, if_true, rw_within]
  rw [if_neg (show ¬ ((0 : Int32) ≤ 100 ∧ (100 : Int32) ≤ 99) by decide)]
  simp only [Option.bind_some, c30f, if_false]
theorem ch_spoil {k u : Nat} {v : Int32} {Q n t : Nat} {X : bsX} (h : AK X) (hw : wm Q n t (X 0)) (hk : k < n) (g1 : (0 : Int32) ≤ v ∧ v ≤ 2) (hu : (X 0 2 0 1 = nI k ∧ u = 6) ∨ (¬ X 0 2 0 1 = nI k ∧ u = k)) (hp : ¬ X 0 6 u 0 = 0) (i4 : is01 (X 0 6 u 4)) (i5 : is01 (X 0 6 u 5)) :
    ∃ X', fX8_spoil (nI k) v X = some (0, sSpoA u v (X 0), X') ∧ X' 0 = sSpo u v (X 0) ∧ AK X' := by
  have h6 := hw.hn
  obtain ⟨X1, r1, r2, r3, r4⟩ := ak_rem h hw
  have hq := qX8_spo (u := u) (h := v) (R := X1) (by rw [r2]; exact i4) (by rw [r2]; exact i5)
  have hc2 : (if nI k = X 0 2 0 1 then fX8_spoil_30 (nI k) v (1 : Int32) X else fX8_spoil_30 (nI k) v (0 : Int32) X) = fX8_spoil_60 v u X := by
    rcases hu with ⟨e, eu⟩ | ⟨e, eu⟩
    · rw [if_pos e.symm, eu]
      unfold fX8_spoil_30
      rw [if_neg (by decide)]
    · rw [if_neg (fun q => e q.symm), eu]
      unfold fX8_spoil_30
      rw [if_pos rfl, if_pos ((pu_in k 6 (by omega)).mpr (by omega)), pu_ix k (by omega)]
  refine ⟨up X1 0 (sSpo u v (X 0)), ?_, up_at _ _ _, r4 _⟩
  unfold fX8_spoil
  rw [q8_slot h.1 hw hk]
  simp only [Option.bind_some, if_true, rw_within]
  rw [if_pos g1]
  simp only [Option.bind_some, if_true]
  rw [hc2]
  unfold fX8_spoil_60
  rw [if_neg hp, r1]
  simp only [Option.bind_some]
  rw [hq, r2]
theorem ch_spoilN {k : Nat} {v : Int32} {Q n t : Nat} {X : bsX} (h : AK X) (hw : wm Q n t (X 0)) (hk : k < n) (g1 : (0 : Int32) ≤ v ∧ v ≤ 2) (hu : ¬ X 0 2 0 1 = nI k) (hp : X 0 6 k 0 = 0) : fX8_spoil (nI k) v X = some (3, 0, X) := by
  have h6 := hw.hn
  unfold fX8_spoil
  rw [q8_slot h.1 hw hk]
  simp only [Option.bind_some, if_true, rw_within]
  rw [if_pos g1]
  simp only [Option.bind_some, if_true]
  rw [if_neg (fun q => hu q.symm)]
  unfold fX8_spoil_30 fX8_spoil_60
  rw [if_pos rfl, if_pos ((pu_in k 6 (by omega)).mpr (by omega)), pu_ix k (by omega), if_pos hp]
theorem ch_spoil3 {k : Nat} {Q n t : Nat} {X : bsX} (h : AK X) (hw : wm Q n t (X 0)) (hk : k < n) : fX8_spoil (nI k) 3 X = some (3, 0, X) := by
  unfold fX8_spoil
  rw [q8_slot h.1 hw hk]
  simp only [Option.bind_some, if_true, rw_within]
  rw [if_neg (show ¬ ((0 : Int32) ≤ 3 ∧ (3 : Int32) ≤ 2) by decide)]
  simp only [Option.bind_some, c30f, if_false]
theorem ch_mark {k : Nat} {p r : Int32} {Q n t : Nat} {X : bsX} (h : AK X) (hw : wm Q n t (X 0)) (hk : k < n) (g1 : (0 : Int32) ≤ p ∧ p ≤ 15) (g2 : (0 : Int32) ≤ r ∧ r ≤ 7) (hp : ¬ X 0 6 k 0 = 0) : ∃ X', fX8_mark (nI k) p r X = some (0, X 0 5 k 2, X') ∧ X' 0 = wr (wr (X 0) 5 k 2 p) 5 k 3 r ∧ AK X' := by
  have h6 := hw.hn
  obtain ⟨X1, r1, r2, r3, r4⟩ := ak_rem h hw
  refine ⟨up X1 0 (wr (wr (X 0) 5 k 2 p) 5 k 3 r), ?_, up_at _ _ _, r4 _⟩
  unfold fX8_mark
  rw [q8_slot h.1 hw hk]
  simp only [Option.bind_some, if_true, rw_within]
  rw [if_pos g1]
  simp only [Option.bind_some, if_true]
  rw [if_pos g2]
  simp only [Option.bind_some, if_true, pu_inT (show k < 6 by omega) (show 6 < 2147483648 by decide), pu_ix6 (show k < 6 by omega)]
  rw [if_neg hp, r1]
  simp only [Option.bind_some, up_wr, up_at, up_up, r2]
theorem ch_markN {k : Nat} {p r : Int32} {Q n t : Nat} {X : bsX} (h : AK X) (hw : wm Q n t (X 0)) (hk : k < n) (g1 : (0 : Int32) ≤ p ∧ p ≤ 15) (g2 : (0 : Int32) ≤ r ∧ r ≤ 7) (hp : X 0 6 k 0 = 0) : fX8_mark (nI k) p r X = some (3, 0, X) := by
  have h6 := hw.hn
  unfold fX8_mark
  rw [q8_slot h.1 hw hk]
  simp only [Option.bind_some, if_true, rw_within]
  rw [if_pos g1]
  simp only [Option.bind_some, if_true]
  rw [if_pos g2]
  simp only [Option.bind_some, if_true, pu_inT (show k < 6 by omega) (show 6 < 2147483648 by decide), pu_ix6 (show k < 6 by omega)]
  rw [if_pos hp]
theorem ch_mark16 {k : Nat} {Q n t : Nat} {X : bsX} (h : AK X) (hw : wm Q n t (X 0)) (hk : k < n) : fX8_mark (nI k) 16 0 X = some (3, 0, X) := by
  unfold fX8_mark
  rw [q8_slot h.1 hw hk]
  simp only [Option.bind_some, if_true, rw_within]
  rw [if_neg (show ¬ ((0 : Int32) ≤ 16 ∧ (16 : Int32) ≤ 15) by decide)]
  simp only [Option.bind_some, c30f, if_false]
theorem ch_num {w : Nat} {v lo hi : Int32} {Q n t : Nat} {X : bsX} (h : AK X) (hw : wm Q n t (X 0)) (hf : fX8_setNumber (nI w) v X = ((fX8_requireWithin v lo hi X).bind fun r1 => if r1.1 = 0 then ((fX8_remember r1.2.2).bind fun r4 => some (0, (r4 0 0 0 (w + 3)), (bsWr r4 0 0 0 (w + 3) v))) else some (r1.1, (0 : Int32), r1.2.2))) (g : lo ≤ v ∧ v ≤ hi) :
    ∃ X', fX8_setNumber (nI w) v X = some (0, X 0 0 0 (w + 3), X') ∧ X' 0 = wr (X 0) 0 0 (w + 3) v ∧ AK X' := by
  obtain ⟨X1, r1, r2, r3, r4⟩ := ak_rem h hw
  refine ⟨up X1 0 (wr (X 0) 0 0 (w + 3) v), ?_, up_at _ _ _, r4 _⟩
  rw [hf, rw_within, if_pos g]
  simp only [Option.bind_some, if_true, r1, up_wr, r2]
theorem ch_numN {w : Nat} {v lo hi : Int32} {X : bsX} (hf : fX8_setNumber (nI w) v X = ((fX8_requireWithin v lo hi X).bind fun r1 => if r1.1 = 0 then ((fX8_remember r1.2.2).bind fun r4 => some (0, (r4 0 0 0 (w + 3)), (bsWr r4 0 0 0 (w + 3) v))) else some (r1.1, (0 : Int32), r1.2.2))) (g : ¬ (lo ≤ v ∧ v ≤ hi)) : fX8_setNumber (nI w) v X = some (3, 0, X) := by
  rw [hf, rw_within, if_neg g]
  simp only [Option.bind_some, c30f, if_false]
theorem ch_num6 {X : bsX} (h : AK X) : fX8_setNumber 6 1 X = some (3, 0, X) := by
  unfold fX8_setNumber
  rw [q8_req h.1]
  simp only [Option.bind_some, if_true]
  rw [if_pos (by decide)]
theorem nm_2 {v : Int32} {X : bsX} (h : AK X) : fX8_setNumber (nI 2) v X = ((fX8_requireWithin v (1 : Int32) (99 : Int32) X).bind fun r1 => if r1.1 = 0 then ((fX8_remember r1.2.2).bind fun r4 => some (0, (r4 0 0 0 (2 + 3)), (bsWr r4 0 0 0 (2 + 3) v))) else some (r1.1, (0 : Int32), r1.2.2)) := by
  have o1 : ((nI 2).toInt < 2 ∨ 5 < (nI 2).toInt) = False := eq_false (by decide)
  unfold fX8_setNumber fX8_setWatch
  rw [q8_req h.1]
  simp only [Option.bind_some, if_true, o1, if_false, show (nI 2 = (2 : Int32)) = True from eq_true rfl, rw_within]
  by_cases g1 : (1 : Int32) ≤ v ∧ v ≤ 99
  · rw [if_pos g1]
    simp only [Option.bind_some, if_true]
    cases fX8_remember X <;> rfl
  · rw [if_neg g1]
    rfl
theorem nm_3 {v : Int32} {X : bsX} (h : AK X) : fX8_setNumber (nI 3) v X = ((fX8_requireWithin v (1 : Int32) (9 : Int32) X).bind fun r1 => if r1.1 = 0 then ((fX8_remember r1.2.2).bind fun r4 => some (0, (r4 0 0 0 (3 + 3)), (bsWr r4 0 0 0 (3 + 3) v))) else some (r1.1, (0 : Int32), r1.2.2)) := by
  have o1 : ((nI 3).toInt < 2 ∨ 5 < (nI 3).toInt) = False := eq_false (by decide)
  unfold fX8_setNumber fX8_setLimit
  rw [q8_req h.1]
  simp only [Option.bind_some, if_true, o1, if_false, show (nI 3 = (2 : Int32)) = False from eq_false (by decide), show (nI 3 = (3 : Int32)) = True from eq_true rfl, rw_within]
  by_cases g1 : (1 : Int32) ≤ v ∧ v ≤ 9
  · rw [if_pos g1]
    simp only [Option.bind_some, if_true]
    cases fX8_remember X <;> rfl
  · rw [if_neg g1]
    rfl
theorem nm_4 {v : Int32} {X : bsX} (h : AK X) : fX8_setNumber (nI 4) v X = ((fX8_requireWithin v (0 : Int32) (7 : Int32) X).bind fun r1 => if r1.1 = 0 then ((fX8_remember r1.2.2).bind fun r4 => some (0, (r4 0 0 0 (4 + 3)), (bsWr r4 0 0 0 (4 + 3) v))) else some (r1.1, (0 : Int32), r1.2.2)) := by
  have o1 : ((nI 4).toInt < 2 ∨ 5 < (nI 4).toInt) = False := eq_false (by decide)
  unfold fX8_setNumber fX8_setRetry
  rw [q8_req h.1]
  simp only [Option.bind_some, if_true, o1, if_false, show (nI 4 = (2 : Int32)) = False from eq_false (by decide), show (nI 4 = (3 : Int32)) = False from eq_false (by decide), show (nI 4 = (4 : Int32)) = True from eq_true rfl, rw_within]
  by_cases g1 : (0 : Int32) ≤ v ∧ v ≤ 7
  · rw [if_pos g1]
    simp only [Option.bind_some, if_true]
    cases fX8_remember X <;> rfl
  · rw [if_neg g1]
    rfl
theorem nm_5 {v : Int32} {X : bsX} (h : AK X) : fX8_setNumber (nI 5) v X = ((fX8_requireWithin v (X 0 0 0 8) (99 : Int32) X).bind fun r1 => if r1.1 = 0 then ((fX8_remember r1.2.2).bind fun r4 => some (0, (r4 0 0 0 (5 + 3)), (bsWr r4 0 0 0 (5 + 3) v))) else some (r1.1, (0 : Int32), r1.2.2)) := by
  have o1 : ((nI 5).toInt < 2 ∨ 5 < (nI 5).toInt) = False := eq_false (by decide)
  unfold fX8_setNumber fX8_setFloor
  rw [q8_req h.1]
  simp only [Option.bind_some, if_true, o1, if_false, show (nI 5 = (2 : Int32)) = False from eq_false (by decide), show (nI 5 = (3 : Int32)) = False from eq_false (by decide), show (nI 5 = (4 : Int32)) = False from eq_false (by decide), show (nI 5 = (5 : Int32)) = True from eq_true rfl, rw_within]
  by_cases g1 : (X 0 0 0 8) ≤ v ∧ v ≤ 99
  · rw [if_pos g1]
    simp only [Option.bind_some, if_true]
    cases fX8_remember X <;> rfl
  · rw [if_neg g1]
    rfl
