/-- what the pure part owes for newerIn -/
def sim_newerIn (I : Nat → bsX → Prop) : Prop := ∀ (j : Nat) (X : bsX), j < 512 → I j X → ∃ (r : bsXr) (q : Int32 × bsX), fX8_newerIn  X = some r ∧ (r.1 = 0 ∨ r.1 = 1) ∧ fX9_newerIn  r.2.2 = some q ∧ q.2 14 0 0 0 = (if r.1 = 1 then (1 : Int32) else (0 : Int32)) ∧ (r.1 = 0 → r.2.1 = q.1) ∧ I (j + 1) q.2
set_option maxHeartbeats 4000000 in
set_option maxRecDepth 100000 in
theorem law_29 {p : Program} {l : Launch} {e : Env} {s : State} {m : MethodId} {below : List Frame} {meth : Method} {c : Code} {ρ : bsR} {cA : Nat → ClassId} {dC : Nat → ClassId} {dI : Nat → Nat → Nat} {b L : Nat} {xs : Nat → Int32} {I : Nat → bsX → Prop} (H : sim_newerIn I) (LC : lawC p l s m meth c ρ cA dC dI b L xs) {j : Nat} (hj : 6 * j + 6 ≤ L) {cells slots : Nat} (hc1 : cells + 9 ≤ 601024) (hc2 : slots + 54 ≤ 7293033) {X : bsX} {lo : Int64} {od : UInt64} (hI : I j X) (kk : ∀ (X : bsX) (lo : Int64) (od : UInt64), I (j + 1) X → lawV p l e s m below meth c ρ cA dC dI b (cells + 9) (slots + 54) 3507 [(0, .ref b), (1, .ref (ρ 13 0 0)), (2, .ref (ρ 14 0 0)), (3, .ref (ρ 15 0 0)), (4, .ref (ρ 15 1 0)), (5, .int (nI (6 * j)))] [] X lo od) : lawV p l e s m below meth c ρ cA dC dI b cells slots 1787 [(0, .ref b), (1, .ref (ρ 13 0 0)), (2, .ref (ρ 14 0 0)), (3, .ref (ρ 15 0 0)), (4, .ref (ρ 15 1 0)), (5, .int (nI (6 * j)))] [] X lo od := by
  have hL9 : L ≤ 3072 := LC.2.2.2.2.1
  obtain ⟨hC, hX, hbl, hbA, hL, hst, hfr⟩ := LC
  have C := hC lo od
  obtain ⟨r, q, hf, hr, hg, ht, he, hI2⟩ := H j X  (by omega) hI
  refine v_aload_n C dL_law_1787 rfl rfl ?_
  refine v_aload_n C dL_law_1788 rfl rfl ?_
  refine v_wcallS (y := yL_newerIn) (As := [.ref (ρ 13 0 0), .ref (ρ 15 0 0)]) (rest := []) C (cL_newerIn_ok hst hf hr) mlw_294 wwL_newerIn (by exact dpL_newerIn) ⟨Nat.le_of_ble_eq_true rfl, Nat.le_of_ble_eq_true rfl⟩ ⟨by show cells + 1 ≤ 601024; omega, by show slots + 6 ≤ 7293033; omega⟩ rfl (Nat.le_of_ble_eq_true rfl) dL_law_1789 ?_
  have C := hC (if r.1 = 0 then r.2.1.toInt64 else lo) od
  generalize hlo : (if r.1 = 0 then r.2.1.toInt64 else lo) = lo9 at C ⊢
  dsimp only
  rw [← ht]
  refine v_istore (lv' := [(6, .int (q.2 14 0 0 0)), (0, .ref b), (1, .ref (ρ 13 0 0)), (2, .ref (ρ 14 0 0)), (3, .ref (ρ 15 0 0)), (4, .ref (ρ 15 1 0)), (5, .int (nI (6 * j)))]) C dL_law_1792 (by decide) rfl ?_
  refine v_aload_n C dL_law_1794 rfl rfl ?_
  refine v_callVi (y := yX9_newerIn) (As := []) (rest := []) C (cX9_newerIn_ok hg) mlw_296 wyX9_newerIn bsm_X9 bsc_X9 rfl (by exact dpX9_newerIn) ⟨Nat.le_of_ble_eq_true rfl, Nat.le_of_ble_eq_true rfl⟩ ⟨rfl, rfl⟩ ⟨by show cells + 1 ≤ 601024; omega, by show slots + 6 ≤ 7293033; omega⟩ rfl (Nat.le_of_ble_eq_true rfl) dL_law_1795 ?_
  refine v_istore (lv' := [(7, .int q.1), (6, .int (q.2 14 0 0 0)), (0, .ref b), (1, .ref (ρ 13 0 0)), (2, .ref (ρ 14 0 0)), (3, .ref (ρ 15 0 0)), (4, .ref (ρ 15 1 0)), (5, .int (nI (6 * j)))]) C dL_law_1798 (by decide) rfl ?_
  refine v_aload_n C dL_law_1800 rfl rfl ?_
  refine v_callVi (y := yX9_thrown) (As := []) (rest := []) (z := (q.2 14 0 0 0, q.2)) C (cX9_thrown_ok rfl) mlw_205 wyX9_thrown bsm_X9 bsc_X9 rfl (by exact dpX9_thrown) ⟨Nat.le_of_ble_eq_true rfl, Nat.le_of_ble_eq_true rfl⟩ ⟨rfl, rfl⟩ ⟨by show cells + 1 ≤ 601024; omega, by show slots + 6 ≤ 7293033; omega⟩ rfl (Nat.le_of_ble_eq_true rfl) dL_law_1801 ?_
  refine v_iload C dL_law_1804 rfl ?_
  refine v_icmp_eq (tgt := 1811) C dL_law_1806 (by decide) (fun _ => ?_) (fun h => absurd rfl h)
  refine v_iload C dL_law_1811 rfl ?_
  refine v_if_ne (tgt := 1828) C dL_law_1813 (by decide) (fun _ => ?_) (fun h0 => ?_)
  · refine v_goto (tgt := 3507) C dL_law_1828 (by decide) ?_
    refine v_sub [2, 3, 4, 5, 6, 7] rfl ?_
    exact v_widen (by show cells + 1 ≤ cells + 9; omega) (by show slots + 6 ≤ slots + 54; omega) (kk q.2 lo9 od hI2)
  · have hr0 : r.1 = 0 := by
      rw [ht] at h0
      rcases hr with h1 | h1
      · exact h1
      · rw [h1] at h0; exact absurd h0 (by decide)
    have e0 := he hr0
    rw [if_pos hr0] at hlo
    refine v_aload_n C dL_law_1816 rfl rfl ?_
    refine v_iconst (v := 0) C dL_law_1817 (by decide) ?_
    refine v_lald C dL_law_1818 ?_
    refine v_iload C dL_law_1819 rfl ?_
    refine v_i2l C dL_law_1821 ?_
    refine v_lcmp C dL_law_1822 ?_
    rw [show bsLc lo9 q.1.toInt64 = 0 by rw [← hlo, e0]; exact bsLc_self _]
    refine v_if_eq (tgt := 1828) C dL_law_1823 (by decide) (fun _ => ?_) (fun h => absurd rfl h)
    refine v_goto (tgt := 3507) C dL_law_1828 (by decide) ?_
    refine v_sub [2, 3, 4, 5, 6, 7] rfl ?_
    exact v_widen (by show cells + 1 ≤ cells + 9; omega) (by show slots + 6 ≤ slots + 54; omega) (kk q.2 lo9 od hI2)
/-- what the pure part owes for rescueIn -/
def sim_rescueIn (I : Nat → bsX → Prop) : Prop := ∀ (j : Nat) (X : bsX), j < 512 → I j X → ∃ (r : bsXr) (q : Int32 × bsX), fX8_rescueIn  X = some r ∧ (r.1 = 0 ∨ r.1 = 1) ∧ fX9_rescueIn  r.2.2 = some q ∧ q.2 14 0 0 0 = (if r.1 = 1 then (1 : Int32) else (0 : Int32)) ∧ (r.1 = 0 → r.2.1 = q.1) ∧ I (j + 1) q.2
set_option maxHeartbeats 4000000 in
set_option maxRecDepth 100000 in
theorem law_30 {p : Program} {l : Launch} {e : Env} {s : State} {m : MethodId} {below : List Frame} {meth : Method} {c : Code} {ρ : bsR} {cA : Nat → ClassId} {dC : Nat → ClassId} {dI : Nat → Nat → Nat} {b L : Nat} {xs : Nat → Int32} {I : Nat → bsX → Prop} (H : sim_rescueIn I) (LC : lawC p l s m meth c ρ cA dC dI b L xs) {j : Nat} (hj : 6 * j + 6 ≤ L) {cells slots : Nat} (hc1 : cells + 9 ≤ 601024) (hc2 : slots + 54 ≤ 7293033) {X : bsX} {lo : Int64} {od : UInt64} (hI : I j X) (kk : ∀ (X : bsX) (lo : Int64) (od : UInt64), I (j + 1) X → lawV p l e s m below meth c ρ cA dC dI b (cells + 9) (slots + 54) 3507 [(0, .ref b), (1, .ref (ρ 13 0 0)), (2, .ref (ρ 14 0 0)), (3, .ref (ρ 15 0 0)), (4, .ref (ρ 15 1 0)), (5, .int (nI (6 * j)))] [] X lo od) : lawV p l e s m below meth c ρ cA dC dI b cells slots 1831 [(0, .ref b), (1, .ref (ρ 13 0 0)), (2, .ref (ρ 14 0 0)), (3, .ref (ρ 15 0 0)), (4, .ref (ρ 15 1 0)), (5, .int (nI (6 * j)))] [] X lo od := by
  have hL9 : L ≤ 3072 := LC.2.2.2.2.1
  obtain ⟨hC, hX, hbl, hbA, hL, hst, hfr⟩ := LC
  have C := hC lo od
  obtain ⟨r, q, hf, hr, hg, ht, he, hI2⟩ := H j X  (by omega) hI
  refine v_aload_n C dL_law_1831 rfl rfl ?_
  refine v_aload_n C dL_law_1832 rfl rfl ?_
  refine v_wcallS (y := yL_rescueIn) (As := [.ref (ρ 13 0 0), .ref (ρ 15 0 0)]) (rest := []) C (cL_rescueIn_ok hst hf hr) mlw_297 wwL_rescueIn (by exact dpL_rescueIn) ⟨Nat.le_of_ble_eq_true rfl, Nat.le_of_ble_eq_true rfl⟩ ⟨by show cells + 1 ≤ 601024; omega, by show slots + 6 ≤ 7293033; omega⟩ rfl (Nat.le_of_ble_eq_true rfl) dL_law_1833 ?_
  have C := hC (if r.1 = 0 then r.2.1.toInt64 else lo) od
  generalize hlo : (if r.1 = 0 then r.2.1.toInt64 else lo) = lo9 at C ⊢
  dsimp only
  rw [← ht]
  refine v_istore (lv' := [(6, .int (q.2 14 0 0 0)), (0, .ref b), (1, .ref (ρ 13 0 0)), (2, .ref (ρ 14 0 0)), (3, .ref (ρ 15 0 0)), (4, .ref (ρ 15 1 0)), (5, .int (nI (6 * j)))]) C dL_law_1836 (by decide) rfl ?_
  refine v_aload_n C dL_law_1838 rfl rfl ?_
  refine v_callVi (y := yX9_rescueIn) (As := []) (rest := []) C (cX9_rescueIn_ok hg) mlw_299 wyX9_rescueIn bsm_X9 bsc_X9 rfl (by exact dpX9_rescueIn) ⟨Nat.le_of_ble_eq_true rfl, Nat.le_of_ble_eq_true rfl⟩ ⟨rfl, rfl⟩ ⟨by show cells + 1 ≤ 601024; omega, by show slots + 6 ≤ 7293033; omega⟩ rfl (Nat.le_of_ble_eq_true rfl) dL_law_1839 ?_
  refine v_istore (lv' := [(7, .int q.1), (6, .int (q.2 14 0 0 0)), (0, .ref b), (1, .ref (ρ 13 0 0)), (2, .ref (ρ 14 0 0)), (3, .ref (ρ 15 0 0)), (4, .ref (ρ 15 1 0)), (5, .int (nI (6 * j)))]) C dL_law_1842 (by decide) rfl ?_
  refine v_aload_n C dL_law_1844 rfl rfl ?_
  refine v_callVi (y := yX9_thrown) (As := []) (rest := []) (z := (q.2 14 0 0 0, q.2)) C (cX9_thrown_ok rfl) mlw_205 wyX9_thrown bsm_X9 bsc_X9 rfl (by exact dpX9_thrown) ⟨Nat.le_of_ble_eq_true rfl, Nat.le_of_ble_eq_true rfl⟩ ⟨rfl, rfl⟩ ⟨by show cells + 1 ≤ 601024; omega, by show slots + 6 ≤ 7293033; omega⟩ rfl (Nat.le_of_ble_eq_true rfl) dL_law_1845 ?_
  refine v_iload C dL_law_1848 rfl ?_
  refine v_icmp_eq (tgt := 1855) C dL_law_1850 (by decide) (fun _ => ?_) (fun h => absurd rfl h)
  refine v_iload C dL_law_1855 rfl ?_
  refine v_if_ne (tgt := 1872) C dL_law_1857 (by decide) (fun _ => ?_) (fun h0 => ?_)
  · refine v_goto (tgt := 3507) C dL_law_1872 (by decide) ?_
    refine v_sub [2, 3, 4, 5, 6, 7] rfl ?_
    exact v_widen (by show cells + 1 ≤ cells + 9; omega) (by show slots + 6 ≤ slots + 54; omega) (kk q.2 lo9 od hI2)
  · have hr0 : r.1 = 0 := by
      rw [ht] at h0
      rcases hr with h1 | h1
      · exact h1
      · rw [h1] at h0; exact absurd h0 (by decide)
    have e0 := he hr0
    rw [if_pos hr0] at hlo
    refine v_aload_n C dL_law_1860 rfl rfl ?_
    refine v_iconst (v := 0) C dL_law_1861 (by decide) ?_
    refine v_lald C dL_law_1862 ?_
    refine v_iload C dL_law_1863 rfl ?_
    refine v_i2l C dL_law_1865 ?_
    refine v_lcmp C dL_law_1866 ?_
    rw [show bsLc lo9 q.1.toInt64 = 0 by rw [← hlo, e0]; exact bsLc_self _]
    refine v_if_eq (tgt := 1872) C dL_law_1867 (by decide) (fun _ => ?_) (fun h => absurd rfl h)
    refine v_goto (tgt := 3507) C dL_law_1872 (by decide) ?_
    refine v_sub [2, 3, 4, 5, 6, 7] rfl ?_
    exact v_widen (by show cells + 1 ≤ cells + 9; omega) (by show slots + 6 ≤ slots + 54; omega) (kk q.2 lo9 od hI2)
/-- what the pure part owes for goodIn -/
def sim_goodIn (I : Nat → bsX → Prop) : Prop := ∀ (j : Nat) (X : bsX) (a1 : Int32), j < 512 → I j X → ∃ (r : bsXr) (q : Int32 × bsX), fX8_goodIn a1 X = some r ∧ (r.1 = 0 ∨ r.1 = 1 ∨ r.1 = 2) ∧ fX9_goodIn a1 r.2.2 = some q ∧ q.2 14 0 0 0 = (if r.1 = 1 then (1 : Int32) else (if r.1 = 2 then (2 : Int32) else (0 : Int32))) ∧ (r.1 = 0 → r.2.1 = q.1) ∧ I (j + 1) q.2
set_option maxHeartbeats 4000000 in
set_option maxRecDepth 100000 in
theorem law_31 {p : Program} {l : Launch} {e : Env} {s : State} {m : MethodId} {below : List Frame} {meth : Method} {c : Code} {ρ : bsR} {cA : Nat → ClassId} {dC : Nat → ClassId} {dI : Nat → Nat → Nat} {b L : Nat} {xs : Nat → Int32} {I : Nat → bsX → Prop} (H : sim_goodIn I) (LC : lawC p l s m meth c ρ cA dC dI b L xs) {j : Nat} (hj : 6 * j + 6 ≤ L) {cells slots : Nat} (hc1 : cells + 9 ≤ 601024) (hc2 : slots + 54 ≤ 7293033) {X : bsX} {lo : Int64} {od : UInt64} (hI : I j X) (kk : ∀ (X : bsX) (lo : Int64) (od : UInt64), I (j + 1) X → lawV p l e s m below meth c ρ cA dC dI b (cells + 9) (slots + 54) 3507 [(0, .ref b), (1, .ref (ρ 13 0 0)), (2, .ref (ρ 14 0 0)), (3, .ref (ρ 15 0 0)), (4, .ref (ρ 15 1 0)), (5, .int (nI (6 * j)))] [] X lo od) : lawV p l e s m below meth c ρ cA dC dI b cells slots 1875 [(0, .ref b), (1, .ref (ρ 13 0 0)), (2, .ref (ρ 14 0 0)), (3, .ref (ρ 15 0 0)), (4, .ref (ρ 15 1 0)), (5, .int (nI (6 * j)))] [] X lo od := by
  have hL9 : L ≤ 3072 := LC.2.2.2.2.1
  obtain ⟨hC, hX, hbl, hbA, hL, hst, hfr⟩ := LC
  have C := hC lo od
  obtain ⟨r, q, hf, hr, hg, ht, he, hI2⟩ := H j X (xs (6 * j + 1)) (by omega) hI
  refine v_aload_n C dL_law_1875 rfl rfl ?_
  refine v_aload_n C dL_law_1876 rfl rfl ?_
  refine v_iload C dL_law_1877 rfl ?_
  refine v_iconst (v := 1) C dL_law_1879 (by decide) ?_
  refine v_iadd C dL_law_1880 ?_
  refine v_sld (k := 1) C hX hbl (hbA lo od) rfl (by omega) (by omega) dL_law_1881 ?_
  refine v_aload_n C dL_law_1882 rfl rfl ?_
  refine v_wcallS (y := yL_goodIn) (As := [.ref (ρ 13 0 0), .int (xs (6 * j + 1)), .ref (ρ 15 0 0)]) (rest := []) C (cL_goodIn_ok hst hf hr) mlw_300 wwL_goodIn (by exact dpL_goodIn) ⟨Nat.le_of_ble_eq_true rfl, Nat.le_of_ble_eq_true rfl⟩ ⟨by show cells + 2 ≤ 601024; omega, by show slots + 12 ≤ 7293033; omega⟩ rfl (Nat.le_of_ble_eq_true rfl) dL_law_1883 ?_
  have C := hC (if r.1 = 0 then r.2.1.toInt64 else lo) od
  generalize hlo : (if r.1 = 0 then r.2.1.toInt64 else lo) = lo9 at C ⊢
  dsimp only
  rw [← ht]
  refine v_istore (lv' := [(6, .int (q.2 14 0 0 0)), (0, .ref b), (1, .ref (ρ 13 0 0)), (2, .ref (ρ 14 0 0)), (3, .ref (ρ 15 0 0)), (4, .ref (ρ 15 1 0)), (5, .int (nI (6 * j)))]) C dL_law_1886 (by decide) rfl ?_
  refine v_aload_n C dL_law_1888 rfl rfl ?_
  refine v_aload_n C dL_law_1889 rfl rfl ?_
  refine v_iload C dL_law_1890 rfl ?_
  refine v_iconst (v := 1) C dL_law_1892 (by decide) ?_
  refine v_iadd C dL_law_1893 ?_
  refine v_sld (k := 1) C hX hbl (hbA lo9 od) rfl (by omega) (by omega) dL_law_1894 ?_
  refine v_callVi (y := yX9_goodIn) (As := [.int (xs (6 * j + 1))]) (rest := []) C (cX9_goodIn_ok hg) mlw_302 wyX9_goodIn bsm_X9 bsc_X9 rfl (by exact dpX9_goodIn) ⟨Nat.le_of_ble_eq_true rfl, Nat.le_of_ble_eq_true rfl⟩ ⟨rfl, rfl⟩ ⟨by show cells + 2 ≤ 601024; omega, by show slots + 12 ≤ 7293033; omega⟩ rfl (Nat.le_of_ble_eq_true rfl) dL_law_1895 ?_
  refine v_istore (lv' := [(7, .int q.1), (6, .int (q.2 14 0 0 0)), (0, .ref b), (1, .ref (ρ 13 0 0)), (2, .ref (ρ 14 0 0)), (3, .ref (ρ 15 0 0)), (4, .ref (ρ 15 1 0)), (5, .int (nI (6 * j)))]) C dL_law_1898 (by decide) rfl ?_
  refine v_aload_n C dL_law_1900 rfl rfl ?_
  refine v_callVi (y := yX9_thrown) (As := []) (rest := []) (z := (q.2 14 0 0 0, q.2)) C (cX9_thrown_ok rfl) mlw_205 wyX9_thrown bsm_X9 bsc_X9 rfl (by exact dpX9_thrown) ⟨Nat.le_of_ble_eq_true rfl, Nat.le_of_ble_eq_true rfl⟩ ⟨rfl, rfl⟩ ⟨by show cells + 2 ≤ 601024; omega, by show slots + 12 ≤ 7293033; omega⟩ rfl (Nat.le_of_ble_eq_true rfl) dL_law_1901 ?_
  refine v_iload C dL_law_1904 rfl ?_
  refine v_icmp_eq (tgt := 1911) C dL_law_1906 (by decide) (fun _ => ?_) (fun h => absurd rfl h)
  refine v_iload C dL_law_1911 rfl ?_
  refine v_if_ne (tgt := 1928) C dL_law_1913 (by decide) (fun _ => ?_) (fun h0 => ?_)
  · refine v_goto (tgt := 3507) C dL_law_1928 (by decide) ?_
    refine v_sub [2, 3, 4, 5, 6, 7] rfl ?_
    exact v_widen (by show cells + 2 ≤ cells + 9; omega) (by show slots + 12 ≤ slots + 54; omega) (kk q.2 lo9 od hI2)
  · have hr0 : r.1 = 0 := by
      rw [ht] at h0
      rcases hr with h1 | h1 | h1
      · exact h1
      · rw [h1] at h0; exact absurd h0 (by decide)
      · rw [h1] at h0; exact absurd h0 (by decide)
    have e0 := he hr0
    rw [if_pos hr0] at hlo
    refine v_aload_n C dL_law_1916 rfl rfl ?_
    refine v_iconst (v := 0) C dL_law_1917 (by decide) ?_
    refine v_lald C dL_law_1918 ?_
    refine v_iload C dL_law_1919 rfl ?_
    refine v_i2l C dL_law_1921 ?_
    refine v_lcmp C dL_law_1922 ?_
    rw [show bsLc lo9 q.1.toInt64 = 0 by rw [← hlo, e0]; exact bsLc_self _]
    refine v_if_eq (tgt := 1928) C dL_law_1923 (by decide) (fun _ => ?_) (fun h => absurd rfl h)
    refine v_goto (tgt := 3507) C dL_law_1928 (by decide) ?_
    refine v_sub [2, 3, 4, 5, 6, 7] rfl ?_
    exact v_widen (by show cells + 2 ≤ cells + 9; omega) (by show slots + 12 ≤ slots + 54; omega) (kk q.2 lo9 od hI2)
/-- what the pure part owes for calmIn -/
def sim_calmIn (I : Nat → bsX → Prop) : Prop := ∀ (j : Nat) (X : bsX), j < 512 → I j X → ∃ (r : bsXr) (q : Int32 × bsX), fX8_calmIn  X = some r ∧ (r.1 = 0 ∨ r.1 = 1) ∧ fX9_calmIn  r.2.2 = some q ∧ q.2 14 0 0 0 = (if r.1 = 1 then (1 : Int32) else (0 : Int32)) ∧ (r.1 = 0 → r.2.1 = q.1) ∧ I (j + 1) q.2
set_option maxHeartbeats 4000000 in
set_option maxRecDepth 100000 in
theorem law_32 {p : Program} {l : Launch} {e : Env} {s : State} {m : MethodId} {below : List Frame} {meth : Method} {c : Code} {ρ : bsR} {cA : Nat → ClassId} {dC : Nat → ClassId} {dI : Nat → Nat → Nat} {b L : Nat} {xs : Nat → Int32} {I : Nat → bsX → Prop} (H : sim_calmIn I) (LC : lawC p l s m meth c ρ cA dC dI b L xs) {j : Nat} (hj : 6 * j + 6 ≤ L) {cells slots : Nat} (hc1 : cells + 9 ≤ 601024) (hc2 : slots + 54 ≤ 7293033) {X : bsX} {lo : Int64} {od : UInt64} (hI : I j X) (kk : ∀ (X : bsX) (lo : Int64) (od : UInt64), I (j + 1) X → lawV p l e s m below meth c ρ cA dC dI b (cells + 9) (slots + 54) 3507 [(0, .ref b), (1, .ref (ρ 13 0 0)), (2, .ref (ρ 14 0 0)), (3, .ref (ρ 15 0 0)), (4, .ref (ρ 15 1 0)), (5, .int (nI (6 * j)))] [] X lo od) : lawV p l e s m below meth c ρ cA dC dI b cells slots 1931 [(0, .ref b), (1, .ref (ρ 13 0 0)), (2, .ref (ρ 14 0 0)), (3, .ref (ρ 15 0 0)), (4, .ref (ρ 15 1 0)), (5, .int (nI (6 * j)))] [] X lo od := by
  have hL9 : L ≤ 3072 := LC.2.2.2.2.1
  obtain ⟨hC, hX, hbl, hbA, hL, hst, hfr⟩ := LC
  have C := hC lo od
  obtain ⟨r, q, hf, hr, hg, ht, he, hI2⟩ := H j X  (by omega) hI
  refine v_aload_n C dL_law_1931 rfl rfl ?_
  refine v_aload_n C dL_law_1932 rfl rfl ?_
  refine v_wcallS (y := yL_calmIn) (As := [.ref (ρ 13 0 0), .ref (ρ 15 0 0)]) (rest := []) C (cL_calmIn_ok hst hf hr) mlw_303 wwL_calmIn (by exact dpL_calmIn) ⟨Nat.le_of_ble_eq_true rfl, Nat.le_of_ble_eq_true rfl⟩ ⟨by show cells + 1 ≤ 601024; omega, by show slots + 6 ≤ 7293033; omega⟩ rfl (Nat.le_of_ble_eq_true rfl) dL_law_1933 ?_
  have C := hC (if r.1 = 0 then r.2.1.toInt64 else lo) od
  generalize hlo : (if r.1 = 0 then r.2.1.toInt64 else lo) = lo9 at C ⊢
  dsimp only
  rw [← ht]
  refine v_istore (lv' := [(6, .int (q.2 14 0 0 0)), (0, .ref b), (1, .ref (ρ 13 0 0)), (2, .ref (ρ 14 0 0)), (3, .ref (ρ 15 0 0)), (4, .ref (ρ 15 1 0)), (5, .int (nI (6 * j)))]) C dL_law_1936 (by decide) rfl ?_
  refine v_aload_n C dL_law_1938 rfl rfl ?_
  refine v_callVi (y := yX9_calmIn) (As := []) (rest := []) C (cX9_calmIn_ok hg) mlw_305 wyX9_calmIn bsm_X9 bsc_X9 rfl (by exact dpX9_calmIn) ⟨Nat.le_of_ble_eq_true rfl, Nat.le_of_ble_eq_true rfl⟩ ⟨rfl, rfl⟩ ⟨by show cells + 1 ≤ 601024; omega, by show slots + 6 ≤ 7293033; omega⟩ rfl (Nat.le_of_ble_eq_true rfl) dL_law_1939 ?_
  refine v_istore (lv' := [(7, .int q.1), (6, .int (q.2 14 0 0 0)), (0, .ref b), (1, .ref (ρ 13 0 0)), (2, .ref (ρ 14 0 0)), (3, .ref (ρ 15 0 0)), (4, .ref (ρ 15 1 0)), (5, .int (nI (6 * j)))]) C dL_law_1942 (by decide) rfl ?_
  refine v_aload_n C dL_law_1944 rfl rfl ?_
  refine v_callVi (y := yX9_thrown) (As := []) (rest := []) (z := (q.2 14 0 0 0, q.2)) C (cX9_thrown_ok rfl) mlw_205 wyX9_thrown bsm_X9 bsc_X9 rfl (by exact dpX9_thrown) ⟨Nat.le_of_ble_eq_true rfl, Nat.le_of_ble_eq_true rfl⟩ ⟨rfl, rfl⟩ ⟨by show cells + 1 ≤ 601024; omega, by show slots + 6 ≤ 7293033; omega⟩ rfl (Nat.le_of_ble_eq_true rfl) dL_law_1945 ?_
  refine v_iload C dL_law_1948 rfl ?_
  refine v_icmp_eq (tgt := 1955) C dL_law_1950 (by decide) (fun _ => ?_) (fun h => absurd rfl h)
  refine v_iload C dL_law_1955 rfl ?_
  refine v_if_ne (tgt := 1972) C dL_law_1957 (by decide) (fun _ => ?_) (fun h0 => ?_)
  · refine v_goto (tgt := 3507) C dL_law_1972 (by decide) ?_
    refine v_sub [2, 3, 4, 5, 6, 7] rfl ?_
    exact v_widen (by show cells + 1 ≤ cells + 9; omega) (by show slots + 6 ≤ slots + 54; omega) (kk q.2 lo9 od hI2)
  · have hr0 : r.1 = 0 := by
      rw [ht] at h0
      rcases hr with h1 | h1
      · exact h1
      · rw [h1] at h0; exact absurd h0 (by decide)
    have e0 := he hr0
    rw [if_pos hr0] at hlo
    refine v_aload_n C dL_law_1960 rfl rfl ?_
    refine v_iconst (v := 0) C dL_law_1961 (by decide) ?_
    refine v_lald C dL_law_1962 ?_
    refine v_iload C dL_law_1963 rfl ?_
    refine v_i2l C dL_law_1965 ?_
    refine v_lcmp C dL_law_1966 ?_
    rw [show bsLc lo9 q.1.toInt64 = 0 by rw [← hlo, e0]; exact bsLc_self _]
    refine v_if_eq (tgt := 1972) C dL_law_1967 (by decide) (fun _ => ?_) (fun h => absurd rfl h)
    refine v_goto (tgt := 3507) C dL_law_1972 (by decide) ?_
    refine v_sub [2, 3, 4, 5, 6, 7] rfl ?_
    exact v_widen (by show cells + 1 ≤ cells + 9; omega) (by show slots + 6 ≤ slots + 54; omega) (kk q.2 lo9 od hI2)
/-- what the pure part owes for triesIn -/
def sim_triesIn (I : Nat → bsX → Prop) : Prop := ∀ (j : Nat) (X : bsX) (a1 a2 : Int32), j < 512 → I j X → ∃ (r : bsXr) (q : Int32 × bsX), fX8_triesIn a1 a2 X = some r ∧ (r.1 = 0 ∨ r.1 = 1 ∨ r.1 = 2 ∨ r.1 = 3) ∧ fX9_triesIn a1 a2 r.2.2 = some q ∧ q.2 14 0 0 0 = (if r.1 = 1 then (1 : Int32) else (if r.1 = 2 then (2 : Int32) else (if r.1 = 3 then (3 : Int32) else (0 : Int32)))) ∧ (r.1 = 0 → r.2.1 = q.1) ∧ I (j + 1) q.2
set_option maxHeartbeats 4000000 in
set_option maxRecDepth 100000 in
theorem law_33 {p : Program} {l : Launch} {e : Env} {s : State} {m : MethodId} {below : List Frame} {meth : Method} {c : Code} {ρ : bsR} {cA : Nat → ClassId} {dC : Nat → ClassId} {dI : Nat → Nat → Nat} {b L : Nat} {xs : Nat → Int32} {I : Nat → bsX → Prop} (H : sim_triesIn I) (LC : lawC p l s m meth c ρ cA dC dI b L xs) {j : Nat} (hj : 6 * j + 6 ≤ L) {cells slots : Nat} (hc1 : cells + 9 ≤ 601024) (hc2 : slots + 54 ≤ 7293033) {X : bsX} {lo : Int64} {od : UInt64} (hI : I j X) (kk : ∀ (X : bsX) (lo : Int64) (od : UInt64), I (j + 1) X → lawV p l e s m below meth c ρ cA dC dI b (cells + 9) (slots + 54) 3507 [(0, .ref b), (1, .ref (ρ 13 0 0)), (2, .ref (ρ 14 0 0)), (3, .ref (ρ 15 0 0)), (4, .ref (ρ 15 1 0)), (5, .int (nI (6 * j)))] [] X lo od) : lawV p l e s m below meth c ρ cA dC dI b cells slots 1975 [(0, .ref b), (1, .ref (ρ 13 0 0)), (2, .ref (ρ 14 0 0)), (3, .ref (ρ 15 0 0)), (4, .ref (ρ 15 1 0)), (5, .int (nI (6 * j)))] [] X lo od := by
  have hL9 : L ≤ 3072 := LC.2.2.2.2.1
  obtain ⟨hC, hX, hbl, hbA, hL, hst, hfr⟩ := LC
  have C := hC lo od
  obtain ⟨r, q, hf, hr, hg, ht, he, hI2⟩ := H j X (xs (6 * j + 1)) (xs (6 * j + 2)) (by omega) hI
  refine v_aload_n C dL_law_1975 rfl rfl ?_
  refine v_aload_n C dL_law_1976 rfl rfl ?_
  refine v_iload C dL_law_1977 rfl ?_
  refine v_iconst (v := 1) C dL_law_1979 (by decide) ?_
  refine v_iadd C dL_law_1980 ?_
  refine v_sld (k := 1) C hX hbl (hbA lo od) rfl (by omega) (by omega) dL_law_1981 ?_
  refine v_aload_n C dL_law_1982 rfl rfl ?_
  refine v_iload C dL_law_1983 rfl ?_
  refine v_iconst (v := 2) C dL_law_1985 (by decide) ?_
  refine v_iadd C dL_law_1986 ?_
  refine v_sld (k := 2) C hX hbl (hbA lo od) rfl (by omega) (by omega) dL_law_1987 ?_
  refine v_aload_n C dL_law_1988 rfl rfl ?_
  refine v_wcallS (y := yL_triesIn) (As := [.ref (ρ 13 0 0), .int (xs (6 * j + 1)), .int (xs (6 * j + 2)), .ref (ρ 15 0 0)]) (rest := []) C (cL_triesIn_ok hst hf hr) mlw_306 wwL_triesIn (by exact dpL_triesIn) ⟨Nat.le_of_ble_eq_true rfl, Nat.le_of_ble_eq_true rfl⟩ ⟨by show cells + 4 ≤ 601024; omega, by show slots + 24 ≤ 7293033; omega⟩ rfl (Nat.le_of_ble_eq_true rfl) dL_law_1989 ?_
  have C := hC (if r.1 = 0 then r.2.1.toInt64 else lo) od
  generalize hlo : (if r.1 = 0 then r.2.1.toInt64 else lo) = lo9 at C ⊢
  dsimp only
  rw [← ht]
  refine v_istore (lv' := [(6, .int (q.2 14 0 0 0)), (0, .ref b), (1, .ref (ρ 13 0 0)), (2, .ref (ρ 14 0 0)), (3, .ref (ρ 15 0 0)), (4, .ref (ρ 15 1 0)), (5, .int (nI (6 * j)))]) C dL_law_1992 (by decide) rfl ?_
  refine v_aload_n C dL_law_1994 rfl rfl ?_
  refine v_aload_n C dL_law_1995 rfl rfl ?_
  refine v_iload C dL_law_1996 rfl ?_
  refine v_iconst (v := 1) C dL_law_1998 (by decide) ?_
  refine v_iadd C dL_law_1999 ?_
  refine v_sld (k := 1) C hX hbl (hbA lo9 od) rfl (by omega) (by omega) dL_law_2000 ?_
  refine v_aload_n C dL_law_2001 rfl rfl ?_
  refine v_iload C dL_law_2002 rfl ?_
  refine v_iconst (v := 2) C dL_law_2004 (by decide) ?_
  refine v_iadd C dL_law_2005 ?_
  refine v_sld (k := 2) C hX hbl (hbA lo9 od) rfl (by omega) (by omega) dL_law_2006 ?_
  refine v_callVi (y := yX9_triesIn) (As := [.int (xs (6 * j + 1)), .int (xs (6 * j + 2))]) (rest := []) C (cX9_triesIn_ok hg) mlw_308 wyX9_triesIn bsm_X9 bsc_X9 rfl (by exact dpX9_triesIn) ⟨Nat.le_of_ble_eq_true rfl, Nat.le_of_ble_eq_true rfl⟩ ⟨rfl, rfl⟩ ⟨by show cells + 4 ≤ 601024; omega, by show slots + 24 ≤ 7293033; omega⟩ rfl (Nat.le_of_ble_eq_true rfl) dL_law_2007 ?_
  refine v_istore (lv' := [(7, .int q.1), (6, .int (q.2 14 0 0 0)), (0, .ref b), (1, .ref (ρ 13 0 0)), (2, .ref (ρ 14 0 0)), (3, .ref (ρ 15 0 0)), (4, .ref (ρ 15 1 0)), (5, .int (nI (6 * j)))]) C dL_law_2010 (by decide) rfl ?_
  refine v_aload_n C dL_law_2012 rfl rfl ?_
  refine v_callVi (y := yX9_thrown) (As := []) (rest := []) (z := (q.2 14 0 0 0, q.2)) C (cX9_thrown_ok rfl) mlw_205 wyX9_thrown bsm_X9 bsc_X9 rfl (by exact dpX9_thrown) ⟨Nat.le_of_ble_eq_true rfl, Nat.le_of_ble_eq_true rfl⟩ ⟨rfl, rfl⟩ ⟨by show cells + 4 ≤ 601024; omega, by show slots + 24 ≤ 7293033; omega⟩ rfl (Nat.le_of_ble_eq_true rfl) dL_law_2013 ?_
  refine v_iload C dL_law_2016 rfl ?_
  refine v_icmp_eq (tgt := 2023) C dL_law_2018 (by decide) (fun _ => ?_) (fun h => absurd rfl h)
  refine v_iload C dL_law_2023 rfl ?_
  refine v_if_ne (tgt := 2040) C dL_law_2025 (by decide) (fun _ => ?_) (fun h0 => ?_)
  · refine v_goto (tgt := 3507) C dL_law_2040 (by decide) ?_
    refine v_sub [2, 3, 4, 5, 6, 7] rfl ?_
    exact v_widen (by show cells + 4 ≤ cells + 9; omega) (by show slots + 24 ≤ slots + 54; omega) (kk q.2 lo9 od hI2)
  · have hr0 : r.1 = 0 := by
      rw [ht] at h0
      rcases hr with h1 | h1 | h1 | h1
      · exact h1
      · rw [h1] at h0; exact absurd h0 (by decide)
      · rw [h1] at h0; exact absurd h0 (by decide)
      · rw [h1] at h0; exact absurd h0 (by decide)
    have e0 := he hr0
    rw [if_pos hr0] at hlo
    refine v_aload_n C dL_law_2028 rfl rfl ?_
    refine v_iconst (v := 0) C dL_law_2029 (by decide) ?_
    refine v_lald C dL_law_2030 ?_
    refine v_iload C dL_law_2031 rfl ?_
    refine v_i2l C dL_law_2033 ?_
    refine v_lcmp C dL_law_2034 ?_
    rw [show bsLc lo9 q.1.toInt64 = 0 by rw [← hlo, e0]; exact bsLc_self _]
    refine v_if_eq (tgt := 2040) C dL_law_2035 (by decide) (fun _ => ?_) (fun h => absurd rfl h)
    refine v_goto (tgt := 3507) C dL_law_2040 (by decide) ?_
    refine v_sub [2, 3, 4, 5, 6, 7] rfl ?_
    exact v_widen (by show cells + 4 ≤ cells + 9; omega) (by show slots + 24 ≤ slots + 54; omega) (kk q.2 lo9 od hI2)
/-- what the pure part owes for ifBooted -/
def sim_ifBooted (I : Nat → bsX → Prop) : Prop := ∀ (j : Nat) (X : bsX), j < 512 → I j X → ∃ (r : bsXr) (q : Int32 × bsX), fX8_ifBooted  X = some r ∧ (r.1 = 0 ∨ r.1 = 1) ∧ fX9_ifBooted  r.2.2 = some q ∧ q.2 14 0 0 0 = (if r.1 = 1 then (1 : Int32) else (0 : Int32)) ∧ (r.1 = 0 → r.2.1 = q.1) ∧ I (j + 1) q.2
set_option maxHeartbeats 4000000 in
set_option maxRecDepth 100000 in
theorem law_34 {p : Program} {l : Launch} {e : Env} {s : State} {m : MethodId} {below : List Frame} {meth : Method} {c : Code} {ρ : bsR} {cA : Nat → ClassId} {dC : Nat → ClassId} {dI : Nat → Nat → Nat} {b L : Nat} {xs : Nat → Int32} {I : Nat → bsX → Prop} (H : sim_ifBooted I) (LC : lawC p l s m meth c ρ cA dC dI b L xs) {j : Nat} (hj : 6 * j + 6 ≤ L) {cells slots : Nat} (hc1 : cells + 9 ≤ 601024) (hc2 : slots + 54 ≤ 7293033) {X : bsX} {lo : Int64} {od : UInt64} (hI : I j X) (kk : ∀ (X : bsX) (lo : Int64) (od : UInt64), I (j + 1) X → lawV p l e s m below meth c ρ cA dC dI b (cells + 9) (slots + 54) 3507 [(0, .ref b), (1, .ref (ρ 13 0 0)), (2, .ref (ρ 14 0 0)), (3, .ref (ρ 15 0 0)), (4, .ref (ρ 15 1 0)), (5, .int (nI (6 * j)))] [] X lo od) : lawV p l e s m below meth c ρ cA dC dI b cells slots 2043 [(0, .ref b), (1, .ref (ρ 13 0 0)), (2, .ref (ρ 14 0 0)), (3, .ref (ρ 15 0 0)), (4, .ref (ρ 15 1 0)), (5, .int (nI (6 * j)))] [] X lo od := by
  have hL9 : L ≤ 3072 := LC.2.2.2.2.1
  obtain ⟨hC, hX, hbl, hbA, hL, hst, hfr⟩ := LC
  have C := hC lo od
  obtain ⟨r, q, hf, hr, hg, ht, he, hI2⟩ := H j X  (by omega) hI
  refine v_aload_n C dL_law_2043 rfl rfl ?_
  refine v_aload_n C dL_law_2044 rfl rfl ?_
  refine v_wcallS (y := yL_ifBooted) (As := [.ref (ρ 13 0 0), .ref (ρ 15 0 0)]) (rest := []) C (cL_ifBooted_ok hst hf hr) mlw_309 wwL_ifBooted (by exact dpL_ifBooted) ⟨Nat.le_of_ble_eq_true rfl, Nat.le_of_ble_eq_true rfl⟩ ⟨by show cells + 1 ≤ 601024; omega, by show slots + 6 ≤ 7293033; omega⟩ rfl (Nat.le_of_ble_eq_true rfl) dL_law_2045 ?_
  have C := hC (if r.1 = 0 then r.2.1.toInt64 else lo) od
  generalize hlo : (if r.1 = 0 then r.2.1.toInt64 else lo) = lo9 at C ⊢
  dsimp only
  rw [← ht]
  refine v_istore (lv' := [(6, .int (q.2 14 0 0 0)), (0, .ref b), (1, .ref (ρ 13 0 0)), (2, .ref (ρ 14 0 0)), (3, .ref (ρ 15 0 0)), (4, .ref (ρ 15 1 0)), (5, .int (nI (6 * j)))]) C dL_law_2048 (by decide) rfl ?_
  refine v_aload_n C dL_law_2050 rfl rfl ?_
  refine v_callVi (y := yX9_ifBooted) (As := []) (rest := []) C (cX9_ifBooted_ok hg) mlw_311 wyX9_ifBooted bsm_X9 bsc_X9 rfl (by exact dpX9_ifBooted) ⟨Nat.le_of_ble_eq_true rfl, Nat.le_of_ble_eq_true rfl⟩ ⟨rfl, rfl⟩ ⟨by show cells + 1 ≤ 601024; omega, by show slots + 6 ≤ 7293033; omega⟩ rfl (Nat.le_of_ble_eq_true rfl) dL_law_2051 ?_
  refine v_istore (lv' := [(7, .int q.1), (6, .int (q.2 14 0 0 0)), (0, .ref b), (1, .ref (ρ 13 0 0)), (2, .ref (ρ 14 0 0)), (3, .ref (ρ 15 0 0)), (4, .ref (ρ 15 1 0)), (5, .int (nI (6 * j)))]) C dL_law_2054 (by decide) rfl ?_
  refine v_aload_n C dL_law_2056 rfl rfl ?_
  refine v_callVi (y := yX9_thrown) (As := []) (rest := []) (z := (q.2 14 0 0 0, q.2)) C (cX9_thrown_ok rfl) mlw_205 wyX9_thrown bsm_X9 bsc_X9 rfl (by exact dpX9_thrown) ⟨Nat.le_of_ble_eq_true rfl, Nat.le_of_ble_eq_true rfl⟩ ⟨rfl, rfl⟩ ⟨by show cells + 1 ≤ 601024; omega, by show slots + 6 ≤ 7293033; omega⟩ rfl (Nat.le_of_ble_eq_true rfl) dL_law_2057 ?_
  refine v_iload C dL_law_2060 rfl ?_
  refine v_icmp_eq (tgt := 2067) C dL_law_2062 (by decide) (fun _ => ?_) (fun h => absurd rfl h)
  refine v_iload C dL_law_2067 rfl ?_
  refine v_if_ne (tgt := 2084) C dL_law_2069 (by decide) (fun _ => ?_) (fun h0 => ?_)
  · refine v_goto (tgt := 3507) C dL_law_2084 (by decide) ?_
    refine v_sub [2, 3, 4, 5, 6, 7] rfl ?_
    exact v_widen (by show cells + 1 ≤ cells + 9; omega) (by show slots + 6 ≤ slots + 54; omega) (kk q.2 lo9 od hI2)
  · have hr0 : r.1 = 0 := by
      rw [ht] at h0
      rcases hr with h1 | h1
      · exact h1
      · rw [h1] at h0; exact absurd h0 (by decide)
    have e0 := he hr0
    rw [if_pos hr0] at hlo
    refine v_aload_n C dL_law_2072 rfl rfl ?_
    refine v_iconst (v := 0) C dL_law_2073 (by decide) ?_
    refine v_lald C dL_law_2074 ?_
    refine v_iload C dL_law_2075 rfl ?_
    refine v_i2l C dL_law_2077 ?_
    refine v_lcmp C dL_law_2078 ?_
    rw [show bsLc lo9 q.1.toInt64 = 0 by rw [← hlo, e0]; exact bsLc_self _]
    refine v_if_eq (tgt := 2084) C dL_law_2079 (by decide) (fun _ => ?_) (fun h => absurd rfl h)
    refine v_goto (tgt := 3507) C dL_law_2084 (by decide) ?_
    refine v_sub [2, 3, 4, 5, 6, 7] rfl ?_
    exact v_widen (by show cells + 1 ≤ cells + 9; omega) (by show slots + 6 ≤ slots + 54; omega) (kk q.2 lo9 od hI2)
/-- what the pure part owes for givenUpIf -/
def sim_givenUpIf (I : Nat → bsX → Prop) : Prop := ∀ (j : Nat) (X : bsX), j < 512 → I j X → ∃ (r : bsXr) (q : Int32 × bsX), fX8_givenUpIf  X = some r ∧ (r.1 = 0 ∨ r.1 = 1) ∧ fX9_givenUpIf  r.2.2 = some q ∧ q.2 14 0 0 0 = (if r.1 = 1 then (1 : Int32) else (0 : Int32)) ∧ (r.1 = 0 → r.2.1 = q.1) ∧ I (j + 1) q.2
set_option maxHeartbeats 4000000 in
set_option maxRecDepth 100000 in
theorem law_35 {p : Program} {l : Launch} {e : Env} {s : State} {m : MethodId} {below : List Frame} {meth : Method} {c : Code} {ρ : bsR} {cA : Nat → ClassId} {dC : Nat → ClassId} {dI : Nat → Nat → Nat} {b L : Nat} {xs : Nat → Int32} {I : Nat → bsX → Prop} (H : sim_givenUpIf I) (LC : lawC p l s m meth c ρ cA dC dI b L xs) {j : Nat} (hj : 6 * j + 6 ≤ L) {cells slots : Nat} (hc1 : cells + 9 ≤ 601024) (hc2 : slots + 54 ≤ 7293033) {X : bsX} {lo : Int64} {od : UInt64} (hI : I j X) (kk : ∀ (X : bsX) (lo : Int64) (od : UInt64), I (j + 1) X → lawV p l e s m below meth c ρ cA dC dI b (cells + 9) (slots + 54) 3507 [(0, .ref b), (1, .ref (ρ 13 0 0)), (2, .ref (ρ 14 0 0)), (3, .ref (ρ 15 0 0)), (4, .ref (ρ 15 1 0)), (5, .int (nI (6 * j)))] [] X lo od) : lawV p l e s m below meth c ρ cA dC dI b cells slots 2087 [(0, .ref b), (1, .ref (ρ 13 0 0)), (2, .ref (ρ 14 0 0)), (3, .ref (ρ 15 0 0)), (4, .ref (ρ 15 1 0)), (5, .int (nI (6 * j)))] [] X lo od := by
  have hL9 : L ≤ 3072 := LC.2.2.2.2.1
  obtain ⟨hC, hX, hbl, hbA, hL, hst, hfr⟩ := LC
  have C := hC lo od
  obtain ⟨r, q, hf, hr, hg, ht, he, hI2⟩ := H j X  (by omega) hI
  refine v_aload_n C dL_law_2087 rfl rfl ?_
  refine v_aload_n C dL_law_2088 rfl rfl ?_
  refine v_wcallS (y := yL_givenUpIf) (As := [.ref (ρ 13 0 0), .ref (ρ 15 0 0)]) (rest := []) C (cL_givenUpIf_ok hst hf hr) mlw_312 wwL_givenUpIf (by exact dpL_givenUpIf) ⟨Nat.le_of_ble_eq_true rfl, Nat.le_of_ble_eq_true rfl⟩ ⟨by show cells + 1 ≤ 601024; omega, by show slots + 6 ≤ 7293033; omega⟩ rfl (Nat.le_of_ble_eq_true rfl) dL_law_2089 ?_
  have C := hC (if r.1 = 0 then r.2.1.toInt64 else lo) od
  generalize hlo : (if r.1 = 0 then r.2.1.toInt64 else lo) = lo9 at C ⊢
  dsimp only
  rw [← ht]
  refine v_istore (lv' := [(6, .int (q.2 14 0 0 0)), (0, .ref b), (1, .ref (ρ 13 0 0)), (2, .ref (ρ 14 0 0)), (3, .ref (ρ 15 0 0)), (4, .ref (ρ 15 1 0)), (5, .int (nI (6 * j)))]) C dL_law_2092 (by decide) rfl ?_
  refine v_aload_n C dL_law_2094 rfl rfl ?_
  refine v_callVi (y := yX9_givenUpIf) (As := []) (rest := []) C (cX9_givenUpIf_ok hg) mlw_314 wyX9_givenUpIf bsm_X9 bsc_X9 rfl (by exact dpX9_givenUpIf) ⟨Nat.le_of_ble_eq_true rfl, Nat.le_of_ble_eq_true rfl⟩ ⟨rfl, rfl⟩ ⟨by show cells + 1 ≤ 601024; omega, by show slots + 6 ≤ 7293033; omega⟩ rfl (Nat.le_of_ble_eq_true rfl) dL_law_2095 ?_
  refine v_istore (lv' := [(7, .int q.1), (6, .int (q.2 14 0 0 0)), (0, .ref b), (1, .ref (ρ 13 0 0)), (2, .ref (ρ 14 0 0)), (3, .ref (ρ 15 0 0)), (4, .ref (ρ 15 1 0)), (5, .int (nI (6 * j)))]) C dL_law_2098 (by decide) rfl ?_
  refine v_aload_n C dL_law_2100 rfl rfl ?_
  refine v_callVi (y := yX9_thrown) (As := []) (rest := []) (z := (q.2 14 0 0 0, q.2)) C (cX9_thrown_ok rfl) mlw_205 wyX9_thrown bsm_X9 bsc_X9 rfl (by exact dpX9_thrown) ⟨Nat.le_of_ble_eq_true rfl, Nat.le_of_ble_eq_true rfl⟩ ⟨rfl, rfl⟩ ⟨by show cells + 1 ≤ 601024; omega, by show slots + 6 ≤ 7293033; omega⟩ rfl (Nat.le_of_ble_eq_true rfl) dL_law_2101 ?_
  refine v_iload C dL_law_2104 rfl ?_
  refine v_icmp_eq (tgt := 2111) C dL_law_2106 (by decide) (fun _ => ?_) (fun h => absurd rfl h)
  refine v_iload C dL_law_2111 rfl ?_
  refine v_if_ne (tgt := 2128) C dL_law_2113 (by decide) (fun _ => ?_) (fun h0 => ?_)
  · refine v_goto (tgt := 3507) C dL_law_2128 (by decide) ?_
    refine v_sub [2, 3, 4, 5, 6, 7] rfl ?_
    exact v_widen (by show cells + 1 ≤ cells + 9; omega) (by show slots + 6 ≤ slots + 54; omega) (kk q.2 lo9 od hI2)
  · have hr0 : r.1 = 0 := by
      rw [ht] at h0
      rcases hr with h1 | h1
      · exact h1
      · rw [h1] at h0; exact absurd h0 (by decide)
    have e0 := he hr0
    rw [if_pos hr0] at hlo
    refine v_aload_n C dL_law_2116 rfl rfl ?_
    refine v_iconst (v := 0) C dL_law_2117 (by decide) ?_
    refine v_lald C dL_law_2118 ?_
    refine v_iload C dL_law_2119 rfl ?_
    refine v_i2l C dL_law_2121 ?_
    refine v_lcmp C dL_law_2122 ?_
    rw [show bsLc lo9 q.1.toInt64 = 0 by rw [← hlo, e0]; exact bsLc_self _]
    refine v_if_eq (tgt := 2128) C dL_law_2123 (by decide) (fun _ => ?_) (fun h => absurd rfl h)
    refine v_goto (tgt := 3507) C dL_law_2128 (by decide) ?_
    refine v_sub [2, 3, 4, 5, 6, 7] rfl ?_
    exact v_widen (by show cells + 1 ≤ cells + 9; omega) (by show slots + 6 ≤ slots + 54; omega) (kk q.2 lo9 od hI2)
/-- what the pure part owes for settlesOn -/
def sim_settlesOn (I : Nat → bsX → Prop) : Prop := ∀ (j : Nat) (X : bsX), j < 512 → I j X → ∃ (r : bsXr) (q : Int32 × bsX), fX8_settlesOn  X = some r ∧ (r.1 = 0 ∨ r.1 = 1) ∧ fX9_settlesOn  r.2.2 = some q ∧ q.2 14 0 0 0 = (if r.1 = 1 then (1 : Int32) else (0 : Int32)) ∧ (r.1 = 0 → r.2.1 = q.1) ∧ I (j + 1) q.2
set_option maxHeartbeats 4000000 in
set_option maxRecDepth 100000 in
theorem law_36 {p : Program} {l : Launch} {e : Env} {s : State} {m : MethodId} {below : List Frame} {meth : Method} {c : Code} {ρ : bsR} {cA : Nat → ClassId} {dC : Nat → ClassId} {dI : Nat → Nat → Nat} {b L : Nat} {xs : Nat → Int32} {I : Nat → bsX → Prop} (H : sim_settlesOn I) (LC : lawC p l s m meth c ρ cA dC dI b L xs) {j : Nat} (hj : 6 * j + 6 ≤ L) {cells slots : Nat} (hc1 : cells + 9 ≤ 601024) (hc2 : slots + 54 ≤ 7293033) {X : bsX} {lo : Int64} {od : UInt64} (hI : I j X) (kk : ∀ (X : bsX) (lo : Int64) (od : UInt64), I (j + 1) X → lawV p l e s m below meth c ρ cA dC dI b (cells + 9) (slots + 54) 3507 [(0, .ref b), (1, .ref (ρ 13 0 0)), (2, .ref (ρ 14 0 0)), (3, .ref (ρ 15 0 0)), (4, .ref (ρ 15 1 0)), (5, .int (nI (6 * j)))] [] X lo od) : lawV p l e s m below meth c ρ cA dC dI b cells slots 2131 [(0, .ref b), (1, .ref (ρ 13 0 0)), (2, .ref (ρ 14 0 0)), (3, .ref (ρ 15 0 0)), (4, .ref (ρ 15 1 0)), (5, .int (nI (6 * j)))] [] X lo od := by
  have hL9 : L ≤ 3072 := LC.2.2.2.2.1
  obtain ⟨hC, hX, hbl, hbA, hL, hst, hfr⟩ := LC
  have C := hC lo od
  obtain ⟨r, q, hf, hr, hg, ht, he, hI2⟩ := H j X  (by omega) hI
  refine v_aload_n C dL_law_2131 rfl rfl ?_
  refine v_aload_n C dL_law_2132 rfl rfl ?_
  refine v_wcallS (y := yL_settlesOn) (As := [.ref (ρ 13 0 0), .ref (ρ 15 0 0)]) (rest := []) C (cL_settlesOn_ok hst hf hr) mlw_315 wwL_settlesOn (by exact dpL_settlesOn) ⟨Nat.le_of_ble_eq_true rfl, Nat.le_of_ble_eq_true rfl⟩ ⟨by show cells + 1 ≤ 601024; omega, by show slots + 6 ≤ 7293033; omega⟩ rfl (Nat.le_of_ble_eq_true rfl) dL_law_2133 ?_
  have C := hC (if r.1 = 0 then r.2.1.toInt64 else lo) od
  generalize hlo : (if r.1 = 0 then r.2.1.toInt64 else lo) = lo9 at C ⊢
  dsimp only
  rw [← ht]
  refine v_istore (lv' := [(6, .int (q.2 14 0 0 0)), (0, .ref b), (1, .ref (ρ 13 0 0)), (2, .ref (ρ 14 0 0)), (3, .ref (ρ 15 0 0)), (4, .ref (ρ 15 1 0)), (5, .int (nI (6 * j)))]) C dL_law_2136 (by decide) rfl ?_
  refine v_aload_n C dL_law_2138 rfl rfl ?_
  refine v_callVi (y := yX9_settlesOn) (As := []) (rest := []) C (cX9_settlesOn_ok hg) mlw_317 wyX9_settlesOn bsm_X9 bsc_X9 rfl (by exact dpX9_settlesOn) ⟨Nat.le_of_ble_eq_true rfl, Nat.le_of_ble_eq_true rfl⟩ ⟨rfl, rfl⟩ ⟨by show cells + 1 ≤ 601024; omega, by show slots + 6 ≤ 7293033; omega⟩ rfl (Nat.le_of_ble_eq_true rfl) dL_law_2139 ?_
  refine v_istore (lv' := [(7, .int q.1), (6, .int (q.2 14 0 0 0)), (0, .ref b), (1, .ref (ρ 13 0 0)), (2, .ref (ρ 14 0 0)), (3, .ref (ρ 15 0 0)), (4, .ref (ρ 15 1 0)), (5, .int (nI (6 * j)))]) C dL_law_2142 (by decide) rfl ?_
  refine v_aload_n C dL_law_2144 rfl rfl ?_
  refine v_callVi (y := yX9_thrown) (As := []) (rest := []) (z := (q.2 14 0 0 0, q.2)) C (cX9_thrown_ok rfl) mlw_205 wyX9_thrown bsm_X9 bsc_X9 rfl (by exact dpX9_thrown) ⟨Nat.le_of_ble_eq_true rfl, Nat.le_of_ble_eq_true rfl⟩ ⟨rfl, rfl⟩ ⟨by show cells + 1 ≤ 601024; omega, by show slots + 6 ≤ 7293033; omega⟩ rfl (Nat.le_of_ble_eq_true rfl) dL_law_2145 ?_
  refine v_iload C dL_law_2148 rfl ?_
  refine v_icmp_eq (tgt := 2155) C dL_law_2150 (by decide) (fun _ => ?_) (fun h => absurd rfl h)
  refine v_iload C dL_law_2155 rfl ?_
  refine v_if_ne (tgt := 2172) C dL_law_2157 (by decide) (fun _ => ?_) (fun h0 => ?_)
  · refine v_goto (tgt := 3507) C dL_law_2172 (by decide) ?_
    refine v_sub [2, 3, 4, 5, 6, 7] rfl ?_
    exact v_widen (by show cells + 1 ≤ cells + 9; omega) (by show slots + 6 ≤ slots + 54; omega) (kk q.2 lo9 od hI2)
  · have hr0 : r.1 = 0 := by
      rw [ht] at h0
      rcases hr with h1 | h1
      · exact h1
      · rw [h1] at h0; exact absurd h0 (by decide)
    have e0 := he hr0
    rw [if_pos hr0] at hlo
    refine v_aload_n C dL_law_2160 rfl rfl ?_
    refine v_iconst (v := 0) C dL_law_2161 (by decide) ?_
    refine v_lald C dL_law_2162 ?_
    refine v_iload C dL_law_2163 rfl ?_
    refine v_i2l C dL_law_2165 ?_
    refine v_lcmp C dL_law_2166 ?_
    rw [show bsLc lo9 q.1.toInt64 = 0 by rw [← hlo, e0]; exact bsLc_self _]
    refine v_if_eq (tgt := 2172) C dL_law_2167 (by decide) (fun _ => ?_) (fun h => absurd rfl h)
    refine v_goto (tgt := 3507) C dL_law_2172 (by decide) ?_
    refine v_sub [2, 3, 4, 5, 6, 7] rfl ?_
    exact v_widen (by show cells + 1 ≤ cells + 9; omega) (by show slots + 6 ≤ slots + 54; omega) (kk q.2 lo9 od hI2)
/-- what the pure part owes for settlesWithout -/
def sim_settlesWithout (I : Nat → bsX → Prop) : Prop := ∀ (j : Nat) (X : bsX) (a1 : Int32), j < 512 → I j X → ∃ (r : bsXr) (q : Int32 × bsX), fX8_settlesWithout a1 X = some r ∧ (r.1 = 0 ∨ r.1 = 1 ∨ r.1 = 2) ∧ fX9_settlesWithout a1 r.2.2 = some q ∧ q.2 14 0 0 0 = (if r.1 = 1 then (1 : Int32) else (if r.1 = 2 then (2 : Int32) else (0 : Int32))) ∧ (r.1 = 0 → r.2.1 = q.1) ∧ I (j + 1) q.2
set_option maxHeartbeats 4000000 in
set_option maxRecDepth 100000 in
theorem law_37 {p : Program} {l : Launch} {e : Env} {s : State} {m : MethodId} {below : List Frame} {meth : Method} {c : Code} {ρ : bsR} {cA : Nat → ClassId} {dC : Nat → ClassId} {dI : Nat → Nat → Nat} {b L : Nat} {xs : Nat → Int32} {I : Nat → bsX → Prop} (H : sim_settlesWithout I) (LC : lawC p l s m meth c ρ cA dC dI b L xs) {j : Nat} (hj : 6 * j + 6 ≤ L) {cells slots : Nat} (hc1 : cells + 9 ≤ 601024) (hc2 : slots + 54 ≤ 7293033) {X : bsX} {lo : Int64} {od : UInt64} (hI : I j X) (kk : ∀ (X : bsX) (lo : Int64) (od : UInt64), I (j + 1) X → lawV p l e s m below meth c ρ cA dC dI b (cells + 9) (slots + 54) 3507 [(0, .ref b), (1, .ref (ρ 13 0 0)), (2, .ref (ρ 14 0 0)), (3, .ref (ρ 15 0 0)), (4, .ref (ρ 15 1 0)), (5, .int (nI (6 * j)))] [] X lo od) : lawV p l e s m below meth c ρ cA dC dI b cells slots 2175 [(0, .ref b), (1, .ref (ρ 13 0 0)), (2, .ref (ρ 14 0 0)), (3, .ref (ρ 15 0 0)), (4, .ref (ρ 15 1 0)), (5, .int (nI (6 * j)))] [] X lo od := by
  have hL9 : L ≤ 3072 := LC.2.2.2.2.1
  obtain ⟨hC, hX, hbl, hbA, hL, hst, hfr⟩ := LC
  have C := hC lo od
  obtain ⟨r, q, hf, hr, hg, ht, he, hI2⟩ := H j X (xs (6 * j + 1)) (by omega) hI
  refine v_aload_n C dL_law_2175 rfl rfl ?_
  refine v_aload_n C dL_law_2176 rfl rfl ?_
  refine v_iload C dL_law_2177 rfl ?_
  refine v_iconst (v := 1) C dL_law_2179 (by decide) ?_
  refine v_iadd C dL_law_2180 ?_
  refine v_sld (k := 1) C hX hbl (hbA lo od) rfl (by omega) (by omega) dL_law_2181 ?_
  refine v_aload_n C dL_law_2182 rfl rfl ?_
  refine v_wcallS (y := yL_settlesWithout) (As := [.ref (ρ 13 0 0), .int (xs (6 * j + 1)), .ref (ρ 15 0 0)]) (rest := []) C (cL_settlesWithout_ok hst hf hr) mlw_318 wwL_settlesWithout (by exact dpL_settlesWithout) ⟨Nat.le_of_ble_eq_true rfl, Nat.le_of_ble_eq_true rfl⟩ ⟨by show cells + 2 ≤ 601024; omega, by show slots + 12 ≤ 7293033; omega⟩ rfl (Nat.le_of_ble_eq_true rfl) dL_law_2183 ?_
  have C := hC (if r.1 = 0 then r.2.1.toInt64 else lo) od
  generalize hlo : (if r.1 = 0 then r.2.1.toInt64 else lo) = lo9 at C ⊢
  dsimp only
  rw [← ht]
  refine v_istore (lv' := [(6, .int (q.2 14 0 0 0)), (0, .ref b), (1, .ref (ρ 13 0 0)), (2, .ref (ρ 14 0 0)), (3, .ref (ρ 15 0 0)), (4, .ref (ρ 15 1 0)), (5, .int (nI (6 * j)))]) C dL_law_2186 (by decide) rfl ?_
  refine v_aload_n C dL_law_2188 rfl rfl ?_
  refine v_aload_n C dL_law_2189 rfl rfl ?_
  refine v_iload C dL_law_2190 rfl ?_
  refine v_iconst (v := 1) C dL_law_2192 (by decide) ?_
  refine v_iadd C dL_law_2193 ?_
  refine v_sld (k := 1) C hX hbl (hbA lo9 od) rfl (by omega) (by omega) dL_law_2194 ?_
  refine v_callVi (y := yX9_settlesWithout) (As := [.int (xs (6 * j + 1))]) (rest := []) C (cX9_settlesWithout_ok hg) mlw_320 wyX9_settlesWithout bsm_X9 bsc_X9 rfl (by exact dpX9_settlesWithout) ⟨Nat.le_of_ble_eq_true rfl, Nat.le_of_ble_eq_true rfl⟩ ⟨rfl, rfl⟩ ⟨by show cells + 2 ≤ 601024; omega, by show slots + 12 ≤ 7293033; omega⟩ rfl (Nat.le_of_ble_eq_true rfl) dL_law_2195 ?_
  refine v_istore (lv' := [(7, .int q.1), (6, .int (q.2 14 0 0 0)), (0, .ref b), (1, .ref (ρ 13 0 0)), (2, .ref (ρ 14 0 0)), (3, .ref (ρ 15 0 0)), (4, .ref (ρ 15 1 0)), (5, .int (nI (6 * j)))]) C dL_law_2198 (by decide) rfl ?_
  refine v_aload_n C dL_law_2200 rfl rfl ?_
  refine v_callVi (y := yX9_thrown) (As := []) (rest := []) (z := (q.2 14 0 0 0, q.2)) C (cX9_thrown_ok rfl) mlw_205 wyX9_thrown bsm_X9 bsc_X9 rfl (by exact dpX9_thrown) ⟨Nat.le_of_ble_eq_true rfl, Nat.le_of_ble_eq_true rfl⟩ ⟨rfl, rfl⟩ ⟨by show cells + 2 ≤ 601024; omega, by show slots + 12 ≤ 7293033; omega⟩ rfl (Nat.le_of_ble_eq_true rfl) dL_law_2201 ?_
  refine v_iload C dL_law_2204 rfl ?_
  refine v_icmp_eq (tgt := 2211) C dL_law_2206 (by decide) (fun _ => ?_) (fun h => absurd rfl h)
  refine v_iload C dL_law_2211 rfl ?_
  refine v_if_ne (tgt := 2228) C dL_law_2213 (by decide) (fun _ => ?_) (fun h0 => ?_)
  · refine v_goto (tgt := 3507) C dL_law_2228 (by decide) ?_
    refine v_sub [2, 3, 4, 5, 6, 7] rfl ?_
    exact v_widen (by show cells + 2 ≤ cells + 9; omega) (by show slots + 12 ≤ slots + 54; omega) (kk q.2 lo9 od hI2)
  · have hr0 : r.1 = 0 := by
      rw [ht] at h0
      rcases hr with h1 | h1 | h1
      · exact h1
      · rw [h1] at h0; exact absurd h0 (by decide)
      · rw [h1] at h0; exact absurd h0 (by decide)
    have e0 := he hr0
    rw [if_pos hr0] at hlo
    refine v_aload_n C dL_law_2216 rfl rfl ?_
    refine v_iconst (v := 0) C dL_law_2217 (by decide) ?_
    refine v_lald C dL_law_2218 ?_
    refine v_iload C dL_law_2219 rfl ?_
    refine v_i2l C dL_law_2221 ?_
    refine v_lcmp C dL_law_2222 ?_
    rw [show bsLc lo9 q.1.toInt64 = 0 by rw [← hlo, e0]; exact bsLc_self _]
    refine v_if_eq (tgt := 2228) C dL_law_2223 (by decide) (fun _ => ?_) (fun h => absurd rfl h)
    refine v_goto (tgt := 3507) C dL_law_2228 (by decide) ?_
    refine v_sub [2, 3, 4, 5, 6, 7] rfl ?_
    exact v_widen (by show cells + 2 ≤ cells + 9; omega) (by show slots + 12 ≤ slots + 54; omega) (kk q.2 lo9 od hI2)
/-- what the pure part owes for ifInstalled -/
def sim_ifInstalled (I : Nat → bsX → Prop) : Prop := ∀ (j : Nat) (X : bsX) (a1 a2 a3 : Int32), j < 512 → I j X → ∃ (r : bsXr) (q : Int32 × bsX), fX8_ifInstalled a1 a2 a3 X = some r ∧ (r.1 = 0 ∨ r.1 = 1 ∨ r.1 = 2 ∨ r.1 = 3) ∧ fX9_ifInstalled a1 a2 a3 r.2.2 = some q ∧ q.2 14 0 0 0 = (if r.1 = 1 then (1 : Int32) else (if r.1 = 2 then (2 : Int32) else (if r.1 = 3 then (3 : Int32) else (0 : Int32)))) ∧ (r.1 = 0 → r.2.1 = q.1) ∧ I (j + 1) q.2
set_option maxHeartbeats 4000000 in
set_option maxRecDepth 100000 in
theorem law_38 {p : Program} {l : Launch} {e : Env} {s : State} {m : MethodId} {below : List Frame} {meth : Method} {c : Code} {ρ : bsR} {cA : Nat → ClassId} {dC : Nat → ClassId} {dI : Nat → Nat → Nat} {b L : Nat} {xs : Nat → Int32} {I : Nat → bsX → Prop} (H : sim_ifInstalled I) (LC : lawC p l s m meth c ρ cA dC dI b L xs) {j : Nat} (hj : 6 * j + 6 ≤ L) {cells slots : Nat} (hc1 : cells + 9 ≤ 601024) (hc2 : slots + 54 ≤ 7293033) {X : bsX} {lo : Int64} {od : UInt64} (hI : I j X) (kk : ∀ (X : bsX) (lo : Int64) (od : UInt64), I (j + 1) X → lawV p l e s m below meth c ρ cA dC dI b (cells + 9) (slots + 54) 3507 [(0, .ref b), (1, .ref (ρ 13 0 0)), (2, .ref (ρ 14 0 0)), (3, .ref (ρ 15 0 0)), (4, .ref (ρ 15 1 0)), (5, .int (nI (6 * j)))] [] X lo od) : lawV p l e s m below meth c ρ cA dC dI b cells slots 2231 [(0, .ref b), (1, .ref (ρ 13 0 0)), (2, .ref (ρ 14 0 0)), (3, .ref (ρ 15 0 0)), (4, .ref (ρ 15 1 0)), (5, .int (nI (6 * j)))] [] X lo od := by
  have hL9 : L ≤ 3072 := LC.2.2.2.2.1
  obtain ⟨hC, hX, hbl, hbA, hL, hst, hfr⟩ := LC
  have C := hC lo od
  obtain ⟨r, q, hf, hr, hg, ht, he, hI2⟩ := H j X (xs (6 * j + 1)) (xs (6 * j + 2)) (xs (6 * j + 3)) (by omega) hI
  refine v_aload_n C dL_law_2231 rfl rfl ?_
  refine v_aload_n C dL_law_2232 rfl rfl ?_
  refine v_iload C dL_law_2233 rfl ?_
  refine v_iconst (v := 1) C dL_law_2235 (by decide) ?_
  refine v_iadd C dL_law_2236 ?_
  refine v_sld (k := 1) C hX hbl (hbA lo od) rfl (by omega) (by omega) dL_law_2237 ?_
  refine v_aload_n C dL_law_2238 rfl rfl ?_
  refine v_iload C dL_law_2239 rfl ?_
  refine v_iconst (v := 2) C dL_law_2241 (by decide) ?_
  refine v_iadd C dL_law_2242 ?_
  refine v_sld (k := 2) C hX hbl (hbA lo od) rfl (by omega) (by omega) dL_law_2243 ?_
  refine v_aload_n C dL_law_2244 rfl rfl ?_
  refine v_iload C dL_law_2245 rfl ?_
  refine v_iconst (v := 3) C dL_law_2247 (by decide) ?_
  refine v_iadd C dL_law_2248 ?_
  refine v_sld (k := 3) C hX hbl (hbA lo od) rfl (by omega) (by omega) dL_law_2249 ?_
  refine v_aload_n C dL_law_2250 rfl rfl ?_
  refine v_wcallS (y := yL_ifInstalled) (As := [.ref (ρ 13 0 0), .int (xs (6 * j + 1)), .int (xs (6 * j + 2)), .int (xs (6 * j + 3)), .ref (ρ 15 0 0)]) (rest := []) C (cL_ifInstalled_ok hst hf hr) mlw_321 wwL_ifInstalled (by exact dpL_ifInstalled) ⟨Nat.le_of_ble_eq_true rfl, Nat.le_of_ble_eq_true rfl⟩ ⟨by show cells + 4 ≤ 601024; omega, by show slots + 24 ≤ 7293033; omega⟩ rfl (Nat.le_of_ble_eq_true rfl) dL_law_2251 ?_
  have C := hC (if r.1 = 0 then r.2.1.toInt64 else lo) od
  generalize hlo : (if r.1 = 0 then r.2.1.toInt64 else lo) = lo9 at C ⊢
  dsimp only
  rw [← ht]
  refine v_istore (lv' := [(6, .int (q.2 14 0 0 0)), (0, .ref b), (1, .ref (ρ 13 0 0)), (2, .ref (ρ 14 0 0)), (3, .ref (ρ 15 0 0)), (4, .ref (ρ 15 1 0)), (5, .int (nI (6 * j)))]) C dL_law_2254 (by decide) rfl ?_
  refine v_aload_n C dL_law_2256 rfl rfl ?_
  refine v_aload_n C dL_law_2257 rfl rfl ?_
  refine v_iload C dL_law_2258 rfl ?_
  refine v_iconst (v := 1) C dL_law_2260 (by decide) ?_
  refine v_iadd C dL_law_2261 ?_
  refine v_sld (k := 1) C hX hbl (hbA lo9 od) rfl (by omega) (by omega) dL_law_2262 ?_
  refine v_aload_n C dL_law_2263 rfl rfl ?_
  refine v_iload C dL_law_2264 rfl ?_
  refine v_iconst (v := 2) C dL_law_2266 (by decide) ?_
  refine v_iadd C dL_law_2267 ?_
  refine v_sld (k := 2) C hX hbl (hbA lo9 od) rfl (by omega) (by omega) dL_law_2268 ?_
  refine v_aload_n C dL_law_2269 rfl rfl ?_
  refine v_iload C dL_law_2270 rfl ?_
  refine v_iconst (v := 3) C dL_law_2272 (by decide) ?_
  refine v_iadd C dL_law_2273 ?_
  refine v_sld (k := 3) C hX hbl (hbA lo9 od) rfl (by omega) (by omega) dL_law_2274 ?_
  refine v_callVi (y := yX9_ifInstalled) (As := [.int (xs (6 * j + 1)), .int (xs (6 * j + 2)), .int (xs (6 * j + 3))]) (rest := []) C (cX9_ifInstalled_ok hg) mlw_324 wyX9_ifInstalled bsm_X9 bsc_X9 rfl (by exact dpX9_ifInstalled) ⟨Nat.le_of_ble_eq_true rfl, Nat.le_of_ble_eq_true rfl⟩ ⟨rfl, rfl⟩ ⟨by show cells + 4 ≤ 601024; omega, by show slots + 24 ≤ 7293033; omega⟩ rfl (Nat.le_of_ble_eq_true rfl) dL_law_2275 ?_
  refine v_istore (lv' := [(7, .int q.1), (6, .int (q.2 14 0 0 0)), (0, .ref b), (1, .ref (ρ 13 0 0)), (2, .ref (ρ 14 0 0)), (3, .ref (ρ 15 0 0)), (4, .ref (ρ 15 1 0)), (5, .int (nI (6 * j)))]) C dL_law_2278 (by decide) rfl ?_
  refine v_aload_n C dL_law_2280 rfl rfl ?_
  refine v_callVi (y := yX9_thrown) (As := []) (rest := []) (z := (q.2 14 0 0 0, q.2)) C (cX9_thrown_ok rfl) mlw_205 wyX9_thrown bsm_X9 bsc_X9 rfl (by exact dpX9_thrown) ⟨Nat.le_of_ble_eq_true rfl, Nat.le_of_ble_eq_true rfl⟩ ⟨rfl, rfl⟩ ⟨by show cells + 4 ≤ 601024; omega, by show slots + 24 ≤ 7293033; omega⟩ rfl (Nat.le_of_ble_eq_true rfl) dL_law_2281 ?_
  refine v_iload C dL_law_2284 rfl ?_
  refine v_icmp_eq (tgt := 2291) C dL_law_2286 (by decide) (fun _ => ?_) (fun h => absurd rfl h)
  refine v_iload C dL_law_2291 rfl ?_
  refine v_if_ne (tgt := 2308) C dL_law_2293 (by decide) (fun _ => ?_) (fun h0 => ?_)
  · refine v_goto (tgt := 3507) C dL_law_2308 (by decide) ?_
    refine v_sub [2, 3, 4, 5, 6, 7] rfl ?_
    exact v_widen (by show cells + 4 ≤ cells + 9; omega) (by show slots + 24 ≤ slots + 54; omega) (kk q.2 lo9 od hI2)
  · have hr0 : r.1 = 0 := by
      rw [ht] at h0
      rcases hr with h1 | h1 | h1 | h1
      · exact h1
      · rw [h1] at h0; exact absurd h0 (by decide)
      · rw [h1] at h0; exact absurd h0 (by decide)
      · rw [h1] at h0; exact absurd h0 (by decide)
    have e0 := he hr0
    rw [if_pos hr0] at hlo
    refine v_aload_n C dL_law_2296 rfl rfl ?_
    refine v_iconst (v := 0) C dL_law_2297 (by decide) ?_
    refine v_lald C dL_law_2298 ?_
    refine v_iload C dL_law_2299 rfl ?_
    refine v_i2l C dL_law_2301 ?_
    refine v_lcmp C dL_law_2302 ?_
    rw [show bsLc lo9 q.1.toInt64 = 0 by rw [← hlo, e0]; exact bsLc_self _]
    refine v_if_eq (tgt := 2308) C dL_law_2303 (by decide) (fun _ => ?_) (fun h => absurd rfl h)
    refine v_goto (tgt := 3507) C dL_law_2308 (by decide) ?_
    refine v_sub [2, 3, 4, 5, 6, 7] rfl ?_
    exact v_widen (by show cells + 4 ≤ cells + 9; omega) (by show slots + 24 ≤ slots + 54; omega) (kk q.2 lo9 od hI2)
/-- what the pure part owes for triesFor -/
def sim_triesFor (I : Nat → bsX → Prop) : Prop := ∀ (j : Nat) (X : bsX) (a1 : Int32), j < 512 → I j X → ∃ (r : bsXr) (q : Int32 × bsX), fX8_triesFor a1 X = some r ∧ (r.1 = 0 ∨ r.1 = 1 ∨ r.1 = 2) ∧ fX9_triesFor a1 r.2.2 = some q ∧ q.2 14 0 0 0 = (if r.1 = 1 then (1 : Int32) else (if r.1 = 2 then (2 : Int32) else (0 : Int32))) ∧ (r.1 = 0 → r.2.1 = q.1) ∧ I (j + 1) q.2
set_option maxHeartbeats 4000000 in
set_option maxRecDepth 100000 in
theorem law_39 {p : Program} {l : Launch} {e : Env} {s : State} {m : MethodId} {below : List Frame} {meth : Method} {c : Code} {ρ : bsR} {cA : Nat → ClassId} {dC : Nat → ClassId} {dI : Nat → Nat → Nat} {b L : Nat} {xs : Nat → Int32} {I : Nat → bsX → Prop} (H : sim_triesFor I) (LC : lawC p l s m meth c ρ cA dC dI b L xs) {j : Nat} (hj : 6 * j + 6 ≤ L) {cells slots : Nat} (hc1 : cells + 9 ≤ 601024) (hc2 : slots + 54 ≤ 7293033) {X : bsX} {lo : Int64} {od : UInt64} (hI : I j X) (kk : ∀ (X : bsX) (lo : Int64) (od : UInt64), I (j + 1) X → lawV p l e s m below meth c ρ cA dC dI b (cells + 9) (slots + 54) 3507 [(0, .ref b), (1, .ref (ρ 13 0 0)), (2, .ref (ρ 14 0 0)), (3, .ref (ρ 15 0 0)), (4, .ref (ρ 15 1 0)), (5, .int (nI (6 * j)))] [] X lo od) : lawV p l e s m below meth c ρ cA dC dI b cells slots 2311 [(0, .ref b), (1, .ref (ρ 13 0 0)), (2, .ref (ρ 14 0 0)), (3, .ref (ρ 15 0 0)), (4, .ref (ρ 15 1 0)), (5, .int (nI (6 * j)))] [] X lo od := by
  have hL9 : L ≤ 3072 := LC.2.2.2.2.1
  obtain ⟨hC, hX, hbl, hbA, hL, hst, hfr⟩ := LC
  have C := hC lo od
  obtain ⟨r, q, hf, hr, hg, ht, he, hI2⟩ := H j X (xs (6 * j + 1)) (by omega) hI
  refine v_aload_n C dL_law_2311 rfl rfl ?_
  refine v_aload_n C dL_law_2312 rfl rfl ?_
  refine v_iload C dL_law_2313 rfl ?_
  refine v_iconst (v := 1) C dL_law_2315 (by decide) ?_
  refine v_iadd C dL_law_2316 ?_
  refine v_sld (k := 1) C hX hbl (hbA lo od) rfl (by omega) (by omega) dL_law_2317 ?_
  refine v_aload_n C dL_law_2318 rfl rfl ?_
  refine v_wcallS (y := yL_triesFor) (As := [.ref (ρ 13 0 0), .int (xs (6 * j + 1)), .ref (ρ 15 0 0)]) (rest := []) C (cL_triesFor_ok hst hf hr) mlw_325 wwL_triesFor (by exact dpL_triesFor) ⟨Nat.le_of_ble_eq_true rfl, Nat.le_of_ble_eq_true rfl⟩ ⟨by show cells + 2 ≤ 601024; omega, by show slots + 12 ≤ 7293033; omega⟩ rfl (Nat.le_of_ble_eq_true rfl) dL_law_2319 ?_
  have C := hC (if r.1 = 0 then r.2.1.toInt64 else lo) od
  generalize hlo : (if r.1 = 0 then r.2.1.toInt64 else lo) = lo9 at C ⊢
  dsimp only
  rw [← ht]
  refine v_istore (lv' := [(6, .int (q.2 14 0 0 0)), (0, .ref b), (1, .ref (ρ 13 0 0)), (2, .ref (ρ 14 0 0)), (3, .ref (ρ 15 0 0)), (4, .ref (ρ 15 1 0)), (5, .int (nI (6 * j)))]) C dL_law_2322 (by decide) rfl ?_
  refine v_aload_n C dL_law_2324 rfl rfl ?_
  refine v_aload_n C dL_law_2325 rfl rfl ?_
  refine v_iload C dL_law_2326 rfl ?_
  refine v_iconst (v := 1) C dL_law_2328 (by decide) ?_
  refine v_iadd C dL_law_2329 ?_
  refine v_sld (k := 1) C hX hbl (hbA lo9 od) rfl (by omega) (by omega) dL_law_2330 ?_
  refine v_callVi (y := yX9_triesFor) (As := [.int (xs (6 * j + 1))]) (rest := []) C (cX9_triesFor_ok hg) mlw_327 wyX9_triesFor bsm_X9 bsc_X9 rfl (by exact dpX9_triesFor) ⟨Nat.le_of_ble_eq_true rfl, Nat.le_of_ble_eq_true rfl⟩ ⟨rfl, rfl⟩ ⟨by show cells + 2 ≤ 601024; omega, by show slots + 12 ≤ 7293033; omega⟩ rfl (Nat.le_of_ble_eq_true rfl) dL_law_2331 ?_
  refine v_istore (lv' := [(7, .int q.1), (6, .int (q.2 14 0 0 0)), (0, .ref b), (1, .ref (ρ 13 0 0)), (2, .ref (ρ 14 0 0)), (3, .ref (ρ 15 0 0)), (4, .ref (ρ 15 1 0)), (5, .int (nI (6 * j)))]) C dL_law_2334 (by decide) rfl ?_
  refine v_aload_n C dL_law_2336 rfl rfl ?_
  refine v_callVi (y := yX9_thrown) (As := []) (rest := []) (z := (q.2 14 0 0 0, q.2)) C (cX9_thrown_ok rfl) mlw_205 wyX9_thrown bsm_X9 bsc_X9 rfl (by exact dpX9_thrown) ⟨Nat.le_of_ble_eq_true rfl, Nat.le_of_ble_eq_true rfl⟩ ⟨rfl, rfl⟩ ⟨by show cells + 2 ≤ 601024; omega, by show slots + 12 ≤ 7293033; omega⟩ rfl (Nat.le_of_ble_eq_true rfl) dL_law_2337 ?_
  refine v_iload C dL_law_2340 rfl ?_
  refine v_icmp_eq (tgt := 2347) C dL_law_2342 (by decide) (fun _ => ?_) (fun h => absurd rfl h)
  refine v_iload C dL_law_2347 rfl ?_
  refine v_if_ne (tgt := 2364) C dL_law_2349 (by decide) (fun _ => ?_) (fun h0 => ?_)
  · refine v_goto (tgt := 3507) C dL_law_2364 (by decide) ?_
    refine v_sub [2, 3, 4, 5, 6, 7] rfl ?_
    exact v_widen (by show cells + 2 ≤ cells + 9; omega) (by show slots + 12 ≤ slots + 54; omega) (kk q.2 lo9 od hI2)
  · have hr0 : r.1 = 0 := by
      rw [ht] at h0
      rcases hr with h1 | h1 | h1
      · exact h1
      · rw [h1] at h0; exact absurd h0 (by decide)
      · rw [h1] at h0; exact absurd h0 (by decide)
    have e0 := he hr0
    rw [if_pos hr0] at hlo
    refine v_aload_n C dL_law_2352 rfl rfl ?_
    refine v_iconst (v := 0) C dL_law_2353 (by decide) ?_
    refine v_lald C dL_law_2354 ?_
    refine v_iload C dL_law_2355 rfl ?_
    refine v_i2l C dL_law_2357 ?_
    refine v_lcmp C dL_law_2358 ?_
    rw [show bsLc lo9 q.1.toInt64 = 0 by rw [← hlo, e0]; exact bsLc_self _]
    refine v_if_eq (tgt := 2364) C dL_law_2359 (by decide) (fun _ => ?_) (fun h => absurd rfl h)
    refine v_goto (tgt := 3507) C dL_law_2364 (by decide) ?_
    refine v_sub [2, 3, 4, 5, 6, 7] rfl ?_
    exact v_widen (by show cells + 2 ≤ cells + 9; omega) (by show slots + 12 ≤ slots + 54; omega) (kk q.2 lo9 od hI2)
/-- what the pure part owes for bestWatch -/
def sim_bestWatch (I : Nat → bsX → Prop) : Prop := ∀ (j : Nat) (X : bsX) (a1 : Int32), j < 512 → I j X → ∃ (r : bsXr) (q : Int32 × bsX), fX8_bestWatch a1 X = some r ∧ (r.1 = 0 ∨ r.1 = 1 ∨ r.1 = 2) ∧ fX9_bestWatch a1 r.2.2 = some q ∧ q.2 14 0 0 0 = (if r.1 = 1 then (1 : Int32) else (if r.1 = 2 then (2 : Int32) else (0 : Int32))) ∧ (r.1 = 0 → r.2.1 = q.1) ∧ I (j + 1) q.2
set_option maxHeartbeats 4000000 in
set_option maxRecDepth 100000 in
theorem law_40 {p : Program} {l : Launch} {e : Env} {s : State} {m : MethodId} {below : List Frame} {meth : Method} {c : Code} {ρ : bsR} {cA : Nat → ClassId} {dC : Nat → ClassId} {dI : Nat → Nat → Nat} {b L : Nat} {xs : Nat → Int32} {I : Nat → bsX → Prop} (H : sim_bestWatch I) (LC : lawC p l s m meth c ρ cA dC dI b L xs) {j : Nat} (hj : 6 * j + 6 ≤ L) {cells slots : Nat} (hc1 : cells + 9 ≤ 601024) (hc2 : slots + 54 ≤ 7293033) {X : bsX} {lo : Int64} {od : UInt64} (hI : I j X) (kk : ∀ (X : bsX) (lo : Int64) (od : UInt64), I (j + 1) X → lawV p l e s m below meth c ρ cA dC dI b (cells + 9) (slots + 54) 3507 [(0, .ref b), (1, .ref (ρ 13 0 0)), (2, .ref (ρ 14 0 0)), (3, .ref (ρ 15 0 0)), (4, .ref (ρ 15 1 0)), (5, .int (nI (6 * j)))] [] X lo od) : lawV p l e s m below meth c ρ cA dC dI b cells slots 2367 [(0, .ref b), (1, .ref (ρ 13 0 0)), (2, .ref (ρ 14 0 0)), (3, .ref (ρ 15 0 0)), (4, .ref (ρ 15 1 0)), (5, .int (nI (6 * j)))] [] X lo od := by
  have hL9 : L ≤ 3072 := LC.2.2.2.2.1
  obtain ⟨hC, hX, hbl, hbA, hL, hst, hfr⟩ := LC
  have C := hC lo od
  obtain ⟨r, q, hf, hr, hg, ht, he, hI2⟩ := H j X (xs (6 * j + 1)) (by omega) hI
  refine v_aload_n C dL_law_2367 rfl rfl ?_
  refine v_aload_n C dL_law_2368 rfl rfl ?_
  refine v_iload C dL_law_2369 rfl ?_
  refine v_iconst (v := 1) C dL_law_2371 (by decide) ?_
  refine v_iadd C dL_law_2372 ?_
  refine v_sld (k := 1) C hX hbl (hbA lo od) rfl (by omega) (by omega) dL_law_2373 ?_
  refine v_aload_n C dL_law_2374 rfl rfl ?_
  refine v_wcallS (y := yL_bestWatch) (As := [.ref (ρ 13 0 0), .int (xs (6 * j + 1)), .ref (ρ 15 0 0)]) (rest := []) C (cL_bestWatch_ok hst hf hr) mlw_328 wwL_bestWatch (by exact dpL_bestWatch) ⟨Nat.le_of_ble_eq_true rfl, Nat.le_of_ble_eq_true rfl⟩ ⟨by show cells + 2 ≤ 601024; omega, by show slots + 12 ≤ 7293033; omega⟩ rfl (Nat.le_of_ble_eq_true rfl) dL_law_2375 ?_
  have C := hC (if r.1 = 0 then r.2.1.toInt64 else lo) od
  generalize hlo : (if r.1 = 0 then r.2.1.toInt64 else lo) = lo9 at C ⊢
  dsimp only
  rw [← ht]
  refine v_istore (lv' := [(6, .int (q.2 14 0 0 0)), (0, .ref b), (1, .ref (ρ 13 0 0)), (2, .ref (ρ 14 0 0)), (3, .ref (ρ 15 0 0)), (4, .ref (ρ 15 1 0)), (5, .int (nI (6 * j)))]) C dL_law_2378 (by decide) rfl ?_
  refine v_aload_n C dL_law_2380 rfl rfl ?_
  refine v_aload_n C dL_law_2381 rfl rfl ?_
  refine v_iload C dL_law_2382 rfl ?_
  refine v_iconst (v := 1) C dL_law_2384 (by decide) ?_
  refine v_iadd C dL_law_2385 ?_
  refine v_sld (k := 1) C hX hbl (hbA lo9 od) rfl (by omega) (by omega) dL_law_2386 ?_
  refine v_callVi (y := yX9_bestWatch) (As := [.int (xs (6 * j + 1))]) (rest := []) C (cX9_bestWatch_ok hg) mlw_330 wyX9_bestWatch bsm_X9 bsc_X9 rfl (by exact dpX9_bestWatch) ⟨Nat.le_of_ble_eq_true rfl, Nat.le_of_ble_eq_true rfl⟩ ⟨rfl, rfl⟩ ⟨by show cells + 2 ≤ 601024; omega, by show slots + 12 ≤ 7293033; omega⟩ rfl (Nat.le_of_ble_eq_true rfl) dL_law_2387 ?_
  refine v_istore (lv' := [(7, .int q.1), (6, .int (q.2 14 0 0 0)), (0, .ref b), (1, .ref (ρ 13 0 0)), (2, .ref (ρ 14 0 0)), (3, .ref (ρ 15 0 0)), (4, .ref (ρ 15 1 0)), (5, .int (nI (6 * j)))]) C dL_law_2390 (by decide) rfl ?_
  refine v_aload_n C dL_law_2392 rfl rfl ?_
  refine v_callVi (y := yX9_thrown) (As := []) (rest := []) (z := (q.2 14 0 0 0, q.2)) C (cX9_thrown_ok rfl) mlw_205 wyX9_thrown bsm_X9 bsc_X9 rfl (by exact dpX9_thrown) ⟨Nat.le_of_ble_eq_true rfl, Nat.le_of_ble_eq_true rfl⟩ ⟨rfl, rfl⟩ ⟨by show cells + 2 ≤ 601024; omega, by show slots + 12 ≤ 7293033; omega⟩ rfl (Nat.le_of_ble_eq_true rfl) dL_law_2393 ?_
  refine v_iload C dL_law_2396 rfl ?_
  refine v_icmp_eq (tgt := 2403) C dL_law_2398 (by decide) (fun _ => ?_) (fun h => absurd rfl h)
  refine v_iload C dL_law_2403 rfl ?_
  refine v_if_ne (tgt := 2420) C dL_law_2405 (by decide) (fun _ => ?_) (fun h0 => ?_)
  · refine v_goto (tgt := 3507) C dL_law_2420 (by decide) ?_
    refine v_sub [2, 3, 4, 5, 6, 7] rfl ?_
    exact v_widen (by show cells + 2 ≤ cells + 9; omega) (by show slots + 12 ≤ slots + 54; omega) (kk q.2 lo9 od hI2)
  · have hr0 : r.1 = 0 := by
      rw [ht] at h0
      rcases hr with h1 | h1 | h1
      · exact h1
      · rw [h1] at h0; exact absurd h0 (by decide)
      · rw [h1] at h0; exact absurd h0 (by decide)
    have e0 := he hr0
    rw [if_pos hr0] at hlo
    refine v_aload_n C dL_law_2408 rfl rfl ?_
    refine v_iconst (v := 0) C dL_law_2409 (by decide) ?_
    refine v_lald C dL_law_2410 ?_
    refine v_iload C dL_law_2411 rfl ?_
    refine v_i2l C dL_law_2413 ?_
    refine v_lcmp C dL_law_2414 ?_
    rw [show bsLc lo9 q.1.toInt64 = 0 by rw [← hlo, e0]; exact bsLc_self _]
    refine v_if_eq (tgt := 2420) C dL_law_2415 (by decide) (fun _ => ?_) (fun h => absurd rfl h)
    refine v_goto (tgt := 3507) C dL_law_2420 (by decide) ?_
    refine v_sub [2, 3, 4, 5, 6, 7] rfl ?_
    exact v_widen (by show cells + 2 ≤ cells + 9; omega) (by show slots + 12 ≤ slots + 54; omega) (kk q.2 lo9 od hI2)
/-- what the pure part owes for highestFloor -/
def sim_highestFloor (I : Nat → bsX → Prop) : Prop := ∀ (j : Nat) (X : bsX), j < 512 → I j X → ∃ (r : bsXr) (q : Int32 × bsX), fX8_highestFloor  X = some r ∧ (r.1 = 0 ∨ r.1 = 1) ∧ fX9_highestFloor  r.2.2 = some q ∧ q.2 14 0 0 0 = (if r.1 = 1 then (1 : Int32) else (0 : Int32)) ∧ (r.1 = 0 → r.2.1 = q.1) ∧ I (j + 1) q.2
set_option maxHeartbeats 4000000 in
set_option maxRecDepth 100000 in
theorem law_41 {p : Program} {l : Launch} {e : Env} {s : State} {m : MethodId} {below : List Frame} {meth : Method} {c : Code} {ρ : bsR} {cA : Nat → ClassId} {dC : Nat → ClassId} {dI : Nat → Nat → Nat} {b L : Nat} {xs : Nat → Int32} {I : Nat → bsX → Prop} (H : sim_highestFloor I) (LC : lawC p l s m meth c ρ cA dC dI b L xs) {j : Nat} (hj : 6 * j + 6 ≤ L) {cells slots : Nat} (hc1 : cells + 9 ≤ 601024) (hc2 : slots + 54 ≤ 7293033) {X : bsX} {lo : Int64} {od : UInt64} (hI : I j X) (kk : ∀ (X : bsX) (lo : Int64) (od : UInt64), I (j + 1) X → lawV p l e s m below meth c ρ cA dC dI b (cells + 9) (slots + 54) 3507 [(0, .ref b), (1, .ref (ρ 13 0 0)), (2, .ref (ρ 14 0 0)), (3, .ref (ρ 15 0 0)), (4, .ref (ρ 15 1 0)), (5, .int (nI (6 * j)))] [] X lo od) : lawV p l e s m below meth c ρ cA dC dI b cells slots 2423 [(0, .ref b), (1, .ref (ρ 13 0 0)), (2, .ref (ρ 14 0 0)), (3, .ref (ρ 15 0 0)), (4, .ref (ρ 15 1 0)), (5, .int (nI (6 * j)))] [] X lo od := by
  have hL9 : L ≤ 3072 := LC.2.2.2.2.1
  obtain ⟨hC, hX, hbl, hbA, hL, hst, hfr⟩ := LC
  have C := hC lo od
  obtain ⟨r, q, hf, hr, hg, ht, he, hI2⟩ := H j X  (by omega) hI
  refine v_aload_n C dL_law_2423 rfl rfl ?_
  refine v_aload_n C dL_law_2424 rfl rfl ?_
  refine v_wcallS (y := yL_highestFloor) (As := [.ref (ρ 13 0 0), .ref (ρ 15 0 0)]) (rest := []) C (cL_highestFloor_ok hst hf hr) mlw_331 wwL_highestFloor (by exact dpL_highestFloor) ⟨Nat.le_of_ble_eq_true rfl, Nat.le_of_ble_eq_true rfl⟩ ⟨by show cells + 1 ≤ 601024; omega, by show slots + 6 ≤ 7293033; omega⟩ rfl (Nat.le_of_ble_eq_true rfl) dL_law_2425 ?_
  have C := hC (if r.1 = 0 then r.2.1.toInt64 else lo) od
  generalize hlo : (if r.1 = 0 then r.2.1.toInt64 else lo) = lo9 at C ⊢
  dsimp only
  rw [← ht]
  refine v_istore (lv' := [(6, .int (q.2 14 0 0 0)), (0, .ref b), (1, .ref (ρ 13 0 0)), (2, .ref (ρ 14 0 0)), (3, .ref (ρ 15 0 0)), (4, .ref (ρ 15 1 0)), (5, .int (nI (6 * j)))]) C dL_law_2428 (by decide) rfl ?_
  refine v_aload_n C dL_law_2430 rfl rfl ?_
  refine v_callVi (y := yX9_highestFloor) (As := []) (rest := []) C (cX9_highestFloor_ok hg) mlw_333 wyX9_highestFloor bsm_X9 bsc_X9 rfl (by exact dpX9_highestFloor) ⟨Nat.le_of_ble_eq_true rfl, Nat.le_of_ble_eq_true rfl⟩ ⟨rfl, rfl⟩ ⟨by show cells + 1 ≤ 601024; omega, by show slots + 6 ≤ 7293033; omega⟩ rfl (Nat.le_of_ble_eq_true rfl) dL_law_2431 ?_
  refine v_istore (lv' := [(7, .int q.1), (6, .int (q.2 14 0 0 0)), (0, .ref b), (1, .ref (ρ 13 0 0)), (2, .ref (ρ 14 0 0)), (3, .ref (ρ 15 0 0)), (4, .ref (ρ 15 1 0)), (5, .int (nI (6 * j)))]) C dL_law_2434 (by decide) rfl ?_
  refine v_aload_n C dL_law_2436 rfl rfl ?_
  refine v_callVi (y := yX9_thrown) (As := []) (rest := []) (z := (q.2 14 0 0 0, q.2)) C (cX9_thrown_ok rfl) mlw_205 wyX9_thrown bsm_X9 bsc_X9 rfl (by exact dpX9_thrown) ⟨Nat.le_of_ble_eq_true rfl, Nat.le_of_ble_eq_true rfl⟩ ⟨rfl, rfl⟩ ⟨by show cells + 1 ≤ 601024; omega, by show slots + 6 ≤ 7293033; omega⟩ rfl (Nat.le_of_ble_eq_true rfl) dL_law_2437 ?_
  refine v_iload C dL_law_2440 rfl ?_
  refine v_icmp_eq (tgt := 2447) C dL_law_2442 (by decide) (fun _ => ?_) (fun h => absurd rfl h)
  refine v_iload C dL_law_2447 rfl ?_
  refine v_if_ne (tgt := 2464) C dL_law_2449 (by decide) (fun _ => ?_) (fun h0 => ?_)
  · refine v_goto (tgt := 3507) C dL_law_2464 (by decide) ?_
    refine v_sub [2, 3, 4, 5, 6, 7] rfl ?_
    exact v_widen (by show cells + 1 ≤ cells + 9; omega) (by show slots + 6 ≤ slots + 54; omega) (kk q.2 lo9 od hI2)
  · have hr0 : r.1 = 0 := by
      rw [ht] at h0
      rcases hr with h1 | h1
      · exact h1
      · rw [h1] at h0; exact absurd h0 (by decide)
    have e0 := he hr0
    rw [if_pos hr0] at hlo
    refine v_aload_n C dL_law_2452 rfl rfl ?_
    refine v_iconst (v := 0) C dL_law_2453 (by decide) ?_
    refine v_lald C dL_law_2454 ?_
    refine v_iload C dL_law_2455 rfl ?_
    refine v_i2l C dL_law_2457 ?_
    refine v_lcmp C dL_law_2458 ?_
    rw [show bsLc lo9 q.1.toInt64 = 0 by rw [← hlo, e0]; exact bsLc_self _]
    refine v_if_eq (tgt := 2464) C dL_law_2459 (by decide) (fun _ => ?_) (fun h => absurd rfl h)
    refine v_goto (tgt := 3507) C dL_law_2464 (by decide) ?_
    refine v_sub [2, 3, 4, 5, 6, 7] rfl ?_
    exact v_widen (by show cells + 1 ≤ cells + 9; omega) (by show slots + 6 ≤ slots + 54; omega) (kk q.2 lo9 od hI2)
/-- what the pure part owes for keySlot -/
def sim_keySlot (I : Nat → bsX → Prop) : Prop := ∀ (j : Nat) (X : bsX), j < 512 → I j X → ∃ (r : bsXr) (q : Int32 × bsX), fX8_keySlot  X = some r ∧ (r.1 = 0 ∨ r.1 = 1) ∧ fX9_keySlot  r.2.2 = some q ∧ q.2 14 0 0 0 = (if r.1 = 1 then (1 : Int32) else (0 : Int32)) ∧ (r.1 = 0 → r.2.1 = q.1) ∧ I (j + 1) q.2
set_option maxHeartbeats 4000000 in
set_option maxRecDepth 100000 in
theorem law_42 {p : Program} {l : Launch} {e : Env} {s : State} {m : MethodId} {below : List Frame} {meth : Method} {c : Code} {ρ : bsR} {cA : Nat → ClassId} {dC : Nat → ClassId} {dI : Nat → Nat → Nat} {b L : Nat} {xs : Nat → Int32} {I : Nat → bsX → Prop} (H : sim_keySlot I) (LC : lawC p l s m meth c ρ cA dC dI b L xs) {j : Nat} (hj : 6 * j + 6 ≤ L) {cells slots : Nat} (hc1 : cells + 9 ≤ 601024) (hc2 : slots + 54 ≤ 7293033) {X : bsX} {lo : Int64} {od : UInt64} (hI : I j X) (kk : ∀ (X : bsX) (lo : Int64) (od : UInt64), I (j + 1) X → lawV p l e s m below meth c ρ cA dC dI b (cells + 9) (slots + 54) 3507 [(0, .ref b), (1, .ref (ρ 13 0 0)), (2, .ref (ρ 14 0 0)), (3, .ref (ρ 15 0 0)), (4, .ref (ρ 15 1 0)), (5, .int (nI (6 * j)))] [] X lo od) : lawV p l e s m below meth c ρ cA dC dI b cells slots 2467 [(0, .ref b), (1, .ref (ρ 13 0 0)), (2, .ref (ρ 14 0 0)), (3, .ref (ρ 15 0 0)), (4, .ref (ρ 15 1 0)), (5, .int (nI (6 * j)))] [] X lo od := by
  have hL9 : L ≤ 3072 := LC.2.2.2.2.1
  obtain ⟨hC, hX, hbl, hbA, hL, hst, hfr⟩ := LC
  have C := hC lo od
  obtain ⟨r, q, hf, hr, hg, ht, he, hI2⟩ := H j X  (by omega) hI
  refine v_aload_n C dL_law_2467 rfl rfl ?_
  refine v_aload_n C dL_law_2468 rfl rfl ?_
  refine v_wcallS (y := yL_keySlot) (As := [.ref (ρ 13 0 0), .ref (ρ 15 0 0)]) (rest := []) C (cL_keySlot_ok hst hf hr) mlw_334 wwL_keySlot (by exact dpL_keySlot) ⟨Nat.le_of_ble_eq_true rfl, Nat.le_of_ble_eq_true rfl⟩ ⟨by show cells + 1 ≤ 601024; omega, by show slots + 6 ≤ 7293033; omega⟩ rfl (Nat.le_of_ble_eq_true rfl) dL_law_2469 ?_
  have C := hC (if r.1 = 0 then r.2.1.toInt64 else lo) od
  generalize hlo : (if r.1 = 0 then r.2.1.toInt64 else lo) = lo9 at C ⊢
  dsimp only
  rw [← ht]
  refine v_istore (lv' := [(6, .int (q.2 14 0 0 0)), (0, .ref b), (1, .ref (ρ 13 0 0)), (2, .ref (ρ 14 0 0)), (3, .ref (ρ 15 0 0)), (4, .ref (ρ 15 1 0)), (5, .int (nI (6 * j)))]) C dL_law_2472 (by decide) rfl ?_
  refine v_aload_n C dL_law_2474 rfl rfl ?_
  refine v_callVi (y := yX9_keySlot) (As := []) (rest := []) C (cX9_keySlot_ok hg) mlw_336 wyX9_keySlot bsm_X9 bsc_X9 rfl (by exact dpX9_keySlot) ⟨Nat.le_of_ble_eq_true rfl, Nat.le_of_ble_eq_true rfl⟩ ⟨rfl, rfl⟩ ⟨by show cells + 1 ≤ 601024; omega, by show slots + 6 ≤ 7293033; omega⟩ rfl (Nat.le_of_ble_eq_true rfl) dL_law_2475 ?_
  refine v_istore (lv' := [(7, .int q.1), (6, .int (q.2 14 0 0 0)), (0, .ref b), (1, .ref (ρ 13 0 0)), (2, .ref (ρ 14 0 0)), (3, .ref (ρ 15 0 0)), (4, .ref (ρ 15 1 0)), (5, .int (nI (6 * j)))]) C dL_law_2478 (by decide) rfl ?_
  refine v_aload_n C dL_law_2480 rfl rfl ?_
  refine v_callVi (y := yX9_thrown) (As := []) (rest := []) (z := (q.2 14 0 0 0, q.2)) C (cX9_thrown_ok rfl) mlw_205 wyX9_thrown bsm_X9 bsc_X9 rfl (by exact dpX9_thrown) ⟨Nat.le_of_ble_eq_true rfl, Nat.le_of_ble_eq_true rfl⟩ ⟨rfl, rfl⟩ ⟨by show cells + 1 ≤ 601024; omega, by show slots + 6 ≤ 7293033; omega⟩ rfl (Nat.le_of_ble_eq_true rfl) dL_law_2481 ?_
  refine v_iload C dL_law_2484 rfl ?_
  refine v_icmp_eq (tgt := 2491) C dL_law_2486 (by decide) (fun _ => ?_) (fun h => absurd rfl h)
  refine v_iload C dL_law_2491 rfl ?_
  refine v_if_ne (tgt := 2508) C dL_law_2493 (by decide) (fun _ => ?_) (fun h0 => ?_)
  · refine v_goto (tgt := 3507) C dL_law_2508 (by decide) ?_
    refine v_sub [2, 3, 4, 5, 6, 7] rfl ?_
    exact v_widen (by show cells + 1 ≤ cells + 9; omega) (by show slots + 6 ≤ slots + 54; omega) (kk q.2 lo9 od hI2)
  · have hr0 : r.1 = 0 := by
      rw [ht] at h0
      rcases hr with h1 | h1
      · exact h1
      · rw [h1] at h0; exact absurd h0 (by decide)
    have e0 := he hr0
    rw [if_pos hr0] at hlo
    refine v_aload_n C dL_law_2496 rfl rfl ?_
    refine v_iconst (v := 0) C dL_law_2497 (by decide) ?_
    refine v_lald C dL_law_2498 ?_
    refine v_iload C dL_law_2499 rfl ?_
    refine v_i2l C dL_law_2501 ?_
    refine v_lcmp C dL_law_2502 ?_
    rw [show bsLc lo9 q.1.toInt64 = 0 by rw [← hlo, e0]; exact bsLc_self _]
    refine v_if_eq (tgt := 2508) C dL_law_2503 (by decide) (fun _ => ?_) (fun h => absurd rfl h)
    refine v_goto (tgt := 3507) C dL_law_2508 (by decide) ?_
    refine v_sub [2, 3, 4, 5, 6, 7] rfl ?_
    exact v_widen (by show cells + 1 ≤ cells + 9; omega) (by show slots + 6 ≤ slots + 54; omega) (kk q.2 lo9 od hI2)
/-- what the pure part owes for writeSlots -/
def sim_writeSlots (I : Nat → bsX → Prop) : Prop := ∀ (j : Nat) (X : bsX), j < 512 → I j X → ∃ (r : bsXr) (q : Int32 × bsX), fX8_writeSlots  X = some r ∧ (r.1 = 0 ∨ r.1 = 1) ∧ fX9_writeSlots  r.2.2 = some q ∧ q.2 14 0 0 0 = (if r.1 = 1 then (1 : Int32) else (0 : Int32)) ∧ (r.1 = 0 → r.2.1 = q.1) ∧ I (j + 1) q.2
set_option maxHeartbeats 4000000 in
set_option maxRecDepth 100000 in
theorem law_45 {p : Program} {l : Launch} {e : Env} {s : State} {m : MethodId} {below : List Frame} {meth : Method} {c : Code} {ρ : bsR} {cA : Nat → ClassId} {dC : Nat → ClassId} {dI : Nat → Nat → Nat} {b L : Nat} {xs : Nat → Int32} {I : Nat → bsX → Prop} (H : sim_writeSlots I) (LC : lawC p l s m meth c ρ cA dC dI b L xs) {j : Nat} (hj : 6 * j + 6 ≤ L) {cells slots : Nat} (hc1 : cells + 9 ≤ 601024) (hc2 : slots + 54 ≤ 7293033) {X : bsX} {lo : Int64} {od : UInt64} (hI : I j X) (kk : ∀ (X : bsX) (lo : Int64) (od : UInt64), I (j + 1) X → lawV p l e s m below meth c ρ cA dC dI b (cells + 9) (slots + 54) 3507 [(0, .ref b), (1, .ref (ρ 13 0 0)), (2, .ref (ρ 14 0 0)), (3, .ref (ρ 15 0 0)), (4, .ref (ρ 15 1 0)), (5, .int (nI (6 * j)))] [] X lo od) : lawV p l e s m below meth c ρ cA dC dI b cells slots 2642 [(0, .ref b), (1, .ref (ρ 13 0 0)), (2, .ref (ρ 14 0 0)), (3, .ref (ρ 15 0 0)), (4, .ref (ρ 15 1 0)), (5, .int (nI (6 * j)))] [] X lo od := by
  have hL9 : L ≤ 3072 := LC.2.2.2.2.1
  obtain ⟨hC, hX, hbl, hbA, hL, hst, hfr⟩ := LC
  have C := hC lo od
  obtain ⟨r, q, hf, hr, hg, ht, he, hI2⟩ := H j X  (by omega) hI
  refine v_aload_n C dL_law_2642 rfl rfl ?_
  refine v_aload_n C dL_law_2643 rfl rfl ?_
  refine v_wcallS (y := yL_writeSlots) (As := [.ref (ρ 13 0 0), .ref (ρ 15 0 0)]) (rest := []) C (cL_writeSlots_ok hst hf hr) mlw_344 wwL_writeSlots (by exact dpL_writeSlots) ⟨Nat.le_of_ble_eq_true rfl, Nat.le_of_ble_eq_true rfl⟩ ⟨by show cells + 1 ≤ 601024; omega, by show slots + 6 ≤ 7293033; omega⟩ rfl (Nat.le_of_ble_eq_true rfl) dL_law_2644 ?_
  have C := hC (if r.1 = 0 then r.2.1.toInt64 else lo) od
  generalize hlo : (if r.1 = 0 then r.2.1.toInt64 else lo) = lo9 at C ⊢
  dsimp only
  rw [← ht]
  refine v_istore (lv' := [(6, .int (q.2 14 0 0 0)), (0, .ref b), (1, .ref (ρ 13 0 0)), (2, .ref (ρ 14 0 0)), (3, .ref (ρ 15 0 0)), (4, .ref (ρ 15 1 0)), (5, .int (nI (6 * j)))]) C dL_law_2647 (by decide) rfl ?_
  refine v_aload_n C dL_law_2649 rfl rfl ?_
  refine v_callVi (y := yX9_writeSlots) (As := []) (rest := []) C (cX9_writeSlots_ok hg) mlw_346 wyX9_writeSlots bsm_X9 bsc_X9 rfl (by exact dpX9_writeSlots) ⟨Nat.le_of_ble_eq_true rfl, Nat.le_of_ble_eq_true rfl⟩ ⟨rfl, rfl⟩ ⟨by show cells + 1 ≤ 601024; omega, by show slots + 6 ≤ 7293033; omega⟩ rfl (Nat.le_of_ble_eq_true rfl) dL_law_2650 ?_
  refine v_istore (lv' := [(7, .int q.1), (6, .int (q.2 14 0 0 0)), (0, .ref b), (1, .ref (ρ 13 0 0)), (2, .ref (ρ 14 0 0)), (3, .ref (ρ 15 0 0)), (4, .ref (ρ 15 1 0)), (5, .int (nI (6 * j)))]) C dL_law_2653 (by decide) rfl ?_
  refine v_aload_n C dL_law_2655 rfl rfl ?_
  refine v_callVi (y := yX9_thrown) (As := []) (rest := []) (z := (q.2 14 0 0 0, q.2)) C (cX9_thrown_ok rfl) mlw_205 wyX9_thrown bsm_X9 bsc_X9 rfl (by exact dpX9_thrown) ⟨Nat.le_of_ble_eq_true rfl, Nat.le_of_ble_eq_true rfl⟩ ⟨rfl, rfl⟩ ⟨by show cells + 1 ≤ 601024; omega, by show slots + 6 ≤ 7293033; omega⟩ rfl (Nat.le_of_ble_eq_true rfl) dL_law_2656 ?_
  refine v_iload C dL_law_2659 rfl ?_
  refine v_icmp_eq (tgt := 2666) C dL_law_2661 (by decide) (fun _ => ?_) (fun h => absurd rfl h)
  refine v_iload C dL_law_2666 rfl ?_
  refine v_if_ne (tgt := 2683) C dL_law_2668 (by decide) (fun _ => ?_) (fun h0 => ?_)
  · refine v_goto (tgt := 3507) C dL_law_2683 (by decide) ?_
    refine v_sub [2, 3, 4, 5, 6, 7] rfl ?_
    exact v_widen (by show cells + 1 ≤ cells + 9; omega) (by show slots + 6 ≤ slots + 54; omega) (kk q.2 lo9 od hI2)
  · have hr0 : r.1 = 0 := by
      rw [ht] at h0
      rcases hr with h1 | h1
      · exact h1
      · rw [h1] at h0; exact absurd h0 (by decide)
    have e0 := he hr0
    rw [if_pos hr0] at hlo
    refine v_aload_n C dL_law_2671 rfl rfl ?_
    refine v_iconst (v := 0) C dL_law_2672 (by decide) ?_
    refine v_lald C dL_law_2673 ?_
    refine v_iload C dL_law_2674 rfl ?_
    refine v_i2l C dL_law_2676 ?_
    refine v_lcmp C dL_law_2677 ?_
    rw [show bsLc lo9 q.1.toInt64 = 0 by rw [← hlo, e0]; exact bsLc_self _]
    refine v_if_eq (tgt := 2683) C dL_law_2678 (by decide) (fun _ => ?_) (fun h => absurd rfl h)
    refine v_goto (tgt := 3507) C dL_law_2683 (by decide) ?_
    refine v_sub [2, 3, 4, 5, 6, 7] rfl ?_
    exact v_widen (by show cells + 1 ≤ cells + 9; omega) (by show slots + 6 ≤ slots + 54; omega) (kk q.2 lo9 od hI2)
/-- what the pure part owes for writeBoots -/
def sim_writeBoots (I : Nat → bsX → Prop) : Prop := ∀ (j : Nat) (X : bsX), j < 512 → I j X → ∃ (r : bsXr) (q : Int32 × bsX), fX8_writeBoots  X = some r ∧ (r.1 = 0 ∨ r.1 = 1) ∧ fX9_writeBoots  r.2.2 = some q ∧ q.2 14 0 0 0 = (if r.1 = 1 then (1 : Int32) else (0 : Int32)) ∧ (r.1 = 0 → r.2.1 = q.1) ∧ I (j + 1) q.2
set_option maxHeartbeats 4000000 in
set_option maxRecDepth 100000 in
theorem law_46 {p : Program} {l : Launch} {e : Env} {s : State} {m : MethodId} {below : List Frame} {meth : Method} {c : Code} {ρ : bsR} {cA : Nat → ClassId} {dC : Nat → ClassId} {dI : Nat → Nat → Nat} {b L : Nat} {xs : Nat → Int32} {I : Nat → bsX → Prop} (H : sim_writeBoots I) (LC : lawC p l s m meth c ρ cA dC dI b L xs) {j : Nat} (hj : 6 * j + 6 ≤ L) {cells slots : Nat} (hc1 : cells + 9 ≤ 601024) (hc2 : slots + 54 ≤ 7293033) {X : bsX} {lo : Int64} {od : UInt64} (hI : I j X) (kk : ∀ (X : bsX) (lo : Int64) (od : UInt64), I (j + 1) X → lawV p l e s m below meth c ρ cA dC dI b (cells + 9) (slots + 54) 3507 [(0, .ref b), (1, .ref (ρ 13 0 0)), (2, .ref (ρ 14 0 0)), (3, .ref (ρ 15 0 0)), (4, .ref (ρ 15 1 0)), (5, .int (nI (6 * j)))] [] X lo od) : lawV p l e s m below meth c ρ cA dC dI b cells slots 2686 [(0, .ref b), (1, .ref (ρ 13 0 0)), (2, .ref (ρ 14 0 0)), (3, .ref (ρ 15 0 0)), (4, .ref (ρ 15 1 0)), (5, .int (nI (6 * j)))] [] X lo od := by
  have hL9 : L ≤ 3072 := LC.2.2.2.2.1
  obtain ⟨hC, hX, hbl, hbA, hL, hst, hfr⟩ := LC
  have C := hC lo od
  obtain ⟨r, q, hf, hr, hg, ht, he, hI2⟩ := H j X  (by omega) hI
  refine v_aload_n C dL_law_2686 rfl rfl ?_
  refine v_aload_n C dL_law_2687 rfl rfl ?_
  refine v_wcallS (y := yL_writeBoots) (As := [.ref (ρ 13 0 0), .ref (ρ 15 0 0)]) (rest := []) C (cL_writeBoots_ok hst hf hr) mlw_347 wwL_writeBoots (by exact dpL_writeBoots) ⟨Nat.le_of_ble_eq_true rfl, Nat.le_of_ble_eq_true rfl⟩ ⟨by show cells + 1 ≤ 601024; omega, by show slots + 6 ≤ 7293033; omega⟩ rfl (Nat.le_of_ble_eq_true rfl) dL_law_2688 ?_
  have C := hC (if r.1 = 0 then r.2.1.toInt64 else lo) od
  generalize hlo : (if r.1 = 0 then r.2.1.toInt64 else lo) = lo9 at C ⊢
  dsimp only
  rw [← ht]
  refine v_istore (lv' := [(6, .int (q.2 14 0 0 0)), (0, .ref b), (1, .ref (ρ 13 0 0)), (2, .ref (ρ 14 0 0)), (3, .ref (ρ 15 0 0)), (4, .ref (ρ 15 1 0)), (5, .int (nI (6 * j)))]) C dL_law_2691 (by decide) rfl ?_
  refine v_aload_n C dL_law_2693 rfl rfl ?_
  refine v_callVi (y := yX9_writeBoots) (As := []) (rest := []) C (cX9_writeBoots_ok hg) mlw_349 wyX9_writeBoots bsm_X9 bsc_X9 rfl (by exact dpX9_writeBoots) ⟨Nat.le_of_ble_eq_true rfl, Nat.le_of_ble_eq_true rfl⟩ ⟨rfl, rfl⟩ ⟨by show cells + 1 ≤ 601024; omega, by show slots + 6 ≤ 7293033; omega⟩ rfl (Nat.le_of_ble_eq_true rfl) dL_law_2694 ?_
  refine v_istore (lv' := [(7, .int q.1), (6, .int (q.2 14 0 0 0)), (0, .ref b), (1, .ref (ρ 13 0 0)), (2, .ref (ρ 14 0 0)), (3, .ref (ρ 15 0 0)), (4, .ref (ρ 15 1 0)), (5, .int (nI (6 * j)))]) C dL_law_2697 (by decide) rfl ?_
  refine v_aload_n C dL_law_2699 rfl rfl ?_
  refine v_callVi (y := yX9_thrown) (As := []) (rest := []) (z := (q.2 14 0 0 0, q.2)) C (cX9_thrown_ok rfl) mlw_205 wyX9_thrown bsm_X9 bsc_X9 rfl (by exact dpX9_thrown) ⟨Nat.le_of_ble_eq_true rfl, Nat.le_of_ble_eq_true rfl⟩ ⟨rfl, rfl⟩ ⟨by show cells + 1 ≤ 601024; omega, by show slots + 6 ≤ 7293033; omega⟩ rfl (Nat.le_of_ble_eq_true rfl) dL_law_2700 ?_
  refine v_iload C dL_law_2703 rfl ?_
  refine v_icmp_eq (tgt := 2710) C dL_law_2705 (by decide) (fun _ => ?_) (fun h => absurd rfl h)
  refine v_iload C dL_law_2710 rfl ?_
  refine v_if_ne (tgt := 2727) C dL_law_2712 (by decide) (fun _ => ?_) (fun h0 => ?_)
  · refine v_goto (tgt := 3507) C dL_law_2727 (by decide) ?_
    refine v_sub [2, 3, 4, 5, 6, 7] rfl ?_
    exact v_widen (by show cells + 1 ≤ cells + 9; omega) (by show slots + 6 ≤ slots + 54; omega) (kk q.2 lo9 od hI2)
  · have hr0 : r.1 = 0 := by
      rw [ht] at h0
      rcases hr with h1 | h1
      · exact h1
      · rw [h1] at h0; exact absurd h0 (by decide)
    have e0 := he hr0
    rw [if_pos hr0] at hlo
    refine v_aload_n C dL_law_2715 rfl rfl ?_
    refine v_iconst (v := 0) C dL_law_2716 (by decide) ?_
    refine v_lald C dL_law_2717 ?_
    refine v_iload C dL_law_2718 rfl ?_
    refine v_i2l C dL_law_2720 ?_
    refine v_lcmp C dL_law_2721 ?_
    rw [show bsLc lo9 q.1.toInt64 = 0 by rw [← hlo, e0]; exact bsLc_self _]
    refine v_if_eq (tgt := 2727) C dL_law_2722 (by decide) (fun _ => ?_) (fun h => absurd rfl h)
    refine v_goto (tgt := 3507) C dL_law_2727 (by decide) ?_
    refine v_sub [2, 3, 4, 5, 6, 7] rfl ?_
    exact v_widen (by show cells + 1 ≤ cells + 9; omega) (by show slots + 6 ≤ slots + 54; omega) (kk q.2 lo9 od hI2)
/-- what the pure part owes for writeMachine -/
def sim_writeMachine (I : Nat → bsX → Prop) : Prop := ∀ (j : Nat) (X : bsX), j < 512 → I j X → ∃ (r : bsXr) (q : Int32 × bsX), fX8_writeMachine  X = some r ∧ (r.1 = 0 ∨ r.1 = 1) ∧ fX9_writeMachine  r.2.2 = some q ∧ q.2 14 0 0 0 = (if r.1 = 1 then (1 : Int32) else (0 : Int32)) ∧ (r.1 = 0 → r.2.1 = q.1) ∧ I (j + 1) q.2
set_option maxHeartbeats 4000000 in
set_option maxRecDepth 100000 in
theorem law_47 {p : Program} {l : Launch} {e : Env} {s : State} {m : MethodId} {below : List Frame} {meth : Method} {c : Code} {ρ : bsR} {cA : Nat → ClassId} {dC : Nat → ClassId} {dI : Nat → Nat → Nat} {b L : Nat} {xs : Nat → Int32} {I : Nat → bsX → Prop} (H : sim_writeMachine I) (LC : lawC p l s m meth c ρ cA dC dI b L xs) {j : Nat} (hj : 6 * j + 6 ≤ L) {cells slots : Nat} (hc1 : cells + 9 ≤ 601024) (hc2 : slots + 54 ≤ 7293033) {X : bsX} {lo : Int64} {od : UInt64} (hI : I j X) (kk : ∀ (X : bsX) (lo : Int64) (od : UInt64), I (j + 1) X → lawV p l e s m below meth c ρ cA dC dI b (cells + 9) (slots + 54) 3507 [(0, .ref b), (1, .ref (ρ 13 0 0)), (2, .ref (ρ 14 0 0)), (3, .ref (ρ 15 0 0)), (4, .ref (ρ 15 1 0)), (5, .int (nI (6 * j)))] [] X lo od) : lawV p l e s m below meth c ρ cA dC dI b cells slots 2730 [(0, .ref b), (1, .ref (ρ 13 0 0)), (2, .ref (ρ 14 0 0)), (3, .ref (ρ 15 0 0)), (4, .ref (ρ 15 1 0)), (5, .int (nI (6 * j)))] [] X lo od := by
  have hL9 : L ≤ 3072 := LC.2.2.2.2.1
  obtain ⟨hC, hX, hbl, hbA, hL, hst, hfr⟩ := LC
  have C := hC lo od
  obtain ⟨r, q, hf, hr, hg, ht, he, hI2⟩ := H j X  (by omega) hI
  refine v_aload_n C dL_law_2730 rfl rfl ?_
  refine v_aload_n C dL_law_2731 rfl rfl ?_
  refine v_wcallS (y := yL_writeMachine) (As := [.ref (ρ 13 0 0), .ref (ρ 15 0 0)]) (rest := []) C (cL_writeMachine_ok hst hf hr) mlw_350 wwL_writeMachine (by exact dpL_writeMachine) ⟨Nat.le_of_ble_eq_true rfl, Nat.le_of_ble_eq_true rfl⟩ ⟨by show cells + 1 ≤ 601024; omega, by show slots + 6 ≤ 7293033; omega⟩ rfl (Nat.le_of_ble_eq_true rfl) dL_law_2732 ?_
  have C := hC (if r.1 = 0 then r.2.1.toInt64 else lo) od
  generalize hlo : (if r.1 = 0 then r.2.1.toInt64 else lo) = lo9 at C ⊢
  dsimp only
  rw [← ht]
  refine v_istore (lv' := [(6, .int (q.2 14 0 0 0)), (0, .ref b), (1, .ref (ρ 13 0 0)), (2, .ref (ρ 14 0 0)), (3, .ref (ρ 15 0 0)), (4, .ref (ρ 15 1 0)), (5, .int (nI (6 * j)))]) C dL_law_2735 (by decide) rfl ?_
  refine v_aload_n C dL_law_2737 rfl rfl ?_
  refine v_callVi (y := yX9_writeMachine) (As := []) (rest := []) C (cX9_writeMachine_ok hg) mlw_352 wyX9_writeMachine bsm_X9 bsc_X9 rfl (by exact dpX9_writeMachine) ⟨Nat.le_of_ble_eq_true rfl, Nat.le_of_ble_eq_true rfl⟩ ⟨rfl, rfl⟩ ⟨by show cells + 1 ≤ 601024; omega, by show slots + 6 ≤ 7293033; omega⟩ rfl (Nat.le_of_ble_eq_true rfl) dL_law_2738 ?_
  refine v_istore (lv' := [(7, .int q.1), (6, .int (q.2 14 0 0 0)), (0, .ref b), (1, .ref (ρ 13 0 0)), (2, .ref (ρ 14 0 0)), (3, .ref (ρ 15 0 0)), (4, .ref (ρ 15 1 0)), (5, .int (nI (6 * j)))]) C dL_law_2741 (by decide) rfl ?_
  refine v_aload_n C dL_law_2743 rfl rfl ?_
  refine v_callVi (y := yX9_thrown) (As := []) (rest := []) (z := (q.2 14 0 0 0, q.2)) C (cX9_thrown_ok rfl) mlw_205 wyX9_thrown bsm_X9 bsc_X9 rfl (by exact dpX9_thrown) ⟨Nat.le_of_ble_eq_true rfl, Nat.le_of_ble_eq_true rfl⟩ ⟨rfl, rfl⟩ ⟨by show cells + 1 ≤ 601024; omega, by show slots + 6 ≤ 7293033; omega⟩ rfl (Nat.le_of_ble_eq_true rfl) dL_law_2744 ?_
  refine v_iload C dL_law_2747 rfl ?_
  refine v_icmp_eq (tgt := 2754) C dL_law_2749 (by decide) (fun _ => ?_) (fun h => absurd rfl h)
  refine v_iload C dL_law_2754 rfl ?_
  refine v_if_ne (tgt := 2771) C dL_law_2756 (by decide) (fun _ => ?_) (fun h0 => ?_)
  · refine v_goto (tgt := 3507) C dL_law_2771 (by decide) ?_
    refine v_sub [2, 3, 4, 5, 6, 7] rfl ?_
    exact v_widen (by show cells + 1 ≤ cells + 9; omega) (by show slots + 6 ≤ slots + 54; omega) (kk q.2 lo9 od hI2)
  · have hr0 : r.1 = 0 := by
      rw [ht] at h0
      rcases hr with h1 | h1
      · exact h1
      · rw [h1] at h0; exact absurd h0 (by decide)
    have e0 := he hr0
    rw [if_pos hr0] at hlo
    refine v_aload_n C dL_law_2759 rfl rfl ?_
    refine v_iconst (v := 0) C dL_law_2760 (by decide) ?_
    refine v_lald C dL_law_2761 ?_
    refine v_iload C dL_law_2762 rfl ?_
    refine v_i2l C dL_law_2764 ?_
    refine v_lcmp C dL_law_2765 ?_
    rw [show bsLc lo9 q.1.toInt64 = 0 by rw [← hlo, e0]; exact bsLc_self _]
    refine v_if_eq (tgt := 2771) C dL_law_2766 (by decide) (fun _ => ?_) (fun h => absurd rfl h)
    refine v_goto (tgt := 3507) C dL_law_2771 (by decide) ?_
    refine v_sub [2, 3, 4, 5, 6, 7] rfl ?_
    exact v_widen (by show cells + 1 ≤ cells + 9; omega) (by show slots + 6 ≤ slots + 54; omega) (kk q.2 lo9 od hI2)
/-- what the pure part owes for textByte -/
def sim_textByte (I : Nat → bsX → Prop) : Prop := ∀ (j : Nat) (X : bsX) (a1 : Int32), j < 512 → I j X → ∃ (r : bsXr) (q : Int32 × bsX), fX8_textByte a1 X = some r ∧ (r.1 = 0 ∨ r.1 = 2) ∧ fX9_textByte a1 r.2.2 = some q ∧ q.2 14 0 0 0 = (if r.1 = 2 then (1 : Int32) else (0 : Int32)) ∧ (r.1 = 0 → r.2.1 = q.1) ∧ I (j + 1) q.2
set_option maxHeartbeats 4000000 in
set_option maxRecDepth 100000 in
theorem law_48 {p : Program} {l : Launch} {e : Env} {s : State} {m : MethodId} {below : List Frame} {meth : Method} {c : Code} {ρ : bsR} {cA : Nat → ClassId} {dC : Nat → ClassId} {dI : Nat → Nat → Nat} {b L : Nat} {xs : Nat → Int32} {I : Nat → bsX → Prop} (H : sim_textByte I) (LC : lawC p l s m meth c ρ cA dC dI b L xs) {j : Nat} (hj : 6 * j + 6 ≤ L) {cells slots : Nat} (hc1 : cells + 9 ≤ 601024) (hc2 : slots + 54 ≤ 7293033) {X : bsX} {lo : Int64} {od : UInt64} (hI : I j X) (kk : ∀ (X : bsX) (lo : Int64) (od : UInt64), I (j + 1) X → lawV p l e s m below meth c ρ cA dC dI b (cells + 9) (slots + 54) 3507 [(0, .ref b), (1, .ref (ρ 13 0 0)), (2, .ref (ρ 14 0 0)), (3, .ref (ρ 15 0 0)), (4, .ref (ρ 15 1 0)), (5, .int (nI (6 * j)))] [] X lo od) : lawV p l e s m below meth c ρ cA dC dI b cells slots 2774 [(0, .ref b), (1, .ref (ρ 13 0 0)), (2, .ref (ρ 14 0 0)), (3, .ref (ρ 15 0 0)), (4, .ref (ρ 15 1 0)), (5, .int (nI (6 * j)))] [] X lo od := by
  have hL9 : L ≤ 3072 := LC.2.2.2.2.1
  obtain ⟨hC, hX, hbl, hbA, hL, hst, hfr⟩ := LC
  have C := hC lo od
  obtain ⟨r, q, hf, hr, hg, ht, he, hI2⟩ := H j X (xs (6 * j + 1)) (by omega) hI
  refine v_aload_n C dL_law_2774 rfl rfl ?_
  refine v_aload_n C dL_law_2775 rfl rfl ?_
  refine v_iload C dL_law_2776 rfl ?_
  refine v_iconst (v := 1) C dL_law_2778 (by decide) ?_
  refine v_iadd C dL_law_2779 ?_
  refine v_sld (k := 1) C hX hbl (hbA lo od) rfl (by omega) (by omega) dL_law_2780 ?_
  refine v_aload_n C dL_law_2781 rfl rfl ?_
  refine v_wcallS (y := yL_textByte) (As := [.ref (ρ 13 0 0), .int (xs (6 * j + 1)), .ref (ρ 15 0 0)]) (rest := []) C (cL_textByte_ok hst hf hr) mlw_353 wwL_textByte (by exact dpL_textByte) ⟨Nat.le_of_ble_eq_true rfl, Nat.le_of_ble_eq_true rfl⟩ ⟨by show cells + 1 ≤ 601024; omega, by show slots + 6 ≤ 7293033; omega⟩ rfl (Nat.le_of_ble_eq_true rfl) dL_law_2782 ?_
  have C := hC (if r.1 = 0 then r.2.1.toInt64 else lo) od
  generalize hlo : (if r.1 = 0 then r.2.1.toInt64 else lo) = lo9 at C ⊢
  dsimp only
  rw [← ht]
  refine v_istore (lv' := [(6, .int (q.2 14 0 0 0)), (0, .ref b), (1, .ref (ρ 13 0 0)), (2, .ref (ρ 14 0 0)), (3, .ref (ρ 15 0 0)), (4, .ref (ρ 15 1 0)), (5, .int (nI (6 * j)))]) C dL_law_2785 (by decide) rfl ?_
  refine v_aload_n C dL_law_2787 rfl rfl ?_
  refine v_aload_n C dL_law_2788 rfl rfl ?_
  refine v_iload C dL_law_2789 rfl ?_
  refine v_iconst (v := 1) C dL_law_2791 (by decide) ?_
  refine v_iadd C dL_law_2792 ?_
  refine v_sld (k := 1) C hX hbl (hbA lo9 od) rfl (by omega) (by omega) dL_law_2793 ?_
  refine v_callVi (y := yX9_textByte) (As := [.int (xs (6 * j + 1))]) (rest := []) C (cX9_textByte_ok hg) mlw_355 wyX9_textByte bsm_X9 bsc_X9 rfl (by exact dpX9_textByte) ⟨Nat.le_of_ble_eq_true rfl, Nat.le_of_ble_eq_true rfl⟩ ⟨rfl, rfl⟩ ⟨by show cells + 1 ≤ 601024; omega, by show slots + 6 ≤ 7293033; omega⟩ rfl (Nat.le_of_ble_eq_true rfl) dL_law_2794 ?_
  refine v_istore (lv' := [(7, .int q.1), (6, .int (q.2 14 0 0 0)), (0, .ref b), (1, .ref (ρ 13 0 0)), (2, .ref (ρ 14 0 0)), (3, .ref (ρ 15 0 0)), (4, .ref (ρ 15 1 0)), (5, .int (nI (6 * j)))]) C dL_law_2797 (by decide) rfl ?_
  refine v_aload_n C dL_law_2799 rfl rfl ?_
  refine v_callVi (y := yX9_thrown) (As := []) (rest := []) (z := (q.2 14 0 0 0, q.2)) C (cX9_thrown_ok rfl) mlw_205 wyX9_thrown bsm_X9 bsc_X9 rfl (by exact dpX9_thrown) ⟨Nat.le_of_ble_eq_true rfl, Nat.le_of_ble_eq_true rfl⟩ ⟨rfl, rfl⟩ ⟨by show cells + 1 ≤ 601024; omega, by show slots + 6 ≤ 7293033; omega⟩ rfl (Nat.le_of_ble_eq_true rfl) dL_law_2800 ?_
  refine v_iload C dL_law_2803 rfl ?_
  refine v_icmp_eq (tgt := 2810) C dL_law_2805 (by decide) (fun _ => ?_) (fun h => absurd rfl h)
  refine v_iload C dL_law_2810 rfl ?_
  refine v_if_ne (tgt := 2827) C dL_law_2812 (by decide) (fun _ => ?_) (fun h0 => ?_)
  · refine v_goto (tgt := 3507) C dL_law_2827 (by decide) ?_
    refine v_sub [2, 3, 4, 5, 6, 7] rfl ?_
    exact v_widen (by show cells + 1 ≤ cells + 9; omega) (by show slots + 6 ≤ slots + 54; omega) (kk q.2 lo9 od hI2)
  · have hr0 : r.1 = 0 := by
      rw [ht] at h0
      rcases hr with h1 | h1
      · exact h1
      · rw [h1] at h0; exact absurd h0 (by decide)
    have e0 := he hr0
    rw [if_pos hr0] at hlo
    refine v_aload_n C dL_law_2815 rfl rfl ?_
    refine v_iconst (v := 0) C dL_law_2816 (by decide) ?_
    refine v_lald C dL_law_2817 ?_
    refine v_iload C dL_law_2818 rfl ?_
    refine v_i2l C dL_law_2820 ?_
    refine v_lcmp C dL_law_2821 ?_
    rw [show bsLc lo9 q.1.toInt64 = 0 by rw [← hlo, e0]; exact bsLc_self _]
    refine v_if_eq (tgt := 2827) C dL_law_2822 (by decide) (fun _ => ?_) (fun h => absurd rfl h)
    refine v_goto (tgt := 3507) C dL_law_2827 (by decide) ?_
    refine v_sub [2, 3, 4, 5, 6, 7] rfl ?_
    exact v_widen (by show cells + 1 ≤ cells + 9; omega) (by show slots + 6 ≤ slots + 54; omega) (kk q.2 lo9 od hI2)
/-- what the pure part owes for power -/
def sim_power (I : Nat → bsX → Prop) : Prop := ∀ (j : Nat) (X : bsX), j < 512 → I j X → ∃ (r : bsXr) (q : Int32 × bsX), fX8_power  X = some r ∧ (r.1 = 0 ∨ r.1 = 1 ∨ r.1 = 3) ∧ fX9_power  r.2.2 = some q ∧ q.2 14 0 0 0 = (if r.1 = 1 then (1 : Int32) else (if r.1 = 3 then (2 : Int32) else (0 : Int32))) ∧ (r.1 = 0 → r.2.1 = q.1) ∧ I (j + 1) q.2
set_option maxHeartbeats 4000000 in
set_option maxRecDepth 100000 in
theorem law_49 {p : Program} {l : Launch} {e : Env} {s : State} {m : MethodId} {below : List Frame} {meth : Method} {c : Code} {ρ : bsR} {cA : Nat → ClassId} {dC : Nat → ClassId} {dI : Nat → Nat → Nat} {b L : Nat} {xs : Nat → Int32} {I : Nat → bsX → Prop} (H : sim_power I) (LC : lawC p l s m meth c ρ cA dC dI b L xs) {j : Nat} (hj : 6 * j + 6 ≤ L) {cells slots : Nat} (hc1 : cells + 9 ≤ 601024) (hc2 : slots + 54 ≤ 7293033) {X : bsX} {lo : Int64} {od : UInt64} (hI : I j X) (kk : ∀ (X : bsX) (lo : Int64) (od : UInt64), I (j + 1) X → lawV p l e s m below meth c ρ cA dC dI b (cells + 9) (slots + 54) 3507 [(0, .ref b), (1, .ref (ρ 13 0 0)), (2, .ref (ρ 14 0 0)), (3, .ref (ρ 15 0 0)), (4, .ref (ρ 15 1 0)), (5, .int (nI (6 * j)))] [] X lo od) : lawV p l e s m below meth c ρ cA dC dI b cells slots 2830 [(0, .ref b), (1, .ref (ρ 13 0 0)), (2, .ref (ρ 14 0 0)), (3, .ref (ρ 15 0 0)), (4, .ref (ρ 15 1 0)), (5, .int (nI (6 * j)))] [] X lo od := by
  have hL9 : L ≤ 3072 := LC.2.2.2.2.1
  obtain ⟨hC, hX, hbl, hbA, hL, hst, hfr⟩ := LC
  have C := hC lo od
  obtain ⟨r, q, hf, hr, hg, ht, he, hI2⟩ := H j X  (by omega) hI
  refine v_aload_n C dL_law_2830 rfl rfl ?_
  refine v_aload_n C dL_law_2831 rfl rfl ?_
  refine v_wcallS (y := yL_power) (As := [.ref (ρ 13 0 0), .ref (ρ 15 0 0)]) (rest := []) C (cL_power_ok hst hf hr) mlw_356 wwL_power (by exact dpL_power) ⟨Nat.le_of_ble_eq_true rfl, Nat.le_of_ble_eq_true rfl⟩ ⟨by show cells + 2 ≤ 601024; omega, by show slots + 12 ≤ 7293033; omega⟩ rfl (Nat.le_of_ble_eq_true rfl) dL_law_2832 ?_
  have C := hC (if r.1 = 0 then r.2.1.toInt64 else lo) od
  generalize hlo : (if r.1 = 0 then r.2.1.toInt64 else lo) = lo9 at C ⊢
  dsimp only
  rw [← ht]
  refine v_istore (lv' := [(6, .int (q.2 14 0 0 0)), (0, .ref b), (1, .ref (ρ 13 0 0)), (2, .ref (ρ 14 0 0)), (3, .ref (ρ 15 0 0)), (4, .ref (ρ 15 1 0)), (5, .int (nI (6 * j)))]) C dL_law_2835 (by decide) rfl ?_
  refine v_aload_n C dL_law_2837 rfl rfl ?_
  refine v_callVi (y := yX9_power) (As := []) (rest := []) C (cX9_power_ok hg) mlw_358 wyX9_power bsm_X9 bsc_X9 rfl (by exact dpX9_power) ⟨Nat.le_of_ble_eq_true rfl, Nat.le_of_ble_eq_true rfl⟩ ⟨rfl, rfl⟩ ⟨by show cells + 2 ≤ 601024; omega, by show slots + 12 ≤ 7293033; omega⟩ rfl (Nat.le_of_ble_eq_true rfl) dL_law_2838 ?_
  refine v_istore (lv' := [(7, .int q.1), (6, .int (q.2 14 0 0 0)), (0, .ref b), (1, .ref (ρ 13 0 0)), (2, .ref (ρ 14 0 0)), (3, .ref (ρ 15 0 0)), (4, .ref (ρ 15 1 0)), (5, .int (nI (6 * j)))]) C dL_law_2841 (by decide) rfl ?_
  refine v_aload_n C dL_law_2843 rfl rfl ?_
  refine v_callVi (y := yX9_thrown) (As := []) (rest := []) (z := (q.2 14 0 0 0, q.2)) C (cX9_thrown_ok rfl) mlw_205 wyX9_thrown bsm_X9 bsc_X9 rfl (by exact dpX9_thrown) ⟨Nat.le_of_ble_eq_true rfl, Nat.le_of_ble_eq_true rfl⟩ ⟨rfl, rfl⟩ ⟨by show cells + 2 ≤ 601024; omega, by show slots + 12 ≤ 7293033; omega⟩ rfl (Nat.le_of_ble_eq_true rfl) dL_law_2844 ?_
  refine v_iload C dL_law_2847 rfl ?_
  refine v_icmp_eq (tgt := 2854) C dL_law_2849 (by decide) (fun _ => ?_) (fun h => absurd rfl h)
  refine v_iload C dL_law_2854 rfl ?_
  refine v_if_ne (tgt := 2871) C dL_law_2856 (by decide) (fun _ => ?_) (fun h0 => ?_)
  · refine v_goto (tgt := 3507) C dL_law_2871 (by decide) ?_
    refine v_sub [2, 3, 4, 5, 6, 7] rfl ?_
    exact v_widen (by show cells + 2 ≤ cells + 9; omega) (by show slots + 12 ≤ slots + 54; omega) (kk q.2 lo9 od hI2)
  · have hr0 : r.1 = 0 := by
      rw [ht] at h0
      rcases hr with h1 | h1 | h1
      · exact h1
      · rw [h1] at h0; exact absurd h0 (by decide)
      · rw [h1] at h0; exact absurd h0 (by decide)
    have e0 := he hr0
    rw [if_pos hr0] at hlo
    refine v_aload_n C dL_law_2859 rfl rfl ?_
    refine v_iconst (v := 0) C dL_law_2860 (by decide) ?_
    refine v_lald C dL_law_2861 ?_
    refine v_iload C dL_law_2862 rfl ?_
    refine v_i2l C dL_law_2864 ?_
    refine v_lcmp C dL_law_2865 ?_
    rw [show bsLc lo9 q.1.toInt64 = 0 by rw [← hlo, e0]; exact bsLc_self _]
    refine v_if_eq (tgt := 2871) C dL_law_2866 (by decide) (fun _ => ?_) (fun h => absurd rfl h)
    refine v_goto (tgt := 3507) C dL_law_2871 (by decide) ?_
    refine v_sub [2, 3, 4, 5, 6, 7] rfl ?_
    exact v_widen (by show cells + 2 ≤ cells + 9; omega) (by show slots + 12 ≤ slots + 54; omega) (kk q.2 lo9 od hI2)
/-- what the pure part owes for cut -/
def sim_cut (I : Nat → bsX → Prop) : Prop := ∀ (j : Nat) (X : bsX), j < 512 → I j X → ∃ (r : bsXr) (q : Int32 × bsX), fX8_cut  X = some r ∧ (r.1 = 0 ∨ r.1 = 1 ∨ r.1 = 3) ∧ fX9_cut  r.2.2 = some q ∧ q.2 14 0 0 0 = (if r.1 = 1 then (1 : Int32) else (if r.1 = 3 then (2 : Int32) else (0 : Int32))) ∧ (r.1 = 0 → r.2.1 = q.1) ∧ I (j + 1) q.2
set_option maxHeartbeats 4000000 in
set_option maxRecDepth 100000 in
theorem law_50 {p : Program} {l : Launch} {e : Env} {s : State} {m : MethodId} {below : List Frame} {meth : Method} {c : Code} {ρ : bsR} {cA : Nat → ClassId} {dC : Nat → ClassId} {dI : Nat → Nat → Nat} {b L : Nat} {xs : Nat → Int32} {I : Nat → bsX → Prop} (H : sim_cut I) (LC : lawC p l s m meth c ρ cA dC dI b L xs) {j : Nat} (hj : 6 * j + 6 ≤ L) {cells slots : Nat} (hc1 : cells + 9 ≤ 601024) (hc2 : slots + 54 ≤ 7293033) {X : bsX} {lo : Int64} {od : UInt64} (hI : I j X) (kk : ∀ (X : bsX) (lo : Int64) (od : UInt64), I (j + 1) X → lawV p l e s m below meth c ρ cA dC dI b (cells + 9) (slots + 54) 3507 [(0, .ref b), (1, .ref (ρ 13 0 0)), (2, .ref (ρ 14 0 0)), (3, .ref (ρ 15 0 0)), (4, .ref (ρ 15 1 0)), (5, .int (nI (6 * j)))] [] X lo od) : lawV p l e s m below meth c ρ cA dC dI b cells slots 2874 [(0, .ref b), (1, .ref (ρ 13 0 0)), (2, .ref (ρ 14 0 0)), (3, .ref (ρ 15 0 0)), (4, .ref (ρ 15 1 0)), (5, .int (nI (6 * j)))] [] X lo od := by
  have hL9 : L ≤ 3072 := LC.2.2.2.2.1
  obtain ⟨hC, hX, hbl, hbA, hL, hst, hfr⟩ := LC
  have C := hC lo od
  obtain ⟨r, q, hf, hr, hg, ht, he, hI2⟩ := H j X  (by omega) hI
  refine v_aload_n C dL_law_2874 rfl rfl ?_
  refine v_aload_n C dL_law_2875 rfl rfl ?_
  refine v_wcallS (y := yL_cut) (As := [.ref (ρ 13 0 0), .ref (ρ 15 0 0)]) (rest := []) C (cL_cut_ok hst hf hr) mlw_359 wwL_cut (by exact dpL_cut) ⟨Nat.le_of_ble_eq_true rfl, Nat.le_of_ble_eq_true rfl⟩ ⟨by show cells + 2 ≤ 601024; omega, by show slots + 12 ≤ 7293033; omega⟩ rfl (Nat.le_of_ble_eq_true rfl) dL_law_2876 ?_
  have C := hC (if r.1 = 0 then r.2.1.toInt64 else lo) od
  generalize hlo : (if r.1 = 0 then r.2.1.toInt64 else lo) = lo9 at C ⊢
  dsimp only
  rw [← ht]
  refine v_istore (lv' := [(6, .int (q.2 14 0 0 0)), (0, .ref b), (1, .ref (ρ 13 0 0)), (2, .ref (ρ 14 0 0)), (3, .ref (ρ 15 0 0)), (4, .ref (ρ 15 1 0)), (5, .int (nI (6 * j)))]) C dL_law_2879 (by decide) rfl ?_
  refine v_aload_n C dL_law_2881 rfl rfl ?_
  refine v_callVi (y := yX9_cut) (As := []) (rest := []) C (cX9_cut_ok hg) mlw_361 wyX9_cut bsm_X9 bsc_X9 rfl (by exact dpX9_cut) ⟨Nat.le_of_ble_eq_true rfl, Nat.le_of_ble_eq_true rfl⟩ ⟨rfl, rfl⟩ ⟨by show cells + 2 ≤ 601024; omega, by show slots + 12 ≤ 7293033; omega⟩ rfl (Nat.le_of_ble_eq_true rfl) dL_law_2882 ?_
  refine v_istore (lv' := [(7, .int q.1), (6, .int (q.2 14 0 0 0)), (0, .ref b), (1, .ref (ρ 13 0 0)), (2, .ref (ρ 14 0 0)), (3, .ref (ρ 15 0 0)), (4, .ref (ρ 15 1 0)), (5, .int (nI (6 * j)))]) C dL_law_2885 (by decide) rfl ?_
  refine v_aload_n C dL_law_2887 rfl rfl ?_
  refine v_callVi (y := yX9_thrown) (As := []) (rest := []) (z := (q.2 14 0 0 0, q.2)) C (cX9_thrown_ok rfl) mlw_205 wyX9_thrown bsm_X9 bsc_X9 rfl (by exact dpX9_thrown) ⟨Nat.le_of_ble_eq_true rfl, Nat.le_of_ble_eq_true rfl⟩ ⟨rfl, rfl⟩ ⟨by show cells + 2 ≤ 601024; omega, by show slots + 12 ≤ 7293033; omega⟩ rfl (Nat.le_of_ble_eq_true rfl) dL_law_2888 ?_
  refine v_iload C dL_law_2891 rfl ?_
  refine v_icmp_eq (tgt := 2898) C dL_law_2893 (by decide) (fun _ => ?_) (fun h => absurd rfl h)
  refine v_iload C dL_law_2898 rfl ?_
  refine v_if_ne (tgt := 2915) C dL_law_2900 (by decide) (fun _ => ?_) (fun h0 => ?_)
  · refine v_goto (tgt := 3507) C dL_law_2915 (by decide) ?_
    refine v_sub [2, 3, 4, 5, 6, 7] rfl ?_
    exact v_widen (by show cells + 2 ≤ cells + 9; omega) (by show slots + 12 ≤ slots + 54; omega) (kk q.2 lo9 od hI2)
  · have hr0 : r.1 = 0 := by
      rw [ht] at h0
      rcases hr with h1 | h1 | h1
      · exact h1
      · rw [h1] at h0; exact absurd h0 (by decide)
      · rw [h1] at h0; exact absurd h0 (by decide)
    have e0 := he hr0
    rw [if_pos hr0] at hlo
    refine v_aload_n C dL_law_2903 rfl rfl ?_
    refine v_iconst (v := 0) C dL_law_2904 (by decide) ?_
    refine v_lald C dL_law_2905 ?_
    refine v_iload C dL_law_2906 rfl ?_
    refine v_i2l C dL_law_2908 ?_
    refine v_lcmp C dL_law_2909 ?_
    rw [show bsLc lo9 q.1.toInt64 = 0 by rw [← hlo, e0]; exact bsLc_self _]
    refine v_if_eq (tgt := 2915) C dL_law_2910 (by decide) (fun _ => ?_) (fun h => absurd rfl h)
    refine v_goto (tgt := 3507) C dL_law_2915 (by decide) ?_
    refine v_sub [2, 3, 4, 5, 6, 7] rfl ?_
    exact v_widen (by show cells + 2 ≤ cells + 9; omega) (by show slots + 12 ≤ slots + 54; omega) (kk q.2 lo9 od hI2)
/-- what the pure part owes for reboot -/
def sim_reboot (I : Nat → bsX → Prop) : Prop := ∀ (j : Nat) (X : bsX), j < 512 → I j X → ∃ (r : bsXr) (q : Int32 × bsX), fX8_reboot  X = some r ∧ (r.1 = 0 ∨ r.1 = 1 ∨ r.1 = 3) ∧ fX9_reboot  r.2.2 = some q ∧ q.2 14 0 0 0 = (if r.1 = 1 then (1 : Int32) else (if r.1 = 3 then (2 : Int32) else (0 : Int32))) ∧ (r.1 = 0 → r.2.1 = q.1) ∧ I (j + 1) q.2
set_option maxHeartbeats 4000000 in
set_option maxRecDepth 100000 in
theorem law_51 {p : Program} {l : Launch} {e : Env} {s : State} {m : MethodId} {below : List Frame} {meth : Method} {c : Code} {ρ : bsR} {cA : Nat → ClassId} {dC : Nat → ClassId} {dI : Nat → Nat → Nat} {b L : Nat} {xs : Nat → Int32} {I : Nat → bsX → Prop} (H : sim_reboot I) (LC : lawC p l s m meth c ρ cA dC dI b L xs) {j : Nat} (hj : 6 * j + 6 ≤ L) {cells slots : Nat} (hc1 : cells + 9 ≤ 601024) (hc2 : slots + 54 ≤ 7293033) {X : bsX} {lo : Int64} {od : UInt64} (hI : I j X) (kk : ∀ (X : bsX) (lo : Int64) (od : UInt64), I (j + 1) X → lawV p l e s m below meth c ρ cA dC dI b (cells + 9) (slots + 54) 3507 [(0, .ref b), (1, .ref (ρ 13 0 0)), (2, .ref (ρ 14 0 0)), (3, .ref (ρ 15 0 0)), (4, .ref (ρ 15 1 0)), (5, .int (nI (6 * j)))] [] X lo od) : lawV p l e s m below meth c ρ cA dC dI b cells slots 2918 [(0, .ref b), (1, .ref (ρ 13 0 0)), (2, .ref (ρ 14 0 0)), (3, .ref (ρ 15 0 0)), (4, .ref (ρ 15 1 0)), (5, .int (nI (6 * j)))] [] X lo od := by
  have hL9 : L ≤ 3072 := LC.2.2.2.2.1
  obtain ⟨hC, hX, hbl, hbA, hL, hst, hfr⟩ := LC
  have C := hC lo od
  obtain ⟨r, q, hf, hr, hg, ht, he, hI2⟩ := H j X  (by omega) hI
  refine v_aload_n C dL_law_2918 rfl rfl ?_
  refine v_aload_n C dL_law_2919 rfl rfl ?_
  refine v_wcallS (y := yL_reboot) (As := [.ref (ρ 13 0 0), .ref (ρ 15 0 0)]) (rest := []) C (cL_reboot_ok hst hf hr) mlw_362 wwL_reboot (by exact dpL_reboot) ⟨Nat.le_of_ble_eq_true rfl, Nat.le_of_ble_eq_true rfl⟩ ⟨by show cells + 2 ≤ 601024; omega, by show slots + 12 ≤ 7293033; omega⟩ rfl (Nat.le_of_ble_eq_true rfl) dL_law_2920 ?_
  have C := hC (if r.1 = 0 then r.2.1.toInt64 else lo) od
  generalize hlo : (if r.1 = 0 then r.2.1.toInt64 else lo) = lo9 at C ⊢
  dsimp only
  rw [← ht]
  refine v_istore (lv' := [(6, .int (q.2 14 0 0 0)), (0, .ref b), (1, .ref (ρ 13 0 0)), (2, .ref (ρ 14 0 0)), (3, .ref (ρ 15 0 0)), (4, .ref (ρ 15 1 0)), (5, .int (nI (6 * j)))]) C dL_law_2923 (by decide) rfl ?_
  refine v_aload_n C dL_law_2925 rfl rfl ?_
  refine v_callVi (y := yX9_reboot) (As := []) (rest := []) C (cX9_reboot_ok hg) mlw_364 wyX9_reboot bsm_X9 bsc_X9 rfl (by exact dpX9_reboot) ⟨Nat.le_of_ble_eq_true rfl, Nat.le_of_ble_eq_true rfl⟩ ⟨rfl, rfl⟩ ⟨by show cells + 2 ≤ 601024; omega, by show slots + 12 ≤ 7293033; omega⟩ rfl (Nat.le_of_ble_eq_true rfl) dL_law_2926 ?_
  refine v_istore (lv' := [(7, .int q.1), (6, .int (q.2 14 0 0 0)), (0, .ref b), (1, .ref (ρ 13 0 0)), (2, .ref (ρ 14 0 0)), (3, .ref (ρ 15 0 0)), (4, .ref (ρ 15 1 0)), (5, .int (nI (6 * j)))]) C dL_law_2929 (by decide) rfl ?_
  refine v_aload_n C dL_law_2931 rfl rfl ?_
  refine v_callVi (y := yX9_thrown) (As := []) (rest := []) (z := (q.2 14 0 0 0, q.2)) C (cX9_thrown_ok rfl) mlw_205 wyX9_thrown bsm_X9 bsc_X9 rfl (by exact dpX9_thrown) ⟨Nat.le_of_ble_eq_true rfl, Nat.le_of_ble_eq_true rfl⟩ ⟨rfl, rfl⟩ ⟨by show cells + 2 ≤ 601024; omega, by show slots + 12 ≤ 7293033; omega⟩ rfl (Nat.le_of_ble_eq_true rfl) dL_law_2932 ?_
  refine v_iload C dL_law_2935 rfl ?_
  refine v_icmp_eq (tgt := 2942) C dL_law_2937 (by decide) (fun _ => ?_) (fun h => absurd rfl h)
  refine v_iload C dL_law_2942 rfl ?_
  refine v_if_ne (tgt := 2959) C dL_law_2944 (by decide) (fun _ => ?_) (fun h0 => ?_)
  · refine v_goto (tgt := 3507) C dL_law_2959 (by decide) ?_
    refine v_sub [2, 3, 4, 5, 6, 7] rfl ?_
    exact v_widen (by show cells + 2 ≤ cells + 9; omega) (by show slots + 12 ≤ slots + 54; omega) (kk q.2 lo9 od hI2)
  · have hr0 : r.1 = 0 := by
      rw [ht] at h0
      rcases hr with h1 | h1 | h1
      · exact h1
      · rw [h1] at h0; exact absurd h0 (by decide)
      · rw [h1] at h0; exact absurd h0 (by decide)
    have e0 := he hr0
    rw [if_pos hr0] at hlo
    refine v_aload_n C dL_law_2947 rfl rfl ?_
    refine v_iconst (v := 0) C dL_law_2948 (by decide) ?_
    refine v_lald C dL_law_2949 ?_
    refine v_iload C dL_law_2950 rfl ?_
    refine v_i2l C dL_law_2952 ?_
    refine v_lcmp C dL_law_2953 ?_
    rw [show bsLc lo9 q.1.toInt64 = 0 by rw [← hlo, e0]; exact bsLc_self _]
    refine v_if_eq (tgt := 2959) C dL_law_2954 (by decide) (fun _ => ?_) (fun h => absurd rfl h)
    refine v_goto (tgt := 3507) C dL_law_2959 (by decide) ?_
    refine v_sub [2, 3, 4, 5, 6, 7] rfl ?_
    exact v_widen (by show cells + 2 ≤ cells + 9; omega) (by show slots + 12 ≤ slots + 54; omega) (kk q.2 lo9 od hI2)
/-- what the pure part owes for tick -/
def sim_tick (I : Nat → bsX → Prop) : Prop := ∀ (j : Nat) (X : bsX) (a1 : Int32), j < 512 → I j X → ∃ (r : bsXr) (q : Int32 × bsX), fX8_tick a1 X = some r ∧ (r.1 = 0 ∨ r.1 = 1 ∨ r.1 = 3) ∧ fX9_tick a1 r.2.2 = some q ∧ q.2 14 0 0 0 = (if r.1 = 1 then (1 : Int32) else (if r.1 = 3 then (2 : Int32) else (0 : Int32))) ∧ (r.1 = 0 → r.2.1 = q.1) ∧ I (j + 1) q.2
set_option maxHeartbeats 4000000 in
set_option maxRecDepth 100000 in
theorem law_52 {p : Program} {l : Launch} {e : Env} {s : State} {m : MethodId} {below : List Frame} {meth : Method} {c : Code} {ρ : bsR} {cA : Nat → ClassId} {dC : Nat → ClassId} {dI : Nat → Nat → Nat} {b L : Nat} {xs : Nat → Int32} {I : Nat → bsX → Prop} (H : sim_tick I) (LC : lawC p l s m meth c ρ cA dC dI b L xs) {j : Nat} (hj : 6 * j + 6 ≤ L) {cells slots : Nat} (hc1 : cells + 9 ≤ 601024) (hc2 : slots + 54 ≤ 7293033) {X : bsX} {lo : Int64} {od : UInt64} (hI : I j X) (kk : ∀ (X : bsX) (lo : Int64) (od : UInt64), I (j + 1) X → lawV p l e s m below meth c ρ cA dC dI b (cells + 9) (slots + 54) 3507 [(0, .ref b), (1, .ref (ρ 13 0 0)), (2, .ref (ρ 14 0 0)), (3, .ref (ρ 15 0 0)), (4, .ref (ρ 15 1 0)), (5, .int (nI (6 * j)))] [] X lo od) : lawV p l e s m below meth c ρ cA dC dI b cells slots 2962 [(0, .ref b), (1, .ref (ρ 13 0 0)), (2, .ref (ρ 14 0 0)), (3, .ref (ρ 15 0 0)), (4, .ref (ρ 15 1 0)), (5, .int (nI (6 * j)))] [] X lo od := by
  have hL9 : L ≤ 3072 := LC.2.2.2.2.1
  obtain ⟨hC, hX, hbl, hbA, hL, hst, hfr⟩ := LC
  have C := hC lo od
  obtain ⟨r, q, hf, hr, hg, ht, he, hI2⟩ := H j X (xs (6 * j + 1)) (by omega) hI
  refine v_aload_n C dL_law_2962 rfl rfl ?_
  refine v_aload_n C dL_law_2963 rfl rfl ?_
  refine v_iload C dL_law_2964 rfl ?_
  refine v_iconst (v := 1) C dL_law_2966 (by decide) ?_
  refine v_iadd C dL_law_2967 ?_
  refine v_sld (k := 1) C hX hbl (hbA lo od) rfl (by omega) (by omega) dL_law_2968 ?_
  refine v_aload_n C dL_law_2969 rfl rfl ?_
  refine v_wcallS (y := yL_tick) (As := [.ref (ρ 13 0 0), .int (xs (6 * j + 1)), .ref (ρ 15 0 0)]) (rest := []) C (cL_tick_ok hst hf hr) mlw_365 wwL_tick (by exact dpL_tick) ⟨Nat.le_of_ble_eq_true rfl, Nat.le_of_ble_eq_true rfl⟩ ⟨by show cells + 3 ≤ 601024; omega, by show slots + 18 ≤ 7293033; omega⟩ rfl (Nat.le_of_ble_eq_true rfl) dL_law_2970 ?_
  have C := hC (if r.1 = 0 then r.2.1.toInt64 else lo) od
  generalize hlo : (if r.1 = 0 then r.2.1.toInt64 else lo) = lo9 at C ⊢
  dsimp only
  rw [← ht]
  refine v_istore (lv' := [(6, .int (q.2 14 0 0 0)), (0, .ref b), (1, .ref (ρ 13 0 0)), (2, .ref (ρ 14 0 0)), (3, .ref (ρ 15 0 0)), (4, .ref (ρ 15 1 0)), (5, .int (nI (6 * j)))]) C dL_law_2973 (by decide) rfl ?_
  refine v_aload_n C dL_law_2975 rfl rfl ?_
  refine v_aload_n C dL_law_2976 rfl rfl ?_
  refine v_iload C dL_law_2977 rfl ?_
  refine v_iconst (v := 1) C dL_law_2979 (by decide) ?_
  refine v_iadd C dL_law_2980 ?_
  refine v_sld (k := 1) C hX hbl (hbA lo9 od) rfl (by omega) (by omega) dL_law_2981 ?_
  refine v_callVi (y := yX9_tick) (As := [.int (xs (6 * j + 1))]) (rest := []) C (cX9_tick_ok hg) mlw_367 wyX9_tick bsm_X9 bsc_X9 rfl (by exact dpX9_tick) ⟨Nat.le_of_ble_eq_true rfl, Nat.le_of_ble_eq_true rfl⟩ ⟨rfl, rfl⟩ ⟨by show cells + 3 ≤ 601024; omega, by show slots + 18 ≤ 7293033; omega⟩ rfl (Nat.le_of_ble_eq_true rfl) dL_law_2982 ?_
  refine v_istore (lv' := [(7, .int q.1), (6, .int (q.2 14 0 0 0)), (0, .ref b), (1, .ref (ρ 13 0 0)), (2, .ref (ρ 14 0 0)), (3, .ref (ρ 15 0 0)), (4, .ref (ρ 15 1 0)), (5, .int (nI (6 * j)))]) C dL_law_2985 (by decide) rfl ?_
  refine v_aload_n C dL_law_2987 rfl rfl ?_
  refine v_callVi (y := yX9_thrown) (As := []) (rest := []) (z := (q.2 14 0 0 0, q.2)) C (cX9_thrown_ok rfl) mlw_205 wyX9_thrown bsm_X9 bsc_X9 rfl (by exact dpX9_thrown) ⟨Nat.le_of_ble_eq_true rfl, Nat.le_of_ble_eq_true rfl⟩ ⟨rfl, rfl⟩ ⟨by show cells + 3 ≤ 601024; omega, by show slots + 18 ≤ 7293033; omega⟩ rfl (Nat.le_of_ble_eq_true rfl) dL_law_2988 ?_
  refine v_iload C dL_law_2991 rfl ?_
  refine v_icmp_eq (tgt := 2998) C dL_law_2993 (by decide) (fun _ => ?_) (fun h => absurd rfl h)
  refine v_iload C dL_law_2998 rfl ?_
  refine v_if_ne (tgt := 3015) C dL_law_3000 (by decide) (fun _ => ?_) (fun h0 => ?_)
  · refine v_goto (tgt := 3507) C dL_law_3015 (by decide) ?_
    refine v_sub [2, 3, 4, 5, 6, 7] rfl ?_
    exact v_widen (by show cells + 3 ≤ cells + 9; omega) (by show slots + 18 ≤ slots + 54; omega) (kk q.2 lo9 od hI2)
  · have hr0 : r.1 = 0 := by
      rw [ht] at h0
      rcases hr with h1 | h1 | h1
      · exact h1
      · rw [h1] at h0; exact absurd h0 (by decide)
      · rw [h1] at h0; exact absurd h0 (by decide)
    have e0 := he hr0
    rw [if_pos hr0] at hlo
    refine v_aload_n C dL_law_3003 rfl rfl ?_
    refine v_iconst (v := 0) C dL_law_3004 (by decide) ?_
    refine v_lald C dL_law_3005 ?_
    refine v_iload C dL_law_3006 rfl ?_
    refine v_i2l C dL_law_3008 ?_
    refine v_lcmp C dL_law_3009 ?_
    rw [show bsLc lo9 q.1.toInt64 = 0 by rw [← hlo, e0]; exact bsLc_self _]
    refine v_if_eq (tgt := 3015) C dL_law_3010 (by decide) (fun _ => ?_) (fun h => absurd rfl h)
    refine v_goto (tgt := 3507) C dL_law_3015 (by decide) ?_
    refine v_sub [2, 3, 4, 5, 6, 7] rfl ?_
    exact v_widen (by show cells + 3 ≤ cells + 9; omega) (by show slots + 18 ≤ slots + 54; omega) (kk q.2 lo9 od hI2)
/-- what the pure part owes for begin -/
def sim_begin (I : Nat → bsX → Prop) : Prop := ∀ (j : Nat) (X : bsX) (a1 a2 a3 a4 a5 : Int32), j < 512 → I j X → ∃ (r : bsXr) (q : Int32 × bsX), fX8_begin a1 a2 a3 a4 a5 X = some r ∧ (r.1 = 0 ∨ r.1 = 1 ∨ r.1 = 2 ∨ r.1 = 3) ∧ fX9_begin a1 a2 a3 a4 a5 r.2.2 = some q ∧ q.2 14 0 0 0 = (if r.1 = 1 then (1 : Int32) else (if r.1 = 2 then (2 : Int32) else (if r.1 = 3 then (3 : Int32) else (0 : Int32)))) ∧ (r.1 = 0 → r.2.1 = q.1) ∧ I (j + 1) q.2
set_option maxHeartbeats 4000000 in
set_option maxRecDepth 100000 in
theorem law_53 {p : Program} {l : Launch} {e : Env} {s : State} {m : MethodId} {below : List Frame} {meth : Method} {c : Code} {ρ : bsR} {cA : Nat → ClassId} {dC : Nat → ClassId} {dI : Nat → Nat → Nat} {b L : Nat} {xs : Nat → Int32} {I : Nat → bsX → Prop} (H : sim_begin I) (LC : lawC p l s m meth c ρ cA dC dI b L xs) {j : Nat} (hj : 6 * j + 6 ≤ L) {cells slots : Nat} (hc1 : cells + 9 ≤ 601024) (hc2 : slots + 54 ≤ 7293033) {X : bsX} {lo : Int64} {od : UInt64} (hI : I j X) (kk : ∀ (X : bsX) (lo : Int64) (od : UInt64), I (j + 1) X → lawV p l e s m below meth c ρ cA dC dI b (cells + 9) (slots + 54) 3507 [(0, .ref b), (1, .ref (ρ 13 0 0)), (2, .ref (ρ 14 0 0)), (3, .ref (ρ 15 0 0)), (4, .ref (ρ 15 1 0)), (5, .int (nI (6 * j)))] [] X lo od) : lawV p l e s m below meth c ρ cA dC dI b cells slots 3018 [(0, .ref b), (1, .ref (ρ 13 0 0)), (2, .ref (ρ 14 0 0)), (3, .ref (ρ 15 0 0)), (4, .ref (ρ 15 1 0)), (5, .int (nI (6 * j)))] [] X lo od := by
  have hL9 : L ≤ 3072 := LC.2.2.2.2.1
  obtain ⟨hC, hX, hbl, hbA, hL, hst, hfr⟩ := LC
  have C := hC lo od
  obtain ⟨r, q, hf, hr, hg, ht, he, hI2⟩ := H j X (xs (6 * j + 1)) (xs (6 * j + 2)) (xs (6 * j + 3)) (xs (6 * j + 4)) (xs (6 * j + 5)) (by omega) hI
  refine v_aload_n C dL_law_3018 rfl rfl ?_
  refine v_aload_n C dL_law_3019 rfl rfl ?_
  refine v_iload C dL_law_3020 rfl ?_
  refine v_iconst (v := 1) C dL_law_3022 (by decide) ?_
  refine v_iadd C dL_law_3023 ?_
  refine v_sld (k := 1) C hX hbl (hbA lo od) rfl (by omega) (by omega) dL_law_3024 ?_
  refine v_aload_n C dL_law_3025 rfl rfl ?_
  refine v_iload C dL_law_3026 rfl ?_
  refine v_iconst (v := 2) C dL_law_3028 (by decide) ?_
  refine v_iadd C dL_law_3029 ?_
  refine v_sld (k := 2) C hX hbl (hbA lo od) rfl (by omega) (by omega) dL_law_3030 ?_
  refine v_aload_n C dL_law_3031 rfl rfl ?_
  refine v_iload C dL_law_3032 rfl ?_
  refine v_iconst (v := 3) C dL_law_3034 (by decide) ?_
  refine v_iadd C dL_law_3035 ?_
  refine v_sld (k := 3) C hX hbl (hbA lo od) rfl (by omega) (by omega) dL_law_3036 ?_
  refine v_aload_n C dL_law_3037 rfl rfl ?_
  refine v_iload C dL_law_3038 rfl ?_
  refine v_iconst (v := 4) C dL_law_3040 (by decide) ?_
  refine v_iadd C dL_law_3041 ?_
  refine v_sld (k := 4) C hX hbl (hbA lo od) rfl (by omega) (by omega) dL_law_3042 ?_
  refine v_aload_n C dL_law_3043 rfl rfl ?_
  refine v_iload C dL_law_3044 rfl ?_
  refine v_iconst (v := 5) C dL_law_3046 (by decide) ?_
  refine v_iadd C dL_law_3047 ?_
  refine v_sld (k := 5) C hX hbl (hbA lo od) rfl (by omega) (by omega) dL_law_3048 ?_
  refine v_aload_n C dL_law_3049 rfl rfl ?_
  refine v_wcallS (y := yL_begin) (As := [.ref (ρ 13 0 0), .int (xs (6 * j + 1)), .int (xs (6 * j + 2)), .int (xs (6 * j + 3)), .int (xs (6 * j + 4)), .int (xs (6 * j + 5)), .ref (ρ 15 0 0)]) (rest := []) C (cL_begin_ok hst hf hr) mlw_368 wwL_begin (by exact dpL_begin) ⟨Nat.le_of_ble_eq_true rfl, Nat.le_of_ble_eq_true rfl⟩ ⟨by show cells + 9 ≤ 601024; omega, by show slots + 54 ≤ 7293033; omega⟩ rfl (Nat.le_of_ble_eq_true rfl) dL_law_3050 ?_
  have C := hC (if r.1 = 0 then r.2.1.toInt64 else lo) od
  generalize hlo : (if r.1 = 0 then r.2.1.toInt64 else lo) = lo9 at C ⊢
  dsimp only
  rw [← ht]
  refine v_istore (lv' := [(6, .int (q.2 14 0 0 0)), (0, .ref b), (1, .ref (ρ 13 0 0)), (2, .ref (ρ 14 0 0)), (3, .ref (ρ 15 0 0)), (4, .ref (ρ 15 1 0)), (5, .int (nI (6 * j)))]) C dL_law_3053 (by decide) rfl ?_
  refine v_aload_n C dL_law_3055 rfl rfl ?_
  refine v_aload_n C dL_law_3056 rfl rfl ?_
  refine v_iload C dL_law_3057 rfl ?_
  refine v_iconst (v := 1) C dL_law_3059 (by decide) ?_
  refine v_iadd C dL_law_3060 ?_
  refine v_sld (k := 1) C hX hbl (hbA lo9 od) rfl (by omega) (by omega) dL_law_3061 ?_
  refine v_aload_n C dL_law_3062 rfl rfl ?_
  refine v_iload C dL_law_3063 rfl ?_
  refine v_iconst (v := 2) C dL_law_3065 (by decide) ?_
  refine v_iadd C dL_law_3066 ?_
  refine v_sld (k := 2) C hX hbl (hbA lo9 od) rfl (by omega) (by omega) dL_law_3067 ?_
  refine v_aload_n C dL_law_3068 rfl rfl ?_
  refine v_iload C dL_law_3069 rfl ?_
  refine v_iconst (v := 3) C dL_law_3071 (by decide) ?_
  refine v_iadd C dL_law_3072 ?_
  refine v_sld (k := 3) C hX hbl (hbA lo9 od) rfl (by omega) (by omega) dL_law_3073 ?_
  refine v_aload_n C dL_law_3074 rfl rfl ?_
  refine v_iload C dL_law_3075 rfl ?_
  refine v_iconst (v := 4) C dL_law_3077 (by decide) ?_
  refine v_iadd C dL_law_3078 ?_
  refine v_sld (k := 4) C hX hbl (hbA lo9 od) rfl (by omega) (by omega) dL_law_3079 ?_
  refine v_aload_n C dL_law_3080 rfl rfl ?_
  refine v_iload C dL_law_3081 rfl ?_
  refine v_iconst (v := 5) C dL_law_3083 (by decide) ?_
  refine v_iadd C dL_law_3084 ?_
  refine v_sld (k := 5) C hX hbl (hbA lo9 od) rfl (by omega) (by omega) dL_law_3085 ?_
  refine v_callVi (y := yX9_begin) (As := [.int (xs (6 * j + 1)), .int (xs (6 * j + 2)), .int (xs (6 * j + 3)), .int (xs (6 * j + 4)), .int (xs (6 * j + 5))]) (rest := []) C (cX9_begin_ok hg) mlw_371 wyX9_begin bsm_X9 bsc_X9 rfl (by exact dpX9_begin) ⟨Nat.le_of_ble_eq_true rfl, Nat.le_of_ble_eq_true rfl⟩ ⟨rfl, rfl⟩ ⟨by show cells + 9 ≤ 601024; omega, by show slots + 54 ≤ 7293033; omega⟩ rfl (Nat.le_of_ble_eq_true rfl) dL_law_3086 ?_
  refine v_istore (lv' := [(7, .int q.1), (6, .int (q.2 14 0 0 0)), (0, .ref b), (1, .ref (ρ 13 0 0)), (2, .ref (ρ 14 0 0)), (3, .ref (ρ 15 0 0)), (4, .ref (ρ 15 1 0)), (5, .int (nI (6 * j)))]) C dL_law_3089 (by decide) rfl ?_
  refine v_aload_n C dL_law_3091 rfl rfl ?_
  refine v_callVi (y := yX9_thrown) (As := []) (rest := []) (z := (q.2 14 0 0 0, q.2)) C (cX9_thrown_ok rfl) mlw_205 wyX9_thrown bsm_X9 bsc_X9 rfl (by exact dpX9_thrown) ⟨Nat.le_of_ble_eq_true rfl, Nat.le_of_ble_eq_true rfl⟩ ⟨rfl, rfl⟩ ⟨by show cells + 9 ≤ 601024; omega, by show slots + 54 ≤ 7293033; omega⟩ rfl (Nat.le_of_ble_eq_true rfl) dL_law_3092 ?_
  refine v_iload C dL_law_3095 rfl ?_
  refine v_icmp_eq (tgt := 3102) C dL_law_3097 (by decide) (fun _ => ?_) (fun h => absurd rfl h)
  refine v_iload C dL_law_3102 rfl ?_
  refine v_if_ne (tgt := 3119) C dL_law_3104 (by decide) (fun _ => ?_) (fun h0 => ?_)
  · refine v_goto (tgt := 3507) C dL_law_3119 (by decide) ?_
    refine v_sub [2, 3, 4, 5, 6, 7] rfl ?_
    exact v_widen (by show cells + 9 ≤ cells + 9; omega) (by show slots + 54 ≤ slots + 54; omega) (kk q.2 lo9 od hI2)
  · have hr0 : r.1 = 0 := by
      rw [ht] at h0
      rcases hr with h1 | h1 | h1 | h1
      · exact h1
      · rw [h1] at h0; exact absurd h0 (by decide)
      · rw [h1] at h0; exact absurd h0 (by decide)
      · rw [h1] at h0; exact absurd h0 (by decide)
    have e0 := he hr0
    rw [if_pos hr0] at hlo
    refine v_aload_n C dL_law_3107 rfl rfl ?_
    refine v_iconst (v := 0) C dL_law_3108 (by decide) ?_
    refine v_lald C dL_law_3109 ?_
    refine v_iload C dL_law_3110 rfl ?_
    refine v_i2l C dL_law_3112 ?_
    refine v_lcmp C dL_law_3113 ?_
    rw [show bsLc lo9 q.1.toInt64 = 0 by rw [← hlo, e0]; exact bsLc_self _]
    refine v_if_eq (tgt := 3119) C dL_law_3114 (by decide) (fun _ => ?_) (fun h => absurd rfl h)
    refine v_goto (tgt := 3507) C dL_law_3119 (by decide) ?_
    refine v_sub [2, 3, 4, 5, 6, 7] rfl ?_
    exact v_widen (by show cells + 9 ≤ cells + 9; omega) (by show slots + 54 ≤ slots + 54; omega) (kk q.2 lo9 od hI2)
/-- what the pure part owes for spoil -/
def sim_spoil (I : Nat → bsX → Prop) : Prop := ∀ (j : Nat) (X : bsX) (a1 a2 : Int32), j < 512 → I j X → ∃ (r : bsXr) (q : Int32 × bsX), fX8_spoil a1 a2 X = some r ∧ (r.1 = 0 ∨ r.1 = 1 ∨ r.1 = 2 ∨ r.1 = 3) ∧ fX9_spoil a1 a2 r.2.2 = some q ∧ q.2 14 0 0 0 = (if r.1 = 1 then (1 : Int32) else (if r.1 = 2 then (2 : Int32) else (if r.1 = 3 then (3 : Int32) else (0 : Int32)))) ∧ (r.1 = 0 → r.2.1 = q.1) ∧ I (j + 1) q.2
set_option maxHeartbeats 4000000 in
set_option maxRecDepth 100000 in
theorem law_54 {p : Program} {l : Launch} {e : Env} {s : State} {m : MethodId} {below : List Frame} {meth : Method} {c : Code} {ρ : bsR} {cA : Nat → ClassId} {dC : Nat → ClassId} {dI : Nat → Nat → Nat} {b L : Nat} {xs : Nat → Int32} {I : Nat → bsX → Prop} (H : sim_spoil I) (LC : lawC p l s m meth c ρ cA dC dI b L xs) {j : Nat} (hj : 6 * j + 6 ≤ L) {cells slots : Nat} (hc1 : cells + 9 ≤ 601024) (hc2 : slots + 54 ≤ 7293033) {X : bsX} {lo : Int64} {od : UInt64} (hI : I j X) (kk : ∀ (X : bsX) (lo : Int64) (od : UInt64), I (j + 1) X → lawV p l e s m below meth c ρ cA dC dI b (cells + 9) (slots + 54) 3507 [(0, .ref b), (1, .ref (ρ 13 0 0)), (2, .ref (ρ 14 0 0)), (3, .ref (ρ 15 0 0)), (4, .ref (ρ 15 1 0)), (5, .int (nI (6 * j)))] [] X lo od) : lawV p l e s m below meth c ρ cA dC dI b cells slots 3122 [(0, .ref b), (1, .ref (ρ 13 0 0)), (2, .ref (ρ 14 0 0)), (3, .ref (ρ 15 0 0)), (4, .ref (ρ 15 1 0)), (5, .int (nI (6 * j)))] [] X lo od := by
  have hL9 : L ≤ 3072 := LC.2.2.2.2.1
  obtain ⟨hC, hX, hbl, hbA, hL, hst, hfr⟩ := LC
  have C := hC lo od
  obtain ⟨r, q, hf, hr, hg, ht, he, hI2⟩ := H j X (xs (6 * j + 1)) (xs (6 * j + 2)) (by omega) hI
  refine v_aload_n C dL_law_3122 rfl rfl ?_
  refine v_aload_n C dL_law_3123 rfl rfl ?_
  refine v_iload C dL_law_3124 rfl ?_
  refine v_iconst (v := 1) C dL_law_3126 (by decide) ?_
  refine v_iadd C dL_law_3127 ?_
  refine v_sld (k := 1) C hX hbl (hbA lo od) rfl (by omega) (by omega) dL_law_3128 ?_
  refine v_aload_n C dL_law_3129 rfl rfl ?_
  refine v_iload C dL_law_3130 rfl ?_
  refine v_iconst (v := 2) C dL_law_3132 (by decide) ?_
  refine v_iadd C dL_law_3133 ?_
  refine v_sld (k := 2) C hX hbl (hbA lo od) rfl (by omega) (by omega) dL_law_3134 ?_
  refine v_aload_n C dL_law_3135 rfl rfl ?_
  refine v_wcallS (y := yL_spoil) (As := [.ref (ρ 13 0 0), .int (xs (6 * j + 1)), .int (xs (6 * j + 2)), .ref (ρ 15 0 0)]) (rest := []) C (cL_spoil_ok hst hf hr) mlw_372 wwL_spoil (by exact dpL_spoil) ⟨Nat.le_of_ble_eq_true rfl, Nat.le_of_ble_eq_true rfl⟩ ⟨by show cells + 4 ≤ 601024; omega, by show slots + 24 ≤ 7293033; omega⟩ rfl (Nat.le_of_ble_eq_true rfl) dL_law_3136 ?_
  have C := hC (if r.1 = 0 then r.2.1.toInt64 else lo) od
  generalize hlo : (if r.1 = 0 then r.2.1.toInt64 else lo) = lo9 at C ⊢
  dsimp only
  rw [← ht]
  refine v_istore (lv' := [(6, .int (q.2 14 0 0 0)), (0, .ref b), (1, .ref (ρ 13 0 0)), (2, .ref (ρ 14 0 0)), (3, .ref (ρ 15 0 0)), (4, .ref (ρ 15 1 0)), (5, .int (nI (6 * j)))]) C dL_law_3139 (by decide) rfl ?_
  refine v_aload_n C dL_law_3141 rfl rfl ?_
  refine v_aload_n C dL_law_3142 rfl rfl ?_
  refine v_iload C dL_law_3143 rfl ?_
  refine v_iconst (v := 1) C dL_law_3145 (by decide) ?_
  refine v_iadd C dL_law_3146 ?_
  refine v_sld (k := 1) C hX hbl (hbA lo9 od) rfl (by omega) (by omega) dL_law_3147 ?_
  refine v_aload_n C dL_law_3148 rfl rfl ?_
  refine v_iload C dL_law_3149 rfl ?_
  refine v_iconst (v := 2) C dL_law_3151 (by decide) ?_
  refine v_iadd C dL_law_3152 ?_
  refine v_sld (k := 2) C hX hbl (hbA lo9 od) rfl (by omega) (by omega) dL_law_3153 ?_
  refine v_callVi (y := yX9_spoil) (As := [.int (xs (6 * j + 1)), .int (xs (6 * j + 2))]) (rest := []) C (cX9_spoil_ok hg) mlw_374 wyX9_spoil bsm_X9 bsc_X9 rfl (by exact dpX9_spoil) ⟨Nat.le_of_ble_eq_true rfl, Nat.le_of_ble_eq_true rfl⟩ ⟨rfl, rfl⟩ ⟨by show cells + 4 ≤ 601024; omega, by show slots + 24 ≤ 7293033; omega⟩ rfl (Nat.le_of_ble_eq_true rfl) dL_law_3154 ?_
  refine v_istore (lv' := [(7, .int q.1), (6, .int (q.2 14 0 0 0)), (0, .ref b), (1, .ref (ρ 13 0 0)), (2, .ref (ρ 14 0 0)), (3, .ref (ρ 15 0 0)), (4, .ref (ρ 15 1 0)), (5, .int (nI (6 * j)))]) C dL_law_3157 (by decide) rfl ?_
  refine v_aload_n C dL_law_3159 rfl rfl ?_
  refine v_callVi (y := yX9_thrown) (As := []) (rest := []) (z := (q.2 14 0 0 0, q.2)) C (cX9_thrown_ok rfl) mlw_205 wyX9_thrown bsm_X9 bsc_X9 rfl (by exact dpX9_thrown) ⟨Nat.le_of_ble_eq_true rfl, Nat.le_of_ble_eq_true rfl⟩ ⟨rfl, rfl⟩ ⟨by show cells + 4 ≤ 601024; omega, by show slots + 24 ≤ 7293033; omega⟩ rfl (Nat.le_of_ble_eq_true rfl) dL_law_3160 ?_
  refine v_iload C dL_law_3163 rfl ?_
  refine v_icmp_eq (tgt := 3170) C dL_law_3165 (by decide) (fun _ => ?_) (fun h => absurd rfl h)
  refine v_iload C dL_law_3170 rfl ?_
  refine v_if_ne (tgt := 3187) C dL_law_3172 (by decide) (fun _ => ?_) (fun h0 => ?_)
  · refine v_goto (tgt := 3507) C dL_law_3187 (by decide) ?_
    refine v_sub [2, 3, 4, 5, 6, 7] rfl ?_
    exact v_widen (by show cells + 4 ≤ cells + 9; omega) (by show slots + 24 ≤ slots + 54; omega) (kk q.2 lo9 od hI2)
  · have hr0 : r.1 = 0 := by
      rw [ht] at h0
      rcases hr with h1 | h1 | h1 | h1
      · exact h1
      · rw [h1] at h0; exact absurd h0 (by decide)
      · rw [h1] at h0; exact absurd h0 (by decide)
      · rw [h1] at h0; exact absurd h0 (by decide)
    have e0 := he hr0
    rw [if_pos hr0] at hlo
    refine v_aload_n C dL_law_3175 rfl rfl ?_
    refine v_iconst (v := 0) C dL_law_3176 (by decide) ?_
    refine v_lald C dL_law_3177 ?_
    refine v_iload C dL_law_3178 rfl ?_
    refine v_i2l C dL_law_3180 ?_
    refine v_lcmp C dL_law_3181 ?_
    rw [show bsLc lo9 q.1.toInt64 = 0 by rw [← hlo, e0]; exact bsLc_self _]
    refine v_if_eq (tgt := 3187) C dL_law_3182 (by decide) (fun _ => ?_) (fun h => absurd rfl h)
    refine v_goto (tgt := 3507) C dL_law_3187 (by decide) ?_
    refine v_sub [2, 3, 4, 5, 6, 7] rfl ?_
    exact v_widen (by show cells + 4 ≤ cells + 9; omega) (by show slots + 24 ≤ slots + 54; omega) (kk q.2 lo9 od hI2)
/-- what the pure part owes for mark -/
def sim_mark (I : Nat → bsX → Prop) : Prop := ∀ (j : Nat) (X : bsX) (a1 a2 a3 : Int32), j < 512 → I j X → ∃ (r : bsXr) (q : Int32 × bsX), fX8_mark a1 a2 a3 X = some r ∧ (r.1 = 0 ∨ r.1 = 1 ∨ r.1 = 2 ∨ r.1 = 3) ∧ fX9_mark a1 a2 a3 r.2.2 = some q ∧ q.2 14 0 0 0 = (if r.1 = 1 then (1 : Int32) else (if r.1 = 2 then (2 : Int32) else (if r.1 = 3 then (3 : Int32) else (0 : Int32)))) ∧ (r.1 = 0 → r.2.1 = q.1) ∧ I (j + 1) q.2
set_option maxHeartbeats 4000000 in
set_option maxRecDepth 100000 in
theorem law_55 {p : Program} {l : Launch} {e : Env} {s : State} {m : MethodId} {below : List Frame} {meth : Method} {c : Code} {ρ : bsR} {cA : Nat → ClassId} {dC : Nat → ClassId} {dI : Nat → Nat → Nat} {b L : Nat} {xs : Nat → Int32} {I : Nat → bsX → Prop} (H : sim_mark I) (LC : lawC p l s m meth c ρ cA dC dI b L xs) {j : Nat} (hj : 6 * j + 6 ≤ L) {cells slots : Nat} (hc1 : cells + 9 ≤ 601024) (hc2 : slots + 54 ≤ 7293033) {X : bsX} {lo : Int64} {od : UInt64} (hI : I j X) (kk : ∀ (X : bsX) (lo : Int64) (od : UInt64), I (j + 1) X → lawV p l e s m below meth c ρ cA dC dI b (cells + 9) (slots + 54) 3507 [(0, .ref b), (1, .ref (ρ 13 0 0)), (2, .ref (ρ 14 0 0)), (3, .ref (ρ 15 0 0)), (4, .ref (ρ 15 1 0)), (5, .int (nI (6 * j)))] [] X lo od) : lawV p l e s m below meth c ρ cA dC dI b cells slots 3190 [(0, .ref b), (1, .ref (ρ 13 0 0)), (2, .ref (ρ 14 0 0)), (3, .ref (ρ 15 0 0)), (4, .ref (ρ 15 1 0)), (5, .int (nI (6 * j)))] [] X lo od := by
  have hL9 : L ≤ 3072 := LC.2.2.2.2.1
  obtain ⟨hC, hX, hbl, hbA, hL, hst, hfr⟩ := LC
  have C := hC lo od
  obtain ⟨r, q, hf, hr, hg, ht, he, hI2⟩ := H j X (xs (6 * j + 1)) (xs (6 * j + 2)) (xs (6 * j + 3)) (by omega) hI
  refine v_aload_n C dL_law_3190 rfl rfl ?_
  refine v_aload_n C dL_law_3191 rfl rfl ?_
  refine v_iload C dL_law_3192 rfl ?_
  refine v_iconst (v := 1) C dL_law_3194 (by decide) ?_
  refine v_iadd C dL_law_3195 ?_
  refine v_sld (k := 1) C hX hbl (hbA lo od) rfl (by omega) (by omega) dL_law_3196 ?_
  refine v_aload_n C dL_law_3197 rfl rfl ?_
  refine v_iload C dL_law_3198 rfl ?_
  refine v_iconst (v := 2) C dL_law_3200 (by decide) ?_
  refine v_iadd C dL_law_3201 ?_
  refine v_sld (k := 2) C hX hbl (hbA lo od) rfl (by omega) (by omega) dL_law_3202 ?_
  refine v_aload_n C dL_law_3203 rfl rfl ?_
  refine v_iload C dL_law_3204 rfl ?_
  refine v_iconst (v := 3) C dL_law_3206 (by decide) ?_
  refine v_iadd C dL_law_3207 ?_
  refine v_sld (k := 3) C hX hbl (hbA lo od) rfl (by omega) (by omega) dL_law_3208 ?_
  refine v_aload_n C dL_law_3209 rfl rfl ?_
  refine v_wcallS (y := yL_mark) (As := [.ref (ρ 13 0 0), .int (xs (6 * j + 1)), .int (xs (6 * j + 2)), .int (xs (6 * j + 3)), .ref (ρ 15 0 0)]) (rest := []) C (cL_mark_ok hst hf hr) mlw_375 wwL_mark (by exact dpL_mark) ⟨Nat.le_of_ble_eq_true rfl, Nat.le_of_ble_eq_true rfl⟩ ⟨by show cells + 5 ≤ 601024; omega, by show slots + 30 ≤ 7293033; omega⟩ rfl (Nat.le_of_ble_eq_true rfl) dL_law_3210 ?_
  have C := hC (if r.1 = 0 then r.2.1.toInt64 else lo) od
  generalize hlo : (if r.1 = 0 then r.2.1.toInt64 else lo) = lo9 at C ⊢
  dsimp only
  rw [← ht]
  refine v_istore (lv' := [(6, .int (q.2 14 0 0 0)), (0, .ref b), (1, .ref (ρ 13 0 0)), (2, .ref (ρ 14 0 0)), (3, .ref (ρ 15 0 0)), (4, .ref (ρ 15 1 0)), (5, .int (nI (6 * j)))]) C dL_law_3213 (by decide) rfl ?_
  refine v_aload_n C dL_law_3215 rfl rfl ?_
  refine v_aload_n C dL_law_3216 rfl rfl ?_
  refine v_iload C dL_law_3217 rfl ?_
  refine v_iconst (v := 1) C dL_law_3219 (by decide) ?_
  refine v_iadd C dL_law_3220 ?_
  refine v_sld (k := 1) C hX hbl (hbA lo9 od) rfl (by omega) (by omega) dL_law_3221 ?_
  refine v_aload_n C dL_law_3222 rfl rfl ?_
  refine v_iload C dL_law_3223 rfl ?_
  refine v_iconst (v := 2) C dL_law_3225 (by decide) ?_
  refine v_iadd C dL_law_3226 ?_
  refine v_sld (k := 2) C hX hbl (hbA lo9 od) rfl (by omega) (by omega) dL_law_3227 ?_
  refine v_aload_n C dL_law_3228 rfl rfl ?_
  refine v_iload C dL_law_3229 rfl ?_
  refine v_iconst (v := 3) C dL_law_3231 (by decide) ?_
  refine v_iadd C dL_law_3232 ?_
  refine v_sld (k := 3) C hX hbl (hbA lo9 od) rfl (by omega) (by omega) dL_law_3233 ?_
  refine v_callVi (y := yX9_mark) (As := [.int (xs (6 * j + 1)), .int (xs (6 * j + 2)), .int (xs (6 * j + 3))]) (rest := []) C (cX9_mark_ok hg) mlw_377 wyX9_mark bsm_X9 bsc_X9 rfl (by exact dpX9_mark) ⟨Nat.le_of_ble_eq_true rfl, Nat.le_of_ble_eq_true rfl⟩ ⟨rfl, rfl⟩ ⟨by show cells + 5 ≤ 601024; omega, by show slots + 30 ≤ 7293033; omega⟩ rfl (Nat.le_of_ble_eq_true rfl) dL_law_3234 ?_
  refine v_istore (lv' := [(7, .int q.1), (6, .int (q.2 14 0 0 0)), (0, .ref b), (1, .ref (ρ 13 0 0)), (2, .ref (ρ 14 0 0)), (3, .ref (ρ 15 0 0)), (4, .ref (ρ 15 1 0)), (5, .int (nI (6 * j)))]) C dL_law_3237 (by decide) rfl ?_
  refine v_aload_n C dL_law_3239 rfl rfl ?_
  refine v_callVi (y := yX9_thrown) (As := []) (rest := []) (z := (q.2 14 0 0 0, q.2)) C (cX9_thrown_ok rfl) mlw_205 wyX9_thrown bsm_X9 bsc_X9 rfl (by exact dpX9_thrown) ⟨Nat.le_of_ble_eq_true rfl, Nat.le_of_ble_eq_true rfl⟩ ⟨rfl, rfl⟩ ⟨by show cells + 5 ≤ 601024; omega, by show slots + 30 ≤ 7293033; omega⟩ rfl (Nat.le_of_ble_eq_true rfl) dL_law_3240 ?_
  refine v_iload C dL_law_3243 rfl ?_
  refine v_icmp_eq (tgt := 3250) C dL_law_3245 (by decide) (fun _ => ?_) (fun h => absurd rfl h)
  refine v_iload C dL_law_3250 rfl ?_
  refine v_if_ne (tgt := 3267) C dL_law_3252 (by decide) (fun _ => ?_) (fun h0 => ?_)
  · refine v_goto (tgt := 3507) C dL_law_3267 (by decide) ?_
    refine v_sub [2, 3, 4, 5, 6, 7] rfl ?_
    exact v_widen (by show cells + 5 ≤ cells + 9; omega) (by show slots + 30 ≤ slots + 54; omega) (kk q.2 lo9 od hI2)
  · have hr0 : r.1 = 0 := by
      rw [ht] at h0
      rcases hr with h1 | h1 | h1 | h1
      · exact h1
      · rw [h1] at h0; exact absurd h0 (by decide)
      · rw [h1] at h0; exact absurd h0 (by decide)
      · rw [h1] at h0; exact absurd h0 (by decide)
    have e0 := he hr0
    rw [if_pos hr0] at hlo
    refine v_aload_n C dL_law_3255 rfl rfl ?_
    refine v_iconst (v := 0) C dL_law_3256 (by decide) ?_
    refine v_lald C dL_law_3257 ?_
    refine v_iload C dL_law_3258 rfl ?_
    refine v_i2l C dL_law_3260 ?_
    refine v_lcmp C dL_law_3261 ?_
    rw [show bsLc lo9 q.1.toInt64 = 0 by rw [← hlo, e0]; exact bsLc_self _]
    refine v_if_eq (tgt := 3267) C dL_law_3262 (by decide) (fun _ => ?_) (fun h => absurd rfl h)
    refine v_goto (tgt := 3507) C dL_law_3267 (by decide) ?_
    refine v_sub [2, 3, 4, 5, 6, 7] rfl ?_
    exact v_widen (by show cells + 5 ≤ cells + 9; omega) (by show slots + 30 ≤ slots + 54; omega) (kk q.2 lo9 od hI2)
/-- what the pure part owes for setNumber -/
def sim_setNumber (I : Nat → bsX → Prop) : Prop := ∀ (j : Nat) (X : bsX) (a1 a2 : Int32), j < 512 → I j X → ∃ (r : bsXr) (q : Int32 × bsX), fX8_setNumber a1 a2 X = some r ∧ (r.1 = 0 ∨ r.1 = 1 ∨ r.1 = 3) ∧ fX9_setNumber a1 a2 r.2.2 = some q ∧ q.2 14 0 0 0 = (if r.1 = 1 then (1 : Int32) else (if r.1 = 3 then (2 : Int32) else (0 : Int32))) ∧ (r.1 = 0 → r.2.1 = q.1) ∧ I (j + 1) q.2
set_option maxHeartbeats 4000000 in
set_option maxRecDepth 100000 in
theorem law_56 {p : Program} {l : Launch} {e : Env} {s : State} {m : MethodId} {below : List Frame} {meth : Method} {c : Code} {ρ : bsR} {cA : Nat → ClassId} {dC : Nat → ClassId} {dI : Nat → Nat → Nat} {b L : Nat} {xs : Nat → Int32} {I : Nat → bsX → Prop} (H : sim_setNumber I) (LC : lawC p l s m meth c ρ cA dC dI b L xs) {j : Nat} (hj : 6 * j + 6 ≤ L) {cells slots : Nat} (hc1 : cells + 9 ≤ 601024) (hc2 : slots + 54 ≤ 7293033) {X : bsX} {lo : Int64} {od : UInt64} (hI : I j X) (kk : ∀ (X : bsX) (lo : Int64) (od : UInt64), I (j + 1) X → lawV p l e s m below meth c ρ cA dC dI b (cells + 9) (slots + 54) 3507 [(0, .ref b), (1, .ref (ρ 13 0 0)), (2, .ref (ρ 14 0 0)), (3, .ref (ρ 15 0 0)), (4, .ref (ρ 15 1 0)), (5, .int (nI (6 * j)))] [] X lo od) : lawV p l e s m below meth c ρ cA dC dI b cells slots 3270 [(0, .ref b), (1, .ref (ρ 13 0 0)), (2, .ref (ρ 14 0 0)), (3, .ref (ρ 15 0 0)), (4, .ref (ρ 15 1 0)), (5, .int (nI (6 * j)))] [] X lo od := by
  have hL9 : L ≤ 3072 := LC.2.2.2.2.1
  obtain ⟨hC, hX, hbl, hbA, hL, hst, hfr⟩ := LC
  have C := hC lo od
  obtain ⟨r, q, hf, hr, hg, ht, he, hI2⟩ := H j X (xs (6 * j + 1)) (xs (6 * j + 2)) (by omega) hI
  refine v_aload_n C dL_law_3270 rfl rfl ?_
  refine v_aload_n C dL_law_3271 rfl rfl ?_
  refine v_iload C dL_law_3272 rfl ?_
  refine v_iconst (v := 1) C dL_law_3274 (by decide) ?_
  refine v_iadd C dL_law_3275 ?_
  refine v_sld (k := 1) C hX hbl (hbA lo od) rfl (by omega) (by omega) dL_law_3276 ?_
  refine v_aload_n C dL_law_3277 rfl rfl ?_
  refine v_iload C dL_law_3278 rfl ?_
  refine v_iconst (v := 2) C dL_law_3280 (by decide) ?_
  refine v_iadd C dL_law_3281 ?_
  refine v_sld (k := 2) C hX hbl (hbA lo od) rfl (by omega) (by omega) dL_law_3282 ?_
  refine v_aload_n C dL_law_3283 rfl rfl ?_
  refine v_wcallS (y := yL_setNumber) (As := [.ref (ρ 13 0 0), .int (xs (6 * j + 1)), .int (xs (6 * j + 2)), .ref (ρ 15 0 0)]) (rest := []) C (cL_setNumber_ok hst hf hr) mlw_378 wwL_setNumber (by exact dpL_setNumber) ⟨Nat.le_of_ble_eq_true rfl, Nat.le_of_ble_eq_true rfl⟩ ⟨by show cells + 2 ≤ 601024; omega, by show slots + 12 ≤ 7293033; omega⟩ rfl (Nat.le_of_ble_eq_true rfl) dL_law_3284 ?_
  have C := hC (if r.1 = 0 then r.2.1.toInt64 else lo) od
  generalize hlo : (if r.1 = 0 then r.2.1.toInt64 else lo) = lo9 at C ⊢
  dsimp only
  rw [← ht]
  refine v_istore (lv' := [(6, .int (q.2 14 0 0 0)), (0, .ref b), (1, .ref (ρ 13 0 0)), (2, .ref (ρ 14 0 0)), (3, .ref (ρ 15 0 0)), (4, .ref (ρ 15 1 0)), (5, .int (nI (6 * j)))]) C dL_law_3287 (by decide) rfl ?_
  refine v_aload_n C dL_law_3289 rfl rfl ?_
  refine v_aload_n C dL_law_3290 rfl rfl ?_
  refine v_iload C dL_law_3291 rfl ?_
  refine v_iconst (v := 1) C dL_law_3293 (by decide) ?_
  refine v_iadd C dL_law_3294 ?_
  refine v_sld (k := 1) C hX hbl (hbA lo9 od) rfl (by omega) (by omega) dL_law_3295 ?_
  refine v_aload_n C dL_law_3296 rfl rfl ?_
  refine v_iload C dL_law_3297 rfl ?_
  refine v_iconst (v := 2) C dL_law_3299 (by decide) ?_
  refine v_iadd C dL_law_3300 ?_
  refine v_sld (k := 2) C hX hbl (hbA lo9 od) rfl (by omega) (by omega) dL_law_3301 ?_
  refine v_callVi (y := yX9_setNumber) (As := [.int (xs (6 * j + 1)), .int (xs (6 * j + 2))]) (rest := []) C (cX9_setNumber_ok hg) mlw_380 wyX9_setNumber bsm_X9 bsc_X9 rfl (by exact dpX9_setNumber) ⟨Nat.le_of_ble_eq_true rfl, Nat.le_of_ble_eq_true rfl⟩ ⟨rfl, rfl⟩ ⟨by show cells + 2 ≤ 601024; omega, by show slots + 12 ≤ 7293033; omega⟩ rfl (Nat.le_of_ble_eq_true rfl) dL_law_3302 ?_
  refine v_istore (lv' := [(7, .int q.1), (6, .int (q.2 14 0 0 0)), (0, .ref b), (1, .ref (ρ 13 0 0)), (2, .ref (ρ 14 0 0)), (3, .ref (ρ 15 0 0)), (4, .ref (ρ 15 1 0)), (5, .int (nI (6 * j)))]) C dL_law_3305 (by decide) rfl ?_
  refine v_aload_n C dL_law_3307 rfl rfl ?_
  refine v_callVi (y := yX9_thrown) (As := []) (rest := []) (z := (q.2 14 0 0 0, q.2)) C (cX9_thrown_ok rfl) mlw_205 wyX9_thrown bsm_X9 bsc_X9 rfl (by exact dpX9_thrown) ⟨Nat.le_of_ble_eq_true rfl, Nat.le_of_ble_eq_true rfl⟩ ⟨rfl, rfl⟩ ⟨by show cells + 2 ≤ 601024; omega, by show slots + 12 ≤ 7293033; omega⟩ rfl (Nat.le_of_ble_eq_true rfl) dL_law_3308 ?_
  refine v_iload C dL_law_3311 rfl ?_
  refine v_icmp_eq (tgt := 3318) C dL_law_3313 (by decide) (fun _ => ?_) (fun h => absurd rfl h)
  refine v_iload C dL_law_3318 rfl ?_
  refine v_if_ne (tgt := 3335) C dL_law_3320 (by decide) (fun _ => ?_) (fun h0 => ?_)
  · refine v_goto (tgt := 3507) C dL_law_3335 (by decide) ?_
    refine v_sub [2, 3, 4, 5, 6, 7] rfl ?_
    exact v_widen (by show cells + 2 ≤ cells + 9; omega) (by show slots + 12 ≤ slots + 54; omega) (kk q.2 lo9 od hI2)
  · have hr0 : r.1 = 0 := by
      rw [ht] at h0
      rcases hr with h1 | h1 | h1
      · exact h1
      · rw [h1] at h0; exact absurd h0 (by decide)
      · rw [h1] at h0; exact absurd h0 (by decide)
    have e0 := he hr0
    rw [if_pos hr0] at hlo
    refine v_aload_n C dL_law_3323 rfl rfl ?_
    refine v_iconst (v := 0) C dL_law_3324 (by decide) ?_
    refine v_lald C dL_law_3325 ?_
    refine v_iload C dL_law_3326 rfl ?_
    refine v_i2l C dL_law_3328 ?_
    refine v_lcmp C dL_law_3329 ?_
    rw [show bsLc lo9 q.1.toInt64 = 0 by rw [← hlo, e0]; exact bsLc_self _]
    refine v_if_eq (tgt := 3335) C dL_law_3330 (by decide) (fun _ => ?_) (fun h => absurd rfl h)
    refine v_goto (tgt := 3507) C dL_law_3335 (by decide) ?_
    refine v_sub [2, 3, 4, 5, 6, 7] rfl ?_
    exact v_widen (by show cells + 2 ≤ cells + 9; omega) (by show slots + 12 ≤ slots + 54; omega) (kk q.2 lo9 od hI2)
/-- what the pure part owes for undo -/
def sim_undo (I : Nat → bsX → Prop) : Prop := ∀ (j : Nat) (X : bsX), j < 512 → I j X → ∃ (r : bsXr) (q : Int32 × bsX), fX8_undo  X = some r ∧ (r.1 = 0 ∨ r.1 = 1) ∧ fX9_undo  r.2.2 = some q ∧ q.2 14 0 0 0 = (if r.1 = 1 then (1 : Int32) else (0 : Int32)) ∧ (r.1 = 0 → r.2.1 = q.1) ∧ I (j + 1) q.2
set_option maxHeartbeats 4000000 in
set_option maxRecDepth 100000 in
theorem law_57 {p : Program} {l : Launch} {e : Env} {s : State} {m : MethodId} {below : List Frame} {meth : Method} {c : Code} {ρ : bsR} {cA : Nat → ClassId} {dC : Nat → ClassId} {dI : Nat → Nat → Nat} {b L : Nat} {xs : Nat → Int32} {I : Nat → bsX → Prop} (H : sim_undo I) (LC : lawC p l s m meth c ρ cA dC dI b L xs) {j : Nat} (hj : 6 * j + 6 ≤ L) {cells slots : Nat} (hc1 : cells + 9 ≤ 601024) (hc2 : slots + 54 ≤ 7293033) {X : bsX} {lo : Int64} {od : UInt64} (hI : I j X) (kk : ∀ (X : bsX) (lo : Int64) (od : UInt64), I (j + 1) X → lawV p l e s m below meth c ρ cA dC dI b (cells + 9) (slots + 54) 3507 [(0, .ref b), (1, .ref (ρ 13 0 0)), (2, .ref (ρ 14 0 0)), (3, .ref (ρ 15 0 0)), (4, .ref (ρ 15 1 0)), (5, .int (nI (6 * j)))] [] X lo od) : lawV p l e s m below meth c ρ cA dC dI b cells slots 3338 [(0, .ref b), (1, .ref (ρ 13 0 0)), (2, .ref (ρ 14 0 0)), (3, .ref (ρ 15 0 0)), (4, .ref (ρ 15 1 0)), (5, .int (nI (6 * j)))] [] X lo od := by
  have hL9 : L ≤ 3072 := LC.2.2.2.2.1
  obtain ⟨hC, hX, hbl, hbA, hL, hst, hfr⟩ := LC
  have C := hC lo od
  obtain ⟨r, q, hf, hr, hg, ht, he, hI2⟩ := H j X  (by omega) hI
  refine v_aload_n C dL_law_3338 rfl rfl ?_
  refine v_aload_n C dL_law_3339 rfl rfl ?_
  refine v_wcallS (y := yL_undo) (As := [.ref (ρ 13 0 0), .ref (ρ 15 0 0)]) (rest := []) C (cL_undo_ok hst hf hr) mlw_381 wwL_undo (by exact dpL_undo) ⟨Nat.le_of_ble_eq_true rfl, Nat.le_of_ble_eq_true rfl⟩ ⟨by show cells + 1 ≤ 601024; omega, by show slots + 6 ≤ 7293033; omega⟩ rfl (Nat.le_of_ble_eq_true rfl) dL_law_3340 ?_
  have C := hC (if r.1 = 0 then r.2.1.toInt64 else lo) od
  generalize hlo : (if r.1 = 0 then r.2.1.toInt64 else lo) = lo9 at C ⊢
  dsimp only
  rw [← ht]
  refine v_istore (lv' := [(6, .int (q.2 14 0 0 0)), (0, .ref b), (1, .ref (ρ 13 0 0)), (2, .ref (ρ 14 0 0)), (3, .ref (ρ 15 0 0)), (4, .ref (ρ 15 1 0)), (5, .int (nI (6 * j)))]) C dL_law_3343 (by decide) rfl ?_
  refine v_aload_n C dL_law_3345 rfl rfl ?_
  refine v_callVi (y := yX9_undo) (As := []) (rest := []) C (cX9_undo_ok hg) mlw_383 wyX9_undo bsm_X9 bsc_X9 rfl (by exact dpX9_undo) ⟨Nat.le_of_ble_eq_true rfl, Nat.le_of_ble_eq_true rfl⟩ ⟨rfl, rfl⟩ ⟨by show cells + 1 ≤ 601024; omega, by show slots + 6 ≤ 7293033; omega⟩ rfl (Nat.le_of_ble_eq_true rfl) dL_law_3346 ?_
  refine v_istore (lv' := [(7, .int q.1), (6, .int (q.2 14 0 0 0)), (0, .ref b), (1, .ref (ρ 13 0 0)), (2, .ref (ρ 14 0 0)), (3, .ref (ρ 15 0 0)), (4, .ref (ρ 15 1 0)), (5, .int (nI (6 * j)))]) C dL_law_3349 (by decide) rfl ?_
  refine v_aload_n C dL_law_3351 rfl rfl ?_
  refine v_callVi (y := yX9_thrown) (As := []) (rest := []) (z := (q.2 14 0 0 0, q.2)) C (cX9_thrown_ok rfl) mlw_205 wyX9_thrown bsm_X9 bsc_X9 rfl (by exact dpX9_thrown) ⟨Nat.le_of_ble_eq_true rfl, Nat.le_of_ble_eq_true rfl⟩ ⟨rfl, rfl⟩ ⟨by show cells + 1 ≤ 601024; omega, by show slots + 6 ≤ 7293033; omega⟩ rfl (Nat.le_of_ble_eq_true rfl) dL_law_3352 ?_
  refine v_iload C dL_law_3355 rfl ?_
  refine v_icmp_eq (tgt := 3362) C dL_law_3357 (by decide) (fun _ => ?_) (fun h => absurd rfl h)
  refine v_iload C dL_law_3362 rfl ?_
  refine v_if_ne (tgt := 3379) C dL_law_3364 (by decide) (fun _ => ?_) (fun h0 => ?_)
  · refine v_goto (tgt := 3507) C dL_law_3379 (by decide) ?_
    refine v_sub [2, 3, 4, 5, 6, 7] rfl ?_
    exact v_widen (by show cells + 1 ≤ cells + 9; omega) (by show slots + 6 ≤ slots + 54; omega) (kk q.2 lo9 od hI2)
  · have hr0 : r.1 = 0 := by
      rw [ht] at h0
      rcases hr with h1 | h1
      · exact h1
      · rw [h1] at h0; exact absurd h0 (by decide)
    have e0 := he hr0
    rw [if_pos hr0] at hlo
    refine v_aload_n C dL_law_3367 rfl rfl ?_
    refine v_iconst (v := 0) C dL_law_3368 (by decide) ?_
    refine v_lald C dL_law_3369 ?_
    refine v_iload C dL_law_3370 rfl ?_
    refine v_i2l C dL_law_3372 ?_
    refine v_lcmp C dL_law_3373 ?_
    rw [show bsLc lo9 q.1.toInt64 = 0 by rw [← hlo, e0]; exact bsLc_self _]
    refine v_if_eq (tgt := 3379) C dL_law_3374 (by decide) (fun _ => ?_) (fun h => absurd rfl h)
    refine v_goto (tgt := 3507) C dL_law_3379 (by decide) ?_
    refine v_sub [2, 3, 4, 5, 6, 7] rfl ?_
    exact v_widen (by show cells + 1 ≤ cells + 9; omega) (by show slots + 6 ≤ slots + 54; omega) (kk q.2 lo9 od hI2)
/-- what the pure part owes for undoable -/
def sim_undoable (I : Nat → bsX → Prop) : Prop := ∀ (j : Nat) (X : bsX), j < 512 → I j X → ∃ (r q : Int32 × bsX), fX8_undoable  X = some r ∧ fX9_undoable  r.2 = some q ∧ r.1 = q.1 ∧ I (j + 1) q.2
set_option maxHeartbeats 4000000 in
set_option maxRecDepth 100000 in
theorem law_58 {p : Program} {l : Launch} {e : Env} {s : State} {m : MethodId} {below : List Frame} {meth : Method} {c : Code} {ρ : bsR} {cA : Nat → ClassId} {dC : Nat → ClassId} {dI : Nat → Nat → Nat} {b L : Nat} {xs : Nat → Int32} {I : Nat → bsX → Prop} (H : sim_undoable I) (LC : lawC p l s m meth c ρ cA dC dI b L xs) {j : Nat} (hj : 6 * j + 6 ≤ L) {cells slots : Nat} (hc1 : cells + 9 ≤ 601024) (hc2 : slots + 54 ≤ 7293033) {X : bsX} {lo : Int64} {od : UInt64} (hI : I j X) (kk : ∀ (X : bsX) (lo : Int64) (od : UInt64), I (j + 1) X → lawV p l e s m below meth c ρ cA dC dI b (cells + 9) (slots + 54) 3507 [(0, .ref b), (1, .ref (ρ 13 0 0)), (2, .ref (ρ 14 0 0)), (3, .ref (ρ 15 0 0)), (4, .ref (ρ 15 1 0)), (5, .int (nI (6 * j)))] [] X lo od) : lawV p l e s m below meth c ρ cA dC dI b cells slots 3382 [(0, .ref b), (1, .ref (ρ 13 0 0)), (2, .ref (ρ 14 0 0)), (3, .ref (ρ 15 0 0)), (4, .ref (ρ 15 1 0)), (5, .int (nI (6 * j)))] [] X lo od := by
  have hL9 : L ≤ 3072 := LC.2.2.2.2.1
  obtain ⟨hC, hX, hbl, hbA, hL, hst, hfr⟩ := LC
  have C := hC lo od
  obtain ⟨r, q, hf, hg, he, hI2⟩ := H j X  (by omega) hI
  refine v_aload_n C dL_law_3382 rfl rfl ?_
  refine v_callVi (y := yX8_undoable) (As := []) (rest := []) C (cX8_undoable_ok hf) mlw_384 wyX8_undoable bsm_X8 bsc_X8 rfl (by exact dpX8_undoable) ⟨Nat.le_of_ble_eq_true rfl, Nat.le_of_ble_eq_true rfl⟩ ⟨rfl, rfl⟩ ⟨by show cells ≤ 601024; omega, by show slots ≤ 7293033; omega⟩ rfl (Nat.le_of_ble_eq_true rfl) dL_law_3383 ?_
  refine v_aload_n C dL_law_3386 rfl rfl ?_
  refine v_callVi (y := yX9_undoable) (As := []) (rest := [.int r.1]) C (cX9_undoable_ok hg) mlw_387 wyX9_undoable bsm_X9 bsc_X9 rfl (by exact dpX9_undoable) ⟨Nat.le_of_ble_eq_true rfl, Nat.le_of_ble_eq_true rfl⟩ ⟨rfl, rfl⟩ ⟨by show cells ≤ 601024; omega, by show slots ≤ 7293033; omega⟩ rfl (Nat.le_of_ble_eq_true rfl) dL_law_3387 ?_
  refine v_icmp_eq (tgt := 3507) C dL_law_3390 (by decide) (fun _ => ?_) (fun h => absurd he h)
  exact v_widen (by show cells ≤ cells + 9; omega) (by show slots ≤ slots + 54; omega) (kk q.2 lo od hI2)
/-- what the pure part owes for save -/
def sim_save (I : Nat → bsX → Prop) : Prop := ∀ (j : Nat) (X : bsX) (a1 : Int32), j < 512 → I j X → ∃ (r : bsXr) (q : Int32 × bsX), fX8_save a1 X = some r ∧ (r.1 = 0 ∨ r.1 = 1 ∨ r.1 = 2) ∧ fX9_save a1 r.2.2 = some q ∧ q.2 14 0 0 0 = (if r.1 = 1 then (1 : Int32) else (if r.1 = 2 then (2 : Int32) else (0 : Int32))) ∧ (r.1 = 0 → r.2.1 = q.1) ∧ I (j + 1) q.2
set_option maxHeartbeats 4000000 in
set_option maxRecDepth 100000 in
theorem law_59 {p : Program} {l : Launch} {e : Env} {s : State} {m : MethodId} {below : List Frame} {meth : Method} {c : Code} {ρ : bsR} {cA : Nat → ClassId} {dC : Nat → ClassId} {dI : Nat → Nat → Nat} {b L : Nat} {xs : Nat → Int32} {I : Nat → bsX → Prop} (H : sim_save I) (LC : lawC p l s m meth c ρ cA dC dI b L xs) {j : Nat} (hj : 6 * j + 6 ≤ L) {cells slots : Nat} (hc1 : cells + 9 ≤ 601024) (hc2 : slots + 54 ≤ 7293033) {X : bsX} {lo : Int64} {od : UInt64} (hI : I j X) (kk : ∀ (X : bsX) (lo : Int64) (od : UInt64), I (j + 1) X → lawV p l e s m below meth c ρ cA dC dI b (cells + 9) (slots + 54) 3507 [(0, .ref b), (1, .ref (ρ 13 0 0)), (2, .ref (ρ 14 0 0)), (3, .ref (ρ 15 0 0)), (4, .ref (ρ 15 1 0)), (5, .int (nI (6 * j)))] [] X lo od) : lawV p l e s m below meth c ρ cA dC dI b cells slots 3395 [(0, .ref b), (1, .ref (ρ 13 0 0)), (2, .ref (ρ 14 0 0)), (3, .ref (ρ 15 0 0)), (4, .ref (ρ 15 1 0)), (5, .int (nI (6 * j)))] [] X lo od := by
  have hL9 : L ≤ 3072 := LC.2.2.2.2.1
  obtain ⟨hC, hX, hbl, hbA, hL, hst, hfr⟩ := LC
  have C := hC lo od
  obtain ⟨r, q, hf, hr, hg, ht, he, hI2⟩ := H j X (xs (6 * j + 1)) (by omega) hI
  refine v_aload_n C dL_law_3395 rfl rfl ?_
  refine v_aload_n C dL_law_3396 rfl rfl ?_
  refine v_iload C dL_law_3397 rfl ?_
  refine v_iconst (v := 1) C dL_law_3399 (by decide) ?_
  refine v_iadd C dL_law_3400 ?_
  refine v_sld (k := 1) C hX hbl (hbA lo od) rfl (by omega) (by omega) dL_law_3401 ?_
  refine v_aload_n C dL_law_3402 rfl rfl ?_
  refine v_wcallS (y := yL_save) (As := [.ref (ρ 13 0 0), .int (xs (6 * j + 1)), .ref (ρ 15 0 0)]) (rest := []) C (cL_save_ok hst hf hr) mlw_388 wwL_save (by exact dpL_save) ⟨Nat.le_of_ble_eq_true rfl, Nat.le_of_ble_eq_true rfl⟩ ⟨by show cells + 2 ≤ 601024; omega, by show slots + 12 ≤ 7293033; omega⟩ rfl (Nat.le_of_ble_eq_true rfl) dL_law_3403 ?_
  have C := hC (if r.1 = 0 then r.2.1.toInt64 else lo) od
  generalize hlo : (if r.1 = 0 then r.2.1.toInt64 else lo) = lo9 at C ⊢
  dsimp only
  rw [← ht]
  refine v_istore (lv' := [(6, .int (q.2 14 0 0 0)), (0, .ref b), (1, .ref (ρ 13 0 0)), (2, .ref (ρ 14 0 0)), (3, .ref (ρ 15 0 0)), (4, .ref (ρ 15 1 0)), (5, .int (nI (6 * j)))]) C dL_law_3406 (by decide) rfl ?_
  refine v_aload_n C dL_law_3408 rfl rfl ?_
  refine v_aload_n C dL_law_3409 rfl rfl ?_
  refine v_iload C dL_law_3410 rfl ?_
  refine v_iconst (v := 1) C dL_law_3412 (by decide) ?_
  refine v_iadd C dL_law_3413 ?_
  refine v_sld (k := 1) C hX hbl (hbA lo9 od) rfl (by omega) (by omega) dL_law_3414 ?_
  refine v_callVi (y := yX9_save) (As := [.int (xs (6 * j + 1))]) (rest := []) C (cX9_save_ok hg) mlw_390 wyX9_save bsm_X9 bsc_X9 rfl (by exact dpX9_save) ⟨Nat.le_of_ble_eq_true rfl, Nat.le_of_ble_eq_true rfl⟩ ⟨rfl, rfl⟩ ⟨by show cells + 2 ≤ 601024; omega, by show slots + 12 ≤ 7293033; omega⟩ rfl (Nat.le_of_ble_eq_true rfl) dL_law_3415 ?_
  refine v_istore (lv' := [(7, .int q.1), (6, .int (q.2 14 0 0 0)), (0, .ref b), (1, .ref (ρ 13 0 0)), (2, .ref (ρ 14 0 0)), (3, .ref (ρ 15 0 0)), (4, .ref (ρ 15 1 0)), (5, .int (nI (6 * j)))]) C dL_law_3418 (by decide) rfl ?_
  refine v_aload_n C dL_law_3420 rfl rfl ?_
  refine v_callVi (y := yX9_thrown) (As := []) (rest := []) (z := (q.2 14 0 0 0, q.2)) C (cX9_thrown_ok rfl) mlw_205 wyX9_thrown bsm_X9 bsc_X9 rfl (by exact dpX9_thrown) ⟨Nat.le_of_ble_eq_true rfl, Nat.le_of_ble_eq_true rfl⟩ ⟨rfl, rfl⟩ ⟨by show cells + 2 ≤ 601024; omega, by show slots + 12 ≤ 7293033; omega⟩ rfl (Nat.le_of_ble_eq_true rfl) dL_law_3421 ?_
  refine v_iload C dL_law_3424 rfl ?_
  refine v_icmp_eq (tgt := 3431) C dL_law_3426 (by decide) (fun _ => ?_) (fun h => absurd rfl h)
  refine v_iload C dL_law_3431 rfl ?_
  refine v_if_ne (tgt := 3448) C dL_law_3433 (by decide) (fun _ => ?_) (fun h0 => ?_)
  · refine v_goto (tgt := 3507) C dL_law_3448 (by decide) ?_
    refine v_sub [2, 3, 4, 5, 6, 7] rfl ?_
    exact v_widen (by show cells + 2 ≤ cells + 9; omega) (by show slots + 12 ≤ slots + 54; omega) (kk q.2 lo9 od hI2)
  · have hr0 : r.1 = 0 := by
      rw [ht] at h0
      rcases hr with h1 | h1 | h1
      · exact h1
      · rw [h1] at h0; exact absurd h0 (by decide)
      · rw [h1] at h0; exact absurd h0 (by decide)
    have e0 := he hr0
    rw [if_pos hr0] at hlo
    refine v_aload_n C dL_law_3436 rfl rfl ?_
    refine v_iconst (v := 0) C dL_law_3437 (by decide) ?_
    refine v_lald C dL_law_3438 ?_
    refine v_iload C dL_law_3439 rfl ?_
    refine v_i2l C dL_law_3441 ?_
    refine v_lcmp C dL_law_3442 ?_
    rw [show bsLc lo9 q.1.toInt64 = 0 by rw [← hlo, e0]; exact bsLc_self _]
    refine v_if_eq (tgt := 3448) C dL_law_3443 (by decide) (fun _ => ?_) (fun h => absurd rfl h)
    refine v_goto (tgt := 3507) C dL_law_3448 (by decide) ?_
    refine v_sub [2, 3, 4, 5, 6, 7] rfl ?_
    exact v_widen (by show cells + 2 ≤ cells + 9; omega) (by show slots + 12 ≤ slots + 54; omega) (kk q.2 lo9 od hI2)
/-- what the pure part owes for restore -/
def sim_restore (I : Nat → bsX → Prop) : Prop := ∀ (j : Nat) (X : bsX) (a1 : Int32), j < 512 → I j X → ∃ (r : bsXr) (q : Int32 × bsX), fX8_restore a1 X = some r ∧ (r.1 = 0 ∨ r.1 = 2 ∨ r.1 = 1) ∧ fX9_restore a1 r.2.2 = some q ∧ q.2 14 0 0 0 = (if r.1 = 2 then (1 : Int32) else (if r.1 = 1 then (2 : Int32) else (0 : Int32))) ∧ (r.1 = 0 → r.2.1 = q.1) ∧ I (j + 1) q.2
set_option maxHeartbeats 4000000 in
set_option maxRecDepth 100000 in
theorem law_60 {p : Program} {l : Launch} {e : Env} {s : State} {m : MethodId} {below : List Frame} {meth : Method} {c : Code} {ρ : bsR} {cA : Nat → ClassId} {dC : Nat → ClassId} {dI : Nat → Nat → Nat} {b L : Nat} {xs : Nat → Int32} {I : Nat → bsX → Prop} (H : sim_restore I) (LC : lawC p l s m meth c ρ cA dC dI b L xs) {j : Nat} (hj : 6 * j + 6 ≤ L) {cells slots : Nat} (hc1 : cells + 9 ≤ 601024) (hc2 : slots + 54 ≤ 7293033) {X : bsX} {lo : Int64} {od : UInt64} (hI : I j X) (kk : ∀ (X : bsX) (lo : Int64) (od : UInt64), I (j + 1) X → lawV p l e s m below meth c ρ cA dC dI b (cells + 9) (slots + 54) 3507 [(0, .ref b), (1, .ref (ρ 13 0 0)), (2, .ref (ρ 14 0 0)), (3, .ref (ρ 15 0 0)), (4, .ref (ρ 15 1 0)), (5, .int (nI (6 * j)))] [] X lo od) : lawV p l e s m below meth c ρ cA dC dI b cells slots 3451 [(0, .ref b), (1, .ref (ρ 13 0 0)), (2, .ref (ρ 14 0 0)), (3, .ref (ρ 15 0 0)), (4, .ref (ρ 15 1 0)), (5, .int (nI (6 * j)))] [] X lo od := by
  have hL9 : L ≤ 3072 := LC.2.2.2.2.1
  obtain ⟨hC, hX, hbl, hbA, hL, hst, hfr⟩ := LC
  have C := hC lo od
  obtain ⟨r, q, hf, hr, hg, ht, he, hI2⟩ := H j X (xs (6 * j + 1)) (by omega) hI
  refine v_aload_n C dL_law_3451 rfl rfl ?_
  refine v_aload_n C dL_law_3452 rfl rfl ?_
  refine v_iload C dL_law_3453 rfl ?_
  refine v_iconst (v := 1) C dL_law_3455 (by decide) ?_
  refine v_iadd C dL_law_3456 ?_
  refine v_sld (k := 1) C hX hbl (hbA lo od) rfl (by omega) (by omega) dL_law_3457 ?_
  refine v_aload_n C dL_law_3458 rfl rfl ?_
  refine v_wcallS (y := yL_restore) (As := [.ref (ρ 13 0 0), .int (xs (6 * j + 1)), .ref (ρ 15 0 0)]) (rest := []) C (cL_restore_ok hst hf hr) mlw_391 wwL_restore (by exact dpL_restore) ⟨Nat.le_of_ble_eq_true rfl, Nat.le_of_ble_eq_true rfl⟩ ⟨by show cells + 1 ≤ 601024; omega, by show slots + 6 ≤ 7293033; omega⟩ rfl (Nat.le_of_ble_eq_true rfl) dL_law_3459 ?_
  have C := hC (if r.1 = 0 then r.2.1.toInt64 else lo) od
  generalize hlo : (if r.1 = 0 then r.2.1.toInt64 else lo) = lo9 at C ⊢
  dsimp only
  rw [← ht]
  refine v_istore (lv' := [(6, .int (q.2 14 0 0 0)), (0, .ref b), (1, .ref (ρ 13 0 0)), (2, .ref (ρ 14 0 0)), (3, .ref (ρ 15 0 0)), (4, .ref (ρ 15 1 0)), (5, .int (nI (6 * j)))]) C dL_law_3462 (by decide) rfl ?_
  refine v_aload_n C dL_law_3464 rfl rfl ?_
  refine v_aload_n C dL_law_3465 rfl rfl ?_
  refine v_iload C dL_law_3466 rfl ?_
  refine v_iconst (v := 1) C dL_law_3468 (by decide) ?_
  refine v_iadd C dL_law_3469 ?_
  refine v_sld (k := 1) C hX hbl (hbA lo9 od) rfl (by omega) (by omega) dL_law_3470 ?_
  refine v_callVi (y := yX9_restore) (As := [.int (xs (6 * j + 1))]) (rest := []) C (cX9_restore_ok hg) mlw_393 wyX9_restore bsm_X9 bsc_X9 rfl (by exact dpX9_restore) ⟨Nat.le_of_ble_eq_true rfl, Nat.le_of_ble_eq_true rfl⟩ ⟨rfl, rfl⟩ ⟨by show cells + 1 ≤ 601024; omega, by show slots + 6 ≤ 7293033; omega⟩ rfl (Nat.le_of_ble_eq_true rfl) dL_law_3471 ?_
  refine v_istore (lv' := [(7, .int q.1), (6, .int (q.2 14 0 0 0)), (0, .ref b), (1, .ref (ρ 13 0 0)), (2, .ref (ρ 14 0 0)), (3, .ref (ρ 15 0 0)), (4, .ref (ρ 15 1 0)), (5, .int (nI (6 * j)))]) C dL_law_3474 (by decide) rfl ?_
  refine v_aload_n C dL_law_3476 rfl rfl ?_
  refine v_callVi (y := yX9_thrown) (As := []) (rest := []) (z := (q.2 14 0 0 0, q.2)) C (cX9_thrown_ok rfl) mlw_205 wyX9_thrown bsm_X9 bsc_X9 rfl (by exact dpX9_thrown) ⟨Nat.le_of_ble_eq_true rfl, Nat.le_of_ble_eq_true rfl⟩ ⟨rfl, rfl⟩ ⟨by show cells + 1 ≤ 601024; omega, by show slots + 6 ≤ 7293033; omega⟩ rfl (Nat.le_of_ble_eq_true rfl) dL_law_3477 ?_
  refine v_iload C dL_law_3480 rfl ?_
  refine v_icmp_eq (tgt := 3487) C dL_law_3482 (by decide) (fun _ => ?_) (fun h => absurd rfl h)
  refine v_iload C dL_law_3487 rfl ?_
  refine v_if_ne (tgt := 3504) C dL_law_3489 (by decide) (fun _ => ?_) (fun h0 => ?_)
  · refine v_goto (tgt := 3507) C dL_law_3504 (by decide) ?_
    refine v_sub [2, 3, 4, 5, 6, 7] rfl ?_
    exact v_widen (by show cells + 1 ≤ cells + 9; omega) (by show slots + 6 ≤ slots + 54; omega) (kk q.2 lo9 od hI2)
  · have hr0 : r.1 = 0 := by
      rw [ht] at h0
      rcases hr with h1 | h1 | h1
      · exact h1
      · rw [h1] at h0; exact absurd h0 (by decide)
      · rw [h1] at h0; exact absurd h0 (by decide)
    have e0 := he hr0
    rw [if_pos hr0] at hlo
    refine v_aload_n C dL_law_3492 rfl rfl ?_
    refine v_iconst (v := 0) C dL_law_3493 (by decide) ?_
    refine v_lald C dL_law_3494 ?_
    refine v_iload C dL_law_3495 rfl ?_
    refine v_i2l C dL_law_3497 ?_
    refine v_lcmp C dL_law_3498 ?_
    rw [show bsLc lo9 q.1.toInt64 = 0 by rw [← hlo, e0]; exact bsLc_self _]
    refine v_if_eq (tgt := 3504) C dL_law_3499 (by decide) (fun _ => ?_) (fun h => absurd rfl h)
    refine v_goto (tgt := 3507) C dL_law_3504 (by decide) ?_
    refine v_sub [2, 3, 4, 5, 6, 7] rfl ?_
    exact v_widen (by show cells + 1 ≤ cells + 9; omega) (by show slots + 6 ≤ slots + 54; omega) (kk q.2 lo9 od hI2)
