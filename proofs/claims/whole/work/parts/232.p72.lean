/-! ALL LINES; THE FIRST LINE -/
def PJ (X W : bsX) (ep : Int32) (C D : Option bsX) : Prop :=
  (∃ kd ts te n Y mk m te' ts' kr nm, C = some (cst X kd ts te 0 ep mk Y) ∧ D = some (rst W te' ts' kr nm 0 ep (nI m) (enc Y)) ∧ MR n Y ∧ 1 ≤ n) ∨
  (∃ c p kd q r' mk Y te ts kr nm mr R, c ≠ 0 ∧ r160 R ∧ C = some (cst X kd q r' c p mk Y) ∧ D = some (rst W te ts kr nm c p mr R))
theorem e_95 {X : bsX} {kd ts te er ep : Int32} {mk : Nat → Int32} {Y : pY} (he : er ≠ 0) : fX4_parse_95 1 (cst X kd ts te er ep mk Y) = some (cst X kd ts te er ep mk Y) := by
  unfold fX4_parse_95
  rw [fail_c1 he, Option.bind_some, ite_self]
theorem e_151 {W : bsX} {te ts kd nm er ep mr y : Int32} {R : Nat → Int32} (he : er ≠ 0) : fX9_reads_151 y (rst W te ts kd nm er ep mr R) = some (rst W te ts kd nm er ep mr R) := by
  unfold fX9_reads_151
  rw [e_if he, Option.bind_some]
theorem e_132 {W : bsX} {te ts kd nm er ep mr y : Int32} {R : Nat → Int32} (he : er ≠ 0) : fX9_reads_132 y (rst W te ts kd nm er ep mr R) = some (rst W te ts kd nm er ep mr R) := by
  unfold fX9_reads_132
  rw [e_if he, Option.bind_some, if_pos (show bsIn (0 : Int32) 160 by decide), e_151 he, e_151 he, ite_self]
theorem e_119 {W : bsX} {te ts kd nm er ep mr : Int32} {R : Nat → Int32} (he : er ≠ 0) : fX9_reads_119 (rst W te ts kd nm er ep mr R) = some (rst W te ts kd nm er ep mr R) := by
  unfold fX9_reads_119
  rw [e_132 he, e_132 he, ite_self]
theorem e_93 {W : bsX} {te ts kd nm er ep mr : Int32} {R : Nat → Int32} {g : Nat} (he : er ≠ 0) : fX9_reads_93 (g + 1) (rst W te ts kd nm er ep mr R) = some (rst W te ts kd nm er ep mr R) := by
  rw [fX9_reads_93, r15, if_neg he]
  exact e_119 he
theorem e_65 {X : bsX} {kd ts te er ep a b : Int32} {mk : Nat → Int32} {Y : pY} {f : Nat} (he : er ≠ 0) : fX4_parse_65 1 (f + 1) a b (cst X kd ts te er ep mk Y) = some (cst X kd ts te er ep mk Y) := by
  rw [fX4_parse_65, c8, if_neg he, e_95 he, ite_self]
theorem end_ex {X W : bsX} {q r n m : Nat} {nm ep : Int32} {mk : Nat → Int32} {Y : pY} (hM : MR n Y) (hK : MK mk m) :
    PJ X W ep (fX4_parse_95 1 (cst X 0 (nI q) (nI r) 0 ep mk Y)) (fX9_reads_119 (rst W (nI r) (nI q) 0 nm 0 ep (nI m) (enc Y))) := by
  have c60 : ¬ (6 : Int32) = 0 := by decide
  have h6 := hM.1.hn
  have hsz : Y 0 0 4 = nI n := hM.1.sz
  have row0' : rst W (nI r) (nI q) 0 nm 0 ep (nI m) (enc Y) 14 1 0 0 = nI n := by rw [rR]; exact hsz
  unfold fX4_parse_95 fX9_reads_119 fX9_reads_132 fX9_reads_151
  rw [cY, hsz, r13, if_pos rfl, if_0, Option.bind_some, if_pos (show bsIn (0 : Int32) 160 by decide), bx_0, row0', if_1, if_0]
  by_cases h : n = 0
  · rw [if_pos (show nI n = (0 : Int32) by rw [h]; rfl), if_pos (show nI n = (0 : Int32) by rw [h]; rfl), fail_c0]
    right
    exact ⟨6, nI q, 0, nI q, nI r, mk, Y, nI r, nI q, 0, nm, nI m, enc Y, c60, enc_160 _, rfl, rfl⟩
  · rw [if_neg (show ¬ nI n = (0 : Int32) from fun z => h ((pu_eq n 0 (by decide) (by omega)).mp z)), if_neg (show ¬ nI n = (0 : Int32) from fun z => h ((pu_eq n 0 (by decide) (by omega)).mp z))]
    left
    exact ⟨0, nI q, nI r, n, Y, mk, m, nI r, nI q, 0, nm, rfl, rfl, hM, by omega⟩
theorem loop_ex {X W : bsX} {e : Nat} {ep : Int32} (hX : PX X e) (hW : PW X W e) : ∀ (d line f g q r n m : Nat) (kd kr nm : Int32) (mk : Nat → Int32) (Y : pY), Tk X e kd kr q r nm → MR n Y → MK mk m → (kd ≠ 0 → e - r < d) → (kd ≠ 0 → line < r) → d + 2 ≤ f → d + 2 ≤ g → line < 2000 →
    PJ X W ep (fX4_parse_65 1 f (nI e) (nI line) (cst X kd (nI q) (nI r) 0 ep mk Y)) (fX9_reads_93 g (rst W (nI r) (nI q) kr nm 0 ep (nI m) (enc Y))) := by
  have he := hX.2
  have c10 : ¬ (1 : Int32) = 0 := by decide
  intro d
  induction d with
  | zero =>
    intro line f g q r n m kd kr nm mk Y hT hM hK h1 h2 hf hg hl
    obtain ⟨f, rfl⟩ : ∃ z, f = z + 1 := ⟨f - 1, by omega⟩
    obtain ⟨g, rfl⟩ : ∃ z, g = z + 1 := ⟨g - 1, by omega⟩
    have h0 : kd = 0 := by
      by_cases z : kd = 0
      · exact z
      · exact absurd (h1 z) (by omega)
    have k0 : kr = 0 := (tkR_1 hT.2.2.1).2.2.2.mpr h0
    subst h0
    subst k0
    rw [fX4_parse_65, c8, if_pos rfl, c5, if_pos rfl, ite_self, fX9_reads_93, r15, if_pos rfl, r13, if_neg (by decide)]
    exact end_ex hM hK
  | succ d ih =>
    intro line f g q r n m kd kr nm mk Y hT hM hK h1 h2 hf hg hl
    obtain ⟨f, rfl⟩ : ∃ z, f = z + 1 := ⟨f - 1, by omega⟩
    obtain ⟨g, rfl⟩ : ∃ z, g = z + 1 := ⟨g - 1, by omega⟩
    by_cases h0 : kd = 0
    · have k0 : kr = 0 := (tkR_1 hT.2.2.1).2.2.2.mpr h0
      subst h0
      subst k0
      rw [fX4_parse_65, c8, if_pos rfl, c5, if_pos rfl, ite_self, fX9_reads_93, r15, if_pos rfl, r13, if_neg (by decide)]
      exact end_ex hM hK
    · have hle : ¬ nI e ≤ nI line := fun z => by
        have := (pu_le e line (by omega) (by omega)).mp z
        have := h2 h0
        have := hT.2.1
        omega
      obtain ⟨f, rfl⟩ : ∃ z, f = z + 1 := ⟨f - 1, by omega⟩
      obtain ⟨g, rfl⟩ : ∃ z, g = z + 1 := ⟨g - 1, by omega⟩
      rw [fX4_parse_65, if_neg hle, c8, if_pos rfl, c5, if_neg h0, fX9_reads_93, r15, if_pos rfl, r13]
      by_cases h4 : kd = 4
      · subst h4
        have k3 : kr = 3 := (tkR_1 hT.2.2.1).2.2.1.mpr rfl
        rw [if_pos k3, ← Option.bind_assoc]
        rcases line_ex (ep := ep) hX hW hT hM hK with ⟨kd1, kr1, q1, r1, nm1, n1, Y1, mk1, m1, s1, s2, s3, s4, s5, s6⟩ | ⟨c, p, kd1, q1, r1, mk1, Y1, te1, ts1, kr1, nm1, mr1, R1, k0, rr, s1, s2⟩
        · rw [s1, s2, Option.bind_some, Option.bind_some, pu_succ]
          have hlr := h2 h0
          have hed := h1 h0
          have hr1e := s3.2.1
          exact ih (line + 1) (f + 1) (g + 1) q1 r1 n1 m1 kd1 kr1 nm1 mk1 Y1 s3 s4 s5 (fun z => by have := s3.2.2.2.1 z; omega) (fun z => by have := s3.2.2.2.1 z; omega) (by omega) (by omega) (by have := hT.2.1; omega)
        · rw [s1, s2, Option.bind_some, Option.bind_some, e_65 k0, e_93 k0]
          right
          exact ⟨c, p, kd1, q1, r1, mk1, Y1, te1, ts1, kr1, nm1, mr1, R1, k0, rr, rfl, rfl⟩
      · have k3 : ¬ kr = 3 := fun z => h4 ((tkR_1 hT.2.2.1).2.2.1.mp z)
        have k0 : ¬ kr = 0 := fun z => h0 ((tkR_1 hT.2.2.1).2.2.2.mp z)
        have hrl : fX4_readLine 1 (cst X kd (nI q) (nI r) 0 ep mk Y) = some (cst X kd (nI q) (nI r) 1 (nI q) mk Y) := by
          unfold fX4_readLine
          rw [c5, if_neg h4, fail_c0, Option.bind_some]
        have h119 : fX9_reads_119 (rst W (nI r) (nI q) kr nm 0 ep (nI m) (enc Y)) = some (rst W (nI r) (nI q) kr nm 1 (nI q) (nI m) (enc Y)) := by
          unfold fX9_reads_119 fX9_reads_132
          rw [r13, if_neg k0, if_1, Option.bind_some, if_pos (show bsIn (0 : Int32) 160 by decide), e_151 c10, e_151 c10, ite_self]
        rw [hrl, Option.bind_some, e_65 c10, if_neg k3, h119]
        right
        exact ⟨1, nI q, kd, nI q, nI r, mk, Y, nI r, nI q, kr, nm, nI m, enc Y, c10, enc_160 _, rfl, rfl⟩
/-! the first line -/
def fl3 (X : bsX) : Option bsX := (fX4_takeNumber (0 : Int32) (99 : Int32) X).bind fun r9 => some (bsWr r9.2 1 0 0 8 r9.1)
def fl2 (X : bsX) : Option bsX := (fX4_takeNumber (0 : Int32) (7 : Int32) X).bind fun r7 => fl3 (bsWr r7.2 1 0 0 7 r7.1)
def fl1 (X : bsX) : Option bsX := (fX4_takeNumber (1 : Int32) (9 : Int32) X).bind fun r5 => fl2 (bsWr r5.2 1 0 0 6 r5.1)
def fl0 (X : bsX) : Option bsX := (fX4_takeNumber (1 : Int32) (99 : Int32) X).bind fun r3 => fl1 (bsWr r3.2 1 0 0 5 r3.1)
theorem fl14 (X : bsX) : fX4_readFirstLine_14 1 X = (fX4_readToken X).bind fun r1 => fl0 r1 := rfl
theorem e_fl3 {X W : bsX} {e q r : Nat} {kd er ep : Int32} {mk : Nat → Int32} {Y : pY} (hX : PX X e) (hW : PW X W e) (hT : Tc e kd q r) (he : er ≠ 0) : ∃ kd' q' r' Y', fl3 (cst X kd (nI q) (nI r) er ep mk Y) = some (cst X kd' q' r' er ep mk Y') := by
  obtain ⟨x, kd', q', r', h1, h2⟩ := e_take (lo := 0) (hi := 99) (ep := ep) (mk := mk) (Y := Y) hX hW hT he
  unfold fl3
  rw [h1, Option.bind_some, cw1]
  exact ⟨_, _, _, _, rfl⟩
theorem e_fl2 {X W : bsX} {e q r : Nat} {kd er ep : Int32} {mk : Nat → Int32} {Y : pY} (hX : PX X e) (hW : PW X W e) (hT : Tc e kd q r) (he : er ≠ 0) : ∃ kd' q' r' Y', fl2 (cst X kd (nI q) (nI r) er ep mk Y) = some (cst X kd' q' r' er ep mk Y') := by
  obtain ⟨x, kd', q', r', h1, h2⟩ := e_take (lo := 0) (hi := 7) (ep := ep) (mk := mk) (Y := Y) hX hW hT he
  unfold fl2
  rw [h1, Option.bind_some, cw1]
  exact e_fl3 hX hW h2 he
theorem e_fl1 {X W : bsX} {e q r : Nat} {kd er ep : Int32} {mk : Nat → Int32} {Y : pY} (hX : PX X e) (hW : PW X W e) (hT : Tc e kd q r) (he : er ≠ 0) : ∃ kd' q' r' Y', fl1 (cst X kd (nI q) (nI r) er ep mk Y) = some (cst X kd' q' r' er ep mk Y') := by
  obtain ⟨x, kd', q', r', h1, h2⟩ := e_take (lo := 1) (hi := 9) (ep := ep) (mk := mk) (Y := Y) hX hW hT he
  unfold fl1
  rw [h1, Option.bind_some, cw1]
  exact e_fl2 hX hW h2 he
theorem e_fl0 {X W : bsX} {e q r : Nat} {kd er ep : Int32} {mk : Nat → Int32} {Y : pY} (hX : PX X e) (hW : PW X W e) (hT : Tc e kd q r) (he : er ≠ 0) : ∃ kd' q' r' Y', fl0 (cst X kd (nI q) (nI r) er ep mk Y) = some (cst X kd' q' r' er ep mk Y') := by
  obtain ⟨x, kd', q', r', h1, h2⟩ := e_take (lo := 1) (hi := 99) (ep := ep) (mk := mk) (Y := Y) hX hW hT he
  unfold fl0
  rw [h1, Option.bind_some, cw1]
  exact e_fl1 hX hW h2 he
theorem lm_w : ∀ w : Nat, ∀ Z : bsX, (w = 2 ∨ w = 3 ∨ w = 4 ∨ w = 5) → fX9_least (nI w) Z = some (if w = 2 ∨ w = 3 then 1 else 0, Z) ∧ fX9_most (nI w) Z = some (if w = 3 then 9 else if w = 4 then 7 else 99, Z) := by
  intro w Z h
  unfold fX9_least fX9_least_10 fX9_most
  rcases h with rfl | rfl | rfl | rfl
  · exact ⟨by rw [if_pos (show nI 2 = (2 : Int32) from rfl)]; rfl, by rw [if_neg (by decide), if_neg (by decide)]; rfl⟩
  · exact ⟨by rw [if_neg (by decide), if_pos (show nI 3 = (3 : Int32) from rfl)]; rfl, by rw [if_pos (show nI 3 = (3 : Int32) from rfl)]; rfl⟩
  · exact ⟨by rw [if_neg (by decide), if_neg (by decide)]; rfl, by rw [if_neg (by decide), if_pos (show nI 4 = (4 : Int32) from rfl)]; rfl⟩
  · exact ⟨by rw [if_neg (by decide), if_neg (by decide)]; rfl, by rw [if_neg (by decide), if_neg (by decide)]; rfl⟩
theorem rrow {W : bsX} {te ts kd nm er ep mr v : Int32} {R : Nat → Int32} {i : Nat} : bsWr (rst W te ts kd nm er ep mr R) 14 1 0 i v = rst W te ts kd nm er ep mr (pt R i v) := by
  have h := ro_wr (rst W te ts kd nm er ep mr R) R i v
  rw [rro, rro] at h
  exact h
theorem e_64 {W : bsX} {te ts kd nm er ep mr : Int32} (he : er ≠ 0) : ∀ (d w g : Nat) (R : Nat → Int32), w + d = 6 → 2 ≤ w → d < g → r160 R → ∃ R', r160 R' ∧ fX9_reads_64 g (nI w) (rst W te ts kd nm er ep mr R) = some (rst W te ts kd nm er ep mr R') := by
  intro d
  induction d with
  | zero =>
    intro w g R hw h2 hg hR0
    obtain ⟨g, rfl⟩ : ∃ z, g = z + 1 := ⟨g - 1, by omega⟩
    obtain rfl : w = 6 := by omega
    obtain ⟨f, hf⟩ := bsF_5
    refine ⟨R, hR0, ?_⟩
    rw [fX9_reads_64, if_pos (show (5 : Int32) < nI 6 by decide), hf]
    exact e_93 he
  | succ d ih =>
    intro w g R hw h2 hg hR0
    obtain ⟨g, rfl⟩ : ∃ z, g = z + 1 := ⟨g - 1, by omega⟩
    obtain ⟨l1, l2⟩ := lm_w w (rst W te ts kd nm er ep mr R) (by omega)
    obtain ⟨y, hy⟩ := e_takes (W := W) (te := te) (ts := ts) (kd := kd) (nm := nm) (ep := ep) (mr := mr) (lo := if w = 2 ∨ w = 3 then 1 else 0) (hi := if w = 3 then 9 else if w = 4 then 7 else 99) (R := R) he
    obtain ⟨R', hr', hR'⟩ := ih (w + 1) g (pt R w y) (by omega) (by omega) (by omega) (fun d hd => by unfold pt; rw [if_neg (by omega)]; exact hR0 d hd)
    refine ⟨R', hr', ?_⟩
    rw [fX9_reads_64, if_neg (show ¬ (5 : Int32) < nI w from fun z => by have := (pu_lt 5 w (by omega) (by decide)).mp z; omega), l1, Option.bind_some]
    dsimp only
    rw [l2, Option.bind_some]
    dsimp only
    rw [hy, Option.bind_some, if_pos ((pu_in w 160 (by omega)).mpr (by omega)), pu_ix w (by omega), pu_succ]
    dsimp only
    rw [rrow]
    exact hR'
theorem enc_num {Y : pY} {w : Nat} {v : Int32} (hw : w = 2 ∨ w = 3 ∨ w = 4 ∨ w = 5) : pt (enc Y) w v = enc (wr Y 0 0 (w + 3) v) := by
  have e : ∀ i, i = 10 ∨ i = 11 ∨ i = 12 → wr Y 0 0 (w + 3) v 0 0 i = Y 0 0 i := by intro i hi; rw [wr_rd, if_neg (by omega)]
  have he : enc (wr Y 0 0 (w + 3) v) = row (wr Y 0 0 (w + 3) v) (sSt Y) (Y 0 0 11) (Y 0 0 12) := by
    unfold enc sSt; rw [e 10 (by omega), e 11 (by omega), e 12 (by omega)]
  have hh : bsWr (ro (fun _ _ _ _ => 0) (enc Y)) 14 1 0 w v = ro (fun _ _ _ _ => 0) (enc (wr Y 0 0 (w + 3) v)) := by
    rw [he]
    rcases hw with rfl | rfl | rfl | rfl
    · exact rw_wr2 _ _ _ _ _ _
    · exact rw_wr3 _ _ _ _ _ _
    · exact rw_wr4 _ _ _ _ _ _
    · exact rw_wr5 _ _ _ _ _ _
  rw [ro_wr] at hh
  funext d
  have := congrFun (congrFun (congrFun (congrFun hh 14) 1) 0) d
  rw [ro_rd, ro_rd] at this
  exact this
/-- one number of the first line in the reference -/
theorem r64_step {W : bsX} {w g : Nat} {te ts kd nm te' ts' kd' nm' ep mr v lo hi : Int32} {Y : pY} (hw : w = 2 ∨ w = 3 ∨ w = 4 ∨ w = 5) (hlo : lo = if w = 2 ∨ w = 3 then 1 else 0) (hhi : hi = if w = 3 then 9 else if w = 4 then 7 else 99)
    (ht : fX9_takes lo hi (rst W te ts kd nm 0 ep mr (enc Y)) = some (v, rst W te' ts' kd' nm' 0 ep mr (enc Y))) :
    fX9_reads_64 (g + 1) (nI w) (rst W te ts kd nm 0 ep mr (enc Y)) = fX9_reads_64 g (nI (w + 1)) (rst W te' ts' kd' nm' 0 ep mr (enc (wr Y 0 0 (w + 3) v))) := by
  obtain ⟨l1, l2⟩ := lm_w w (rst W te ts kd nm 0 ep mr (enc Y)) hw
  rw [← hlo] at l1
  rw [← hhi] at l2
  rw [fX9_reads_64, if_neg (show ¬ (5 : Int32) < nI w from fun z => by have := (pu_lt 5 w (by omega) (by decide)).mp z; omega), l1, Option.bind_some]
  dsimp only
  rw [l2, Option.bind_some]
  dsimp only
  rw [ht, Option.bind_some, if_pos ((pu_in w 160 (by omega)).mpr (by omega)), pu_ix w (by omega), pu_succ]
  dsimp only
  rw [rrow, enc_num hw]
theorem r64_fail {W : bsX} {w g : Nat} {te ts kd nm ep p c mr y lo hi : Int32} {Y : pY} (hw : w = 2 ∨ w = 3 ∨ w = 4 ∨ w = 5) (hg : 6 < g) (hlo : lo = if w = 2 ∨ w = 3 then 1 else 0) (hhi : hi = if w = 3 then 9 else if w = 4 then 7 else 99) (hc : c ≠ 0)
    (ht : fX9_takes lo hi (rst W te ts kd nm 0 ep mr (enc Y)) = some (y, rst W te ts kd nm c p mr (enc Y))) :
    ∃ R', r160 R' ∧ fX9_reads_64 (g + 1) (nI w) (rst W te ts kd nm 0 ep mr (enc Y)) = some (rst W te ts kd nm c p mr R') := by
  obtain ⟨l1, l2⟩ := lm_w w (rst W te ts kd nm 0 ep mr (enc Y)) hw
  rw [← hlo] at l1
  rw [← hhi] at l2
  obtain ⟨R', hr', hR'⟩ := e_64 (W := W) (te := te) (ts := ts) (kd := kd) (nm := nm) (ep := p) (mr := mr) hc (6 - (w + 1)) (w + 1) g (pt (enc Y) w y) (by omega) (by omega) (by omega) (fun d hd => by unfold pt; rw [if_neg (by omega)]; exact enc_160 Y d hd)
  refine ⟨R', hr', ?_⟩
  rw [fX9_reads_64, if_neg (show ¬ (5 : Int32) < nI w from fun z => by have := (pu_lt 5 w (by omega) (by decide)).mp z; omega), l1, Option.bind_some]
  dsimp only
  rw [l2, Option.bind_some]
  dsimp only
  rw [ht, Option.bind_some, if_pos ((pu_in w 160 (by omega)).mpr (by omega)), pu_ix w (by omega), pu_succ]
  dsimp only
  rw [rrow]
  exact hR'
theorem MR_first {Y : pY} {a b c d : Int32} (ha : alike Y blankY) (h1 : rng a 1 99) (h2 : rng b 1 9) (h3 : rng c 0 7) (h4 : rng d 0 99) : MR 0 (wr (wr (wr (wr Y 0 0 5 a) 0 0 6 b) 0 0 7 c) 0 0 8 d) := by
  have z : ∀ K j i, real K j i → ¬ (K = 0 ∧ j = 0 ∧ i = 11) → ¬ (K = 2 ∧ j = 0 ∧ i = 1) → Y K j i = 0 := by
    intro K j i r p q
    rw [ha K j i r]
    unfold blankY
    rw [if_neg (fun t => t.elim p q)]
  have n11 : Y 0 0 11 = -1 := by rw [ha 0 0 11 (by unfold real; omega)]; rfl
  have n21 : Y 2 0 1 = -1 := by rw [ha 2 0 1 (by unfold real; omega)]; rfl
  have r0 : ∀ K j i, ¬ (K = 0 ∧ j = 0 ∧ 5 ≤ i ∧ i ≤ 8) → wr (wr (wr (wr Y 0 0 5 a) 0 0 6 b) 0 0 7 c) 0 0 8 d K j i = Y K j i := by
    intro K j i p
    rw [wr_rd, if_neg (by omega), wr_rd, if_neg (by omega), wr_rd, if_neg (by omega), wr_rd, if_neg (by omega)]
  refine ⟨⟨by omega, ?_, ?_, ?_, ?_, ?_, ?_, ?_, ?_, ?_, ?_, ?_, ?_, ?_, ?_, ?_⟩, ?_, ?_, ?_⟩
  · rw [r0 _ _ _ (by omega), z 0 0 4 (by unfold real; omega) (by omega) (by omega)]; rfl
  · intro q hq
    have s5 : ∀ i, 2 ≤ i → i ≤ 8 → wr (wr (wr (wr Y 0 0 5 a) 0 0 6 b) 0 0 7 c) 0 0 8 d 5 q i = 0 := by intro i p r; rw [r0 _ _ _ (by omega), z 5 q i (by unfold real; omega) (by omega) (by omega)]
    have s6 : ∀ i, i ≤ 5 → wr (wr (wr (wr Y 0 0 5 a) 0 0 6 b) 0 0 7 c) 0 0 8 d 6 q i = 0 := by intro i p; rw [r0 _ _ _ (by omega), z 6 q i (by unfold real; omega) (by omega) (by omega)]
    unfold wS
    rw [s5 2 (by omega) (by omega), s5 3 (by omega) (by omega), s5 4 (by omega) (by omega), s5 5 (by omega) (by omega), s6 0 (by omega), s6 1 (by omega), s6 2 (by omega), s6 3 (by omega), s6 4 (by omega), s6 5 (by omega)]
    exact ⟨Or.inl rfl, Or.inl rfl, Or.inl rfl, Or.inl rfl, rng.z 15, rng.z 7, rng.z 99, rng.z 99, rng.z 99, fun _ => ⟨rfl, rfl, rfl, rfl, rfl, rfl, rfl, rfl, rfl⟩⟩
  · intro k _ hk
    rw [r0 _ _ _ (by omega), r0 _ _ _ (by omega), r0 _ _ _ (by omega), r0 _ _ _ (by omega)]
    exact ⟨z 6 k 0 (by unfold real; omega) (by omega) (by omega), z 5 k 6 (by unfold real; omega) (by omega) (by omega), z 5 k 7 (by unfold real; omega) (by omega) (by omega), z 5 k 8 (by unfold real; omega) (by omega) (by omega)⟩
  · rw [r0 _ _ _ (by omega), z 0 0 10 (by unfold real; omega) (by omega) (by omega)]; exact Or.inl rfl
  · rw [r0 _ _ _ (by omega)]; exact Or.inl n11
  · simpa [b2_t, b2_f, up_at, up_up, up_id, wr_rd] using h1
  · simpa [b2_t, b2_f, up_at, up_up, up_id, wr_rd] using h2
  · simpa [b2_t, b2_f, up_at, up_up, up_id, wr_rd] using h3
  · simpa [b2_t, b2_f, up_at, up_up, up_id, wr_rd] using h4
  · rw [r0 _ _ _ (by omega), z 0 0 9 (by unfold real; omega) (by omega) (by omega)]; rfl
  · rw [r0 _ _ _ (by omega), z 0 0 12 (by unfold real; omega) (by omega) (by omega)]; exact rng.z 0
  · rw [r0 _ _ _ (by omega), z 3 0 4 (by unfold real; omega) (by omega) (by omega)]; exact rng.z 0
  · rw [r0 _ _ _ (by omega), r0 _ _ _ (by omega), r0 _ _ _ (by omega), z 6 6 0 (by unfold real; omega) (by omega) (by omega), z 6 6 4 (by unfold real; omega) (by omega) (by omega), z 6 6 5 (by unfold real; omega) (by omega) (by omega)]
    exact ⟨Or.inl rfl, Or.inl rfl, Or.inl rfl⟩
  · rw [r0 _ _ _ (by omega)]; exact Or.inl n21
  · intro i hi
    rw [r0 _ _ _ (by omega), r0 _ _ _ (by omega), r0 _ _ _ (by omega), z 7 0 i (by unfold real; omega) (by omega) (by omega), z 8 0 i (by unfold real; omega) (by omega) (by omega), z 10 0 i (by unfold real; omega) (by omega) (by omega)]
    exact ⟨rng.z 0, rng.z 4, Or.inr (rng.z 5)⟩
  · rw [r0 _ _ _ (by omega)]; exact z 0 0 10 (by unfold real; omega) (by omega) (by omega)
  · rw [r0 _ _ _ (by omega)]; exact n11
  · rw [r0 _ _ _ (by omega)]; exact n21
theorem first_ex {X W : bsX} {e q r : Nat} {kd kr nm ep : Int32} {mk : Nat → Int32} {Y : pY} (hX : PX X e) (hW : PW X W e) (hT : Tk X e kd kr q r nm) (ha : alike Y blankY) (hK : MK mk 0) :
    PJ X W ep ((fX4_readFirstLine 1 (cst X kd (nI q) (nI r) 0 ep mk Y)).bind fun r10 => fX4_parse_65 1 bsF (nI e) (0 : Int32) r10) ((fX9_isWord 0 (rst W (nI r) (nI q) kr nm 0 ep (nI 0) (enc Y))).bind fun r12 => if r12.1 = 0 then (fX9_reads_54 (1 : Int32) r12.2) else (fX9_reads_54 (0 : Int32) r12.2)) := by
  have he := hX.2
  have c10 : ¬ (1 : Int32) = 0 := by decide
  obtain ⟨f1, hf1⟩ := bsF_6
  unfold fX4_readFirstLine
  rw [word_c hX hT.1 hT.2.1, word_r hX hW hT.1 hT.2.1 hT.2.2.1, Option.bind_some, Option.bind_some]
  cases hw : isW X e q r 0 kd
  · rw [b2_f, if_pos rfl, if_pos rfl]
    dsimp only
    rw [fail_c0, Option.bind_some, fl14]
    obtain ⟨kd1, q1, r1, h1, t1⟩ := e_tok (er := 1) (ep := nI q) (mk := mk) (Y := Y) hX hW hT.tc
    obtain ⟨kd', q', r', Y', hh⟩ := e_fl0 (er := 1) (ep := nI q) (mk := mk) (Y := Y) hX hW t1 c10
    obtain ⟨R', hr', hR'⟩ := e_64 (W := W) (te := nI r) (ts := nI q) (kd := kr) (nm := nm) (ep := nI q) (mr := nI 0) c10 4 2 bsF (enc Y) (by omega) (by omega) (by unfold bsF; omega) (enc_160 Y)
    right
    refine ⟨1, nI q, kd', q', r', mk, Y', nI r, nI q, kr, nm, nI 0, R', c10, hr', ?_, ?_⟩
    · rw [h1, Option.bind_some, hh, Option.bind_some, hf1, e_65 c10]
    · unfold fX9_reads_54
      rw [if_1, Option.bind_some, go1 c10, Option.bind_some]
      exact hR'
  · rw [b2_t, if_neg c10, if_neg c10]
    dsimp only
    rw [fl14]
    obtain ⟨kd0, kr0, q0, r0, a1, a2, a3, a4, a5, a6, a7, a8⟩ := tok_ex hX hW hT.2.1
    obtain ⟨nm0, b1, b2'⟩ := a8 (nI q) kr nm 0 ep (nI 0) (enc Y)
    have hT0 : Tk X e kd0 kr0 q0 r0 nm0 := ⟨a2, a3, a4, a5, fun z => ⟨a6 z, b2' z⟩⟩
    unfold fX9_reads_54
    rw [a7, Option.bind_some, if_0, Option.bind_some, go0, b1, Option.bind_some]
    have hb64 : ∃ g, 20 < g ∧ bsF = g + 4 := ⟨bsF - 4, by unfold bsF; omega, by unfold bsF; omega⟩
    obtain ⟨g, hg, hg4⟩ := hb64
    rw [show fX9_reads_64 bsF (2 : Int32) = fX9_reads_64 (g + 3 + 1) (nI 2) by rw [hg4]; rfl]
    unfold fl0
    rcases take_ex (lo := 1) (hi := 99) (ep := ep) (mr := nI 0) (mk := mk) (Y := Y) (R := enc Y) hX hW hT0 with ⟨v1, kd1, kr1, q1, r1, nm1, u1, u2, u3, u4, u5, u6⟩ | ⟨c, x, y, kd1, q1, r1, k0, k1, k2, k3⟩
    · rw [u3, Option.bind_some, cw1, r64_step (w := 2) (Or.inl rfl) rfl rfl u4]
      unfold fl1
      rcases take_ex (lo := 1) (hi := 9) (ep := ep) (mr := nI 0) (mk := mk) (Y := wr Y 0 0 5 v1) (R := enc (wr Y 0 0 5 v1)) hX hW u5 with ⟨v2, kd2', kr2, q2, r2, nm2, w1, w2, w3, w4, w5, w6⟩ | ⟨c, x, y, kd2', q2, r2, k0, k1, k2, k3⟩
      · rw [w3, Option.bind_some, cw1, r64_step (w := 3) (Or.inr (Or.inl rfl)) rfl rfl w4]
        unfold fl2
        rcases take_ex (lo := 0) (hi := 7) (ep := ep) (mr := nI 0) (mk := mk) (Y := wr (wr Y 0 0 5 v1) 0 0 6 v2) (R := enc (wr (wr Y 0 0 5 v1) 0 0 6 v2)) hX hW w5 with ⟨v3, kd3', kr3, q3, r3, nm3, x1, x2, x3, x4, x5, x6⟩ | ⟨c, x, y, kd3', q3, r3, k0, k1, k2, k3⟩
        · rw [x3, Option.bind_some, cw1, r64_step (w := 4) (Or.inr (Or.inr (Or.inl rfl))) rfl rfl x4]
          unfold fl3
          rcases take_ex (lo := 0) (hi := 99) (ep := ep) (mr := nI 0) (mk := mk) (Y := wr (wr (wr Y 0 0 5 v1) 0 0 6 v2) 0 0 7 v3) (R := enc (wr (wr (wr Y 0 0 5 v1) 0 0 6 v2) 0 0 7 v3)) hX hW x5 with ⟨v4, kd4', kr4, q4, r4, nm4, y1, y2, y3, y4, y5, y6⟩ | ⟨c, x, y, kd4', q4, r4, k0, k1, k2, k3⟩
          · obtain ⟨g', hg'⟩ : ∃ z, g = z + 1 := ⟨g - 1, by omega⟩
            rw [y3, Option.bind_some, cw1, Option.bind_some, r64_step (w := 5) (Or.inr (Or.inr (Or.inr rfl))) rfl rfl y4, hg', fX9_reads_64, if_pos (show (5 : Int32) < nI (5 + 1) by decide)]
            have hM := MR_first ha (rng_of (a := 1) (b := 99) (by decide) (by decide) rfl rfl u1 u2) (rng_of (a := 1) (b := 9) (by decide) (by decide) rfl rfl w1 w2) (rng_of (a := 0) (b := 7) (by decide) (by decide) rfl rfl x1 x2) (rng_of (a := 0) (b := 99) (by decide) (by decide) rfl rfl y1 y2)
            exact loop_ex (ep := ep) hX hW 601 0 bsF bsF q4 r4 0 0 kd4' kr4 nm4 mk _ y5 hM hK (fun _ => by omega) (fun z => by have := y5.2.2.2.1 z; omega) (by unfold bsF; omega) (by unfold bsF; omega) (by omega)
          · obtain ⟨R', hr', hR'⟩ := r64_fail (w := 5) (g := g) (Or.inr (Or.inr (Or.inr rfl))) (by omega) rfl rfl k0 k3
            right
            refine ⟨c, nI q3, kd4', nI q4, nI r4, mk, wr (wr (wr (wr Y 0 0 5 v1) 0 0 6 v2) 0 0 7 v3) 0 0 8 x, nI r3, nI q3, kr3, nm3, nI 0, R', k0, hr', ?_, hR'⟩
            rw [k1, Option.bind_some, cw1, Option.bind_some, hf1, e_65 k0]
        · obtain ⟨R', hr', hR'⟩ := r64_fail (w := 4) (g := g + 1) (Or.inr (Or.inr (Or.inl rfl))) (by omega) rfl rfl k0 k3
          obtain ⟨kd', q', r', Y', hh⟩ := e_fl3 (er := c) (ep := nI q2) (mk := mk) (Y := wr (wr (wr Y 0 0 5 v1) 0 0 6 v2) 0 0 7 x) hX hW k2 k0
          right
          refine ⟨c, nI q2, kd', q', r', mk, Y', nI r2, nI q2, kr2, nm2, nI 0, R', k0, hr', ?_, hR'⟩
          rw [k1, Option.bind_some, cw1, hh, Option.bind_some, hf1, e_65 k0]
      · obtain ⟨R', hr', hR'⟩ := r64_fail (w := 3) (g := g + 2) (Or.inr (Or.inl rfl)) (by omega) rfl rfl k0 k3
        obtain ⟨kd', q', r', Y', hh⟩ := e_fl2 (er := c) (ep := nI q1) (mk := mk) (Y := wr (wr Y 0 0 5 v1) 0 0 6 x) hX hW k2 k0
        right
        refine ⟨c, nI q1, kd', q', r', mk, Y', nI r1, nI q1, kr1, nm1, nI 0, R', k0, hr', ?_, hR'⟩
        rw [k1, Option.bind_some, cw1, hh, Option.bind_some, hf1, e_65 k0]
    · obtain ⟨R', hr', hR'⟩ := r64_fail (w := 2) (g := g + 3) (Or.inl rfl) (by omega) rfl rfl k0 k3
      obtain ⟨kd', q', r', Y', hh⟩ := e_fl1 (er := c) (ep := nI q0) (mk := mk) (Y := wr Y 0 0 5 x) hX hW k2 k0
      right
      refine ⟨c, nI q0, kd', q', r', mk, Y', nI r0, nI q0, kr0, nm0, nI 0, R', k0, hr', ?_, hR'⟩
      rw [k1, Option.bind_some, cw1, hh, Option.bind_some, hf1, e_65 k0]
