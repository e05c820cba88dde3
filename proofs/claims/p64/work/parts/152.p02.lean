/-! THE ABSTRACT MACHINE: one group's contents Y; what the class's small methods do to it -/
def b2 (b : Bool) : Int32 := if b then 1 else 0
theorem b2_t : b2 true = 1 := rfl
theorem b2_f : b2 false = 0 := rfl
theorem b2_01 (b : Bool) : b2 b = 0 ∨ b2 b = 1 := by cases b <;> simp [b2_t, b2_f, up_at, up_up, up_id]
theorem b2_0 (b : Bool) : b2 b = 0 ↔ b = false := by cases b <;> simp [b2_t, b2_f, up_at, up_up, up_id]
theorem b2_1 (b : Bool) : b2 b = 1 ↔ b = true := by cases b <;> simp [b2_t, b2_f, up_at, up_up, up_id]
def is01 (x : Int32) : Prop := x = 0 ∨ x = 1
/-- the loader may take slot k, with the floor f -/
def sBootF (f : Int32) (Y : pY) (k : Nat) : Bool := (Y 6 k 0 ≠ 0) && (Y 6 k 4 = 0) && (f ≤ Y 6 k 1) && (0 < Y 5 k 2) && ((Y 5 k 4 ≠ 0) || (0 < Y 5 k 3))
abbrev sBoot (Y : pY) (k : Nat) : Bool := sBootF (Y 0 0 8) Y k
def sAhead (Y : pY) (k q : Nat) : Bool := if Y 5 k 2 = Y 5 q 2 then (if Y 5 k 4 = Y 5 q 4 then (if Y 6 k 1 = Y 6 q 1 then k < q else Y 6 q 1 < Y 6 k 1) else Y 5 k 4 ≠ 0) else Y 5 q 2 < Y 5 k 2
def oI : Option Nat → Int32
  | none => -1
  | some k => nI k
theorem qX5_boot (g j : Nat) (f : Int32) (X : bsX) : fX5_isBootableFrom g j f X = some (b2 (sBootF f (X g) j), X) := by
  unfold fX5_isBootableFrom fX5_isBootableFrom_35 fX5_isBootableFrom_36 fX5_isBootableFrom_62 sBootF b2
  grind
theorem qX5_ahead (g j j2 : Nat) (hj : j < 6) (hk : j2 < 6) (X : bsX) (h1 : is01 (X g 5 j 4)) : fX5_isAheadOf g j j2 X = some (b2 (sAhead (X g) j j2), X) := by
  unfold fX5_isAheadOf sAhead b2
  have h2 := pu_le j2 j (by omega) (by omega)
  unfold is01 at h1
  grind
theorem qX3_boot (g j : Nat) (X : bsX) : fX3_isBootable g j X = some (b2 (sBoot (X g) j), X) := by
  unfold fX3_isBootable; rw [qX5_boot]; simp [b2_t, b2_f, up_at, up_up, up_id, b2_01]
/-- firstBut: the fold's step -/
def sPref (Y : pY) (k : Nat) : Option Nat → Bool
  | none => true
  | some q => sAhead Y k q
def sFb (w : Int32) (Y : pY) (k : Nat) (b : Option Nat) : Option Nat := if (nI k ≠ w && sBoot Y k && sPref Y k b) = true then some k else b
def sFirstBut (w : Int32) (Y : pY) : Option Nat := itF (sFb w Y) 6 0 none
def o6 (b : Option Nat) : Prop := ∀ k, b = some k → k < 6
def slot01 (Y : pY) : Prop := ∀ k, k < 6 → is01 (Y 5 k 4)
theorem o6_ite {k : Nat} {b : Option Nat} (c : Bool) (hk : k < 6) (hb : o6 b) : o6 (if c = true then some k else b) := by
  intro q hq
  split at hq
  · injection hq with hq; omega
  · exact hb q hq
theorem qX3_firstBut (g : Nat) (w : Int32) (X : bsX) (h : slot01 (X g)) : fX3_firstBut g w X = some (oI (sFirstBut w (X g)), X) ∧ o6 (sFirstBut w (X g)) := by
  refine pu_loop (N := 6) (fun n k b => fX3_firstBut_4 g n w (oI b) (nI k) X) (sFb w (X g)) (fun b => (oI b, X)) (fun _ b => o6 b) ?_ ?_ 6 0 bsF none rfl (by decide) (by simp [b2_t, b2_f, up_at, up_up, up_id, o6])
  · intro n k b hk hb
    refine ⟨?_, ?_⟩
    · simp only [fX3_firstBut_4, fX3_firstBut_35, fX3_firstBut_36, fX3_firstBut_65, fX3_firstBut_67, pu_le6 hk, pu_inT hk (by decide), pu_ix6 hk, pu_succ, if_false, if_true, qX5_boot, Option.bind_some, sFb]
      by_cases hw : nI k = w
      · simp [b2_t, b2_f, up_at, up_up, up_id, hw]
      · cases hs : sBootF (X g 0 0 8) (X g) k
        · simp [b2_t, b2_f, up_at, up_up, up_id, hw, hs]
        · cases b with
          | none => simp [b2_t, b2_f, up_at, up_up, up_id, hw, hs, oI, sPref]
          | some q =>
            have hq := hb q rfl
            cases ha : sAhead (X g) k q <;> simp [b2_t, b2_f, up_at, up_up, up_id, hw, hs, oI, sPref, pu_lt0 hq, pu_inT hq, pu_ix6 hq, qX5_ahead g k q hk hq X (h k hk), ha]
    · exact o6_ite _ hk hb
  · intro n b hb
    simp only [fX3_firstBut_4, pu_66, if_true]

def sCnt (f : Nat → Bool) : Int32 := itF (fun k n => if f k then n + 1 else n) 6 0 (0 : Int32)
theorem qX3_bootableSlots (g : Nat) (X : bsX) : fX3_bootableSlots g X = some (sCnt (sBoot (X g)), X) := by
  refine (pu_loop (N := 6) (fun n k b => fX3_bootableSlots_4 g n b (nI k) X) (fun k n => if sBoot (X g) k then n + 1 else n) (fun b => (b, X)) (fun _ _ => True) ?_ ?_ 6 0 bsF 0 rfl (by decide) trivial).1
  · intro n k b hk _
    refine ⟨?_, trivial⟩
    simp only [fX3_bootableSlots_4, fX3_bootableSlots_26, pu_le6 hk, pu_inT hk (by decide), pu_ix6 hk, pu_succ, if_false, if_true, qX3_boot, Option.bind_some]
    cases sBoot (X g) k <;> simp [b2_t, b2_f, up_at, up_up, up_id]
  · intro n b _
    simp only [fX3_bootableSlots_4, pu_66, if_true]
theorem qX3_goodSlots (g : Nat) (X : bsX) : fX3_goodSlots g X = some (sCnt (fun k => X g 5 k 4 ≠ 0), X) := by
  refine (pu_loop (N := 6) (fun n k b => fX3_goodSlots_4 g n b (nI k) X) (fun k n => if X g 5 k 4 ≠ 0 then n + 1 else n) (fun b => (b, X)) (fun _ _ => True) ?_ ?_ 6 0 bsF 0 rfl (by decide) trivial).1.trans (by simp [b2_t, b2_f, up_at, up_up, up_id, sCnt])
  · intro n k b hk _
    refine ⟨?_, trivial⟩
    simp only [fX3_goodSlots_4, fX3_goodSlots_25, pu_le6 hk, pu_inT hk (by decide), pu_ix6 hk, pu_succ, if_false, if_true]
    by_cases h : X g 5 k 4 = 0 <;> simp [b2_t, b2_f, up_at, up_up, up_id, h]
  · intro n b _
    simp only [fX3_goodSlots_4, pu_66, if_true]
def sSum (f : Nat → Int32) : Int32 := itF (fun k n => n + f k) 6 0 (0 : Int32)
theorem qX3_allTries (g : Nat) (X : bsX) : fX3_allTries g X = some (sSum (fun k => X g 5 k 3), X) := by
  refine (pu_loop (N := 6) (fun n k b => fX3_allTries_4 g n b (nI k) X) (fun k n => n + X g 5 k 3) (fun b => (b, X)) (fun _ _ => True) ?_ ?_ 6 0 bsF 0 rfl (by decide) trivial).1
  · intro n k b hk _
    refine ⟨?_, trivial⟩
    simp only [fX3_allTries_4, pu_le6 hk, pu_inT hk (by decide), pu_ix6 hk, pu_succ, if_false, if_true]
  · intro n b _
    simp only [fX3_allTries_4, pu_66, if_true]
/-- the least version of the good ones and of a: (least, whether any) -/
def sFbg (a : Int32) (Y : pY) (k : Nat) (b : Int32 × Int32) : Int32 × Int32 := if Y 5 k 4 ≠ 0 ∨ nI k = a then (bsMin b.1 (Y 6 k 1), 1) else b
def sFloorBy (a : Int32) (Y : pY) : Int32 := let b := itF (sFbg a Y) 6 0 ((99 : Int32), (0 : Int32)); if b.2 = 0 then Y 0 0 8 else bsMax (Y 0 0 8) b.1
theorem qX3_floorBy (g : Nat) (a : Int32) (X : bsX) : fX3_floorByGoodAnd g a X = some (sFloorBy a (X g), X) := by
  refine (pu_loop (N := 6) (fun n k (b : Int32 × Int32) => fX3_floorByGoodAnd_8 g n a b.1 b.2 (nI k) X) (sFbg a (X g)) (fun b => (if b.2 = 0 then X g 0 0 8 else bsMax (X g 0 0 8) b.1, X)) (fun _ _ => True) ?_ ?_ 6 0 bsF (99, 0) rfl (by decide) trivial).1
  · intro n k b hk _
    refine ⟨?_, trivial⟩
    simp only [fX3_floorByGoodAnd_8, fX3_floorByGoodAnd_34, fX3_floorByGoodAnd_54, pu_le6 hk, pu_inT hk (by decide), pu_ix6 hk, pu_succ, if_false, if_true, sFbg]
    by_cases h : X g 5 k 4 = 0 <;> by_cases h2 : nI k = a <;> simp [b2_t, b2_f, up_at, up_up, up_id, h, h2]
  · intro n b _
    simp only [fX3_floorByGoodAnd_8, pu_66, if_true]
    split <;> rfl
def sTry1 (Y : pY) (k : Nat) : pY := if Y 5 k 4 = 0 then wr (wr (wr Y 5 k 3 (Y 5 k 3 - 1)) 5 k 7 (Y 5 k 7 + 1)) 4 0 0 (Y 4 0 0 + 1) else Y
def sTry (Y : pY) (k : Nat) : Bool × pY := if Y 6 k 5 = 0 then (true, wr (sTry1 Y k) 5 k 6 (Y 5 k 6 + 1)) else (false, wr (wr (wr (sTry1 Y k) 5 k 2 0) 5 k 4 0) 4 0 1 (Y 4 0 1 + 1))
theorem qX3_try (g k : Nat) (X : bsX) : fX3_tryToRun g k X = some (b2 (sTry (X g) k).1, up X g (sTry (X g) k).2) := by
  unfold fX3_tryToRun fX3_tryToRun_40 fX5_giveUp sTry sTry1
  by_cases h : X g 5 k 4 = 0 <;> by_cases h2 : X g 6 k 5 = 0 <;> simp [b2_t, b2_f, up_at, up_up, up_id, h, h2, up_wr, wr_rd]
