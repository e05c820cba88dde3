/-! TEMPORARIES of the law: behind its world and what is passive (F), a written list T -/
theorem xu_at (B F T : va_W) (k : Nat) : (B ++ (F ++ T))[B.length + (F.length + k)]? = T[k]? := by
  rw [List.getElem?_append_right (by omega), Nat.add_sub_cancel_left, List.getElem?_append_right (by omega), Nat.add_sub_cancel_left]
theorem xu_set (B F T : va_W) (k : Nat) (x : Nat × va_E) : (B ++ (F ++ T)).set (B.length + (F.length + k)) x = B ++ (F ++ T.set k x) := by
  rw [List.set_append, if_neg (by omega), Nat.add_sub_cancel_left, List.set_append, if_neg (by omega), Nat.add_sub_cancel_left]
theorem xu_app (B F T Y : va_W) : (B ++ (F ++ T)) ++ Y = B ++ (F ++ (T ++ Y)) := by rw [List.append_assoc, List.append_assoc]
section XU
variable {p : Program} {l : Launch} {e : Env} {R : Room} {s : State} {m : MethodId} {args : Array Value} {below : List Frame} {meth : Method} {c : Code} {cells slots : Nat} {Q : State → Prop} {ρ : bsR} {sc L : Nat} {xs : Nat → Int32} {cA : Nat → ClassId} {dC : Nat → ClassId} {dI : Nat → Nat → Nat} {A : Nat → Prop} {Rz Rz' : va_W} {nL : Nat} {cc : ByteArray} {Ts : List Cond} {own : String} {ret : Option FieldType} {pc : Nat} {lv : List (Nat × Value)} {st : List Value} {X : bsX} {B F T T' : va_W} {c1 s1 : Nat}
theorem xu_ld (C : xCx p m c cc nL s args Ts own ρ sc L xs cA dC dI A meth ret) (k0 : Nat) {a n : Nat} {f : Nat → Int32} {i : Int32} (he : T[k0]? = some (a, .inl (cA 0, n, .inl f))) (hin : bsIn i n) (hd : decode cc pc = .ok (.iaload, 1)) (kk : xV p l e R s m args below meth c cells slots Q ρ cA dC dI A (B ++ (F ++ T)) nL (pc + 1) lv (.int (f (bsIx i)) :: st) X) : xV p l e R s m args below meth c cells slots Q ρ cA dC dI A (B ++ (F ++ T)) nL pc lv (.int i :: .ref a :: st) X := x_iald C ((xu_at B F T k0).trans he) hin hd kk
theorem xu_st (C : xCx p m c cc nL s args Ts own ρ sc L xs cA dC dI A meth ret) (k0 : Nat) {a n : Nat} {f : Nat → Int32} {i x : Int32} (he : T[k0]? = some (a, .inl (cA 0, n, .inl f))) (hin : bsIn i n) (hT : T.set k0 (a, .inl (cA 0, n, .inl (upd f (bsIx i) x))) = T') (hd : decode cc pc = .ok (.iastore, 1)) (kk : xV p l e R s m args below meth c cells slots Q ρ cA dC dI A (B ++ (F ++ T')) nL (pc + 1) lv st X) : xV p l e R s m args below meth c cells slots Q ρ cA dC dI A (B ++ (F ++ T)) nL pc lv (.int x :: .int i :: .ref a :: st) X := x_iast C ((xu_at B F T k0).trans he) hin (by rw [xu_set, hT]) hd kk
theorem xu_bst (C : xCx p m c cc nL s args Ts own ρ sc L xs cA dC dI A meth ret) (k0 : Nat) {a n : Nat} {f : Nat → Int32} {i x : Int32} (he : T[k0]? = some (a, .inl (cA 1, n, .inl f))) (hin : bsIn i n) (hT : T.set k0 (a, .inl (cA 1, n, .inl (upd f (bsIx i) (vp_nar .byte x)))) = T') (hd : decode cc pc = .ok (.bastore, 1)) (kk : xV p l e R s m args below meth c cells slots Q ρ cA dC dI A (B ++ (F ++ T')) nL (pc + 1) lv st X) : xV p l e R s m args below meth c cells slots Q ρ cA dC dI A (B ++ (F ++ T)) nL pc lv (.int x :: .int i :: .ref a :: st) X := x_bast C ((xu_at B F T k0).trans he) hin (by rw [xu_set, hT]) hd kk
theorem xu_bld (C : xCx p m c cc nL s args Ts own ρ sc L xs cA dC dI A meth ret) (k0 : Nat) {a n : Nat} {f : Nat → Int32} {i : Int32} (he : T[k0]? = some (a, .inl (cA 1, n, .inl f))) (hin : bsIn i n) (hd : decode cc pc = .ok (.baload, 1)) (kk : xV p l e R s m args below meth c cells slots Q ρ cA dC dI A (B ++ (F ++ T)) nL (pc + 1) lv (.int (f (bsIx i)) :: st) X) : xV p l e R s m args below meth c cells slots Q ρ cA dC dI A (B ++ (F ++ T)) nL pc lv (.int i :: .ref a :: st) X := x_bald C ((xu_at B F T k0).trans he) hin hd kk
theorem xu_newi (C : xCx p m c cc nL s args Ts own ρ sc L xs cA dC dI A meth ret) {n : Int32} {N : Nat} (hn : ¬ n < 0) (hN : n.toNatClampNeg = N) (hby : N ≤ 100000) (hR : c1 ≤ R.cells ∧ s1 ≤ R.slots) (hc1 : cells + 1 ≤ c1) (hs1 : slots + N ≤ s1) (hd : decode cc pc = .ok (.newarray .int, 2)) (kk : ∀ q : Nat, xV p l e R s m args below meth c c1 s1 Q ρ cA dC dI A (B ++ (F ++ (T ++ [(q, .inl (cA 0, N, .inl (fun _ => (0 : Int32))))]))) nL (pc + 2) lv (.ref q :: st) X) : xV p l e R s m args below meth c cells slots Q ρ cA dC dI A (B ++ (F ++ T)) nL pc lv (.int n :: st) X := x_newi C hn hN hby ⟨Nat.le_trans hc1 hR.1, Nat.le_trans hs1 hR.2⟩ hd (fun q => x_eq (xu_app B F T _) (x_widen hc1 hs1 (kk q)))
theorem xu_drop (h : List.Sublist T' T) (kk : xV p l e R s m args below meth c cells slots Q ρ cA dC dI A (B ++ (F ++ T')) nL pc lv st X) : xV p l e R s m args below meth c cells slots Q ρ cA dC dI A (B ++ (F ++ T)) nL pc lv st X := x_subl ((h.append_left F).append_left B) kk
theorem xu_dropall (kk : xV p l e R s m args below meth c cells slots Q ρ cA dC dI A (B ++ F) nL pc lv st X) : xV p l e R s m args below meth c cells slots Q ρ cA dC dI A (B ++ (F ++ T)) nL pc lv st X := x_subl ((List.sublist_append_left F T).append_left B) kk
theorem xu_none (kk : xV p l e R s m args below meth c cells slots Q ρ cA dC dI A (B ++ (F ++ [])) nL pc lv st X) : xV p l e R s m args below meth c cells slots Q ρ cA dC dI A (B ++ F) nL pc lv st X := x_eq (by rw [List.append_nil]) kk
theorem xu_len (C : xCx p m c cc nL s args Ts own ρ sc L xs cA dC dI A meth ret) {t0 : Nat} {ty : FieldType} (k0 : Nat) {a : Nat} {x : vp_A} {v : Int32} (he : T[k0]? = some (a, .inl (cA t0, x))) (ht : (bsTys cA)[t0]? = some (cA t0, ty)) (hv : nI x.1 = v) (hd : decode cc pc = .ok (.arraylength, 1)) (kk : xV p l e R s m args below meth c cells slots Q ρ cA dC dI A (B ++ (F ++ T)) nL (pc + 1) lv (.int v :: st) X) : xV p l e R s m args below meth c cells slots Q ρ cA dC dI A (B ++ (F ++ T)) nL pc lv (.ref a :: st) X := x_alen C (t0 := t0) ((xu_at B F T k0).trans he) ht hv hd kk
theorem cell_I {c0 : ClassId} {n : Nat} {f g : Nat → Int32} (h : ∀ i, i < n → f i = g i) : vp_cell c0 (n, .inl f) = vp_cell c0 (n, .inl g) := by
  show arrV c0 n (fun j => .int (f j)) = arrV c0 n (fun j => .int (g j))
  have h2 : (Array.ofFn (n := n) fun j => Value.int (f j.val)) = (Array.ofFn (n := n) fun j => Value.int (g j.val)) := by
    congr 1
    funext j
    rw [h j.val j.isLt]
  unfold arrV
  rw [h2]
theorem cell_R {c0 : ClassId} {n : Nat} {f g : Nat → Option Nat} (h : ∀ i, i < n → f i = g i) : vp_cell c0 (n, .inr (.inr (.inr (.inr f)))) = vp_cell c0 (n, .inr (.inr (.inr (.inr g)))) := by
  show arrV c0 n (fun j => va_rf (f j)) = arrV c0 n (fun j => va_rf (g j))
  have h2 : (Array.ofFn (n := n) fun j => va_rf (f j.val)) = (Array.ofFn (n := n) fun j => va_rf (g j.val)) := by
    congr 1
    funext j
    rw [h j.val j.isLt]
  unfold arrV
  rw [h2]
theorem x_same {q0 a : Nat} {c0 : ClassId} {x y : vp_A} (he : Rz[q0]? = some (a, .inl (c0, x))) (hc : vp_cell c0 x = vp_cell c0 y) (hR : Rz.set q0 (a, .inl (c0, y)) = Rz') (kk : xV p l e R s m args below meth c cells slots Q ρ cA dC dI A Rz' nL pc lv st X) : xV p l e R s m args below meth c cells slots Q ρ cA dC dI A Rz nL pc lv st X := by
  intro ls H locs hl hP hD hS
  have he' := (xW_at (ρ := ρ) (cA := cA) (X := X) q0).trans he
  have hP1 := hP.set hD he' (e := .inl (c0, y)) (H1 := H) (by
    have h1 := hP _ _ he'
    show H[a]? = some (vp_cell c0 y)
    rw [← hc]
    exact h1) (fun _ _ => rfl)
  have hD1 := hD.set (e := .inl (c0, y)) he'
  rw [xW_set, hR] at hP1 hD1
  exact kk ls H locs hl hP1 hD1 hS
theorem xu_same (k0 : Nat) {a : Nat} {c0 : ClassId} {x y : vp_A} (he : T[k0]? = some (a, .inl (c0, x))) (hc : vp_cell c0 x = vp_cell c0 y) (hT : T.set k0 (a, .inl (c0, y)) = T') (kk : xV p l e R s m args below meth c cells slots Q ρ cA dC dI A (B ++ (F ++ T')) nL pc lv st X) : xV p l e R s m args below meth c cells slots Q ρ cA dC dI A (B ++ (F ++ T)) nL pc lv st X := x_same ((xu_at B F T k0).trans he) hc (by rw [xu_set, hT]) kk
end XU
theorem ln_lt {Z : pY} {a b c j : Nat} {v : Int32} (h : j < ln Z) (hn : ¬ (a = 0 ∧ b = 0 ∧ c = 4)) : j < ln (wr Z a b c v) := by
  unfold ln at h ⊢
  rw [wr_no (fun z => hn ⟨z.1.symm, z.2.1.symm, z.2.2.symm⟩)]
  exact h
/-- draws: a cell, an answer -/
abbrev dCell (sc at0 : Nat) : va_E := .inr (11, [.ref sc, .int (nI at0)])
def dVal (xs : Nat → Int32) (L at0 : Nat) (lo hi : Int32) : Int32 :=
  let v := if at0 < L then xs at0 &&& (2147483647 : Int32) else 0
  lo + (v - v / (hi - lo + 1) * (hi - lo + 1))
