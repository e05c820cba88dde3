/-! THE LAW'S SINGLE CALLS -/
set_option maxRecDepth 100000 in
set_option maxHeartbeats 4000000 in
theorem lq_26 {p : Program} {l : Launch} {e : Env} {s : State} {m : MethodId} {args : Array Value} {below : List Frame} {meth : Method} {c : Code} {Q : State → Prop} {ρ : bsR} {sc L : Nat} {xs : Nat → Int32} {cA : Nat → ClassId} {dC : Nat → ClassId} {dI : Nat → Nat → Nat} {A : Nat → Prop} {Ts : List Cond} {Rz : va_W} {ret : Option FieldType} (C : xCx p m c cL_law 6 s args Ts RL ρ sc L xs cA dC dI A meth ret) (hst : l.stackTraces = false) {cl sl : Nat} {lv : List (Nat × Value)} {X X' : bsX} (h3 : lv.lookup 3 = some (.ref (ρ 13 0 0))) (hf : fX8_count 0 X = some (1, 0, X')) (hcl : cl + 11 ≤ 600086) (hsl : sl + 62 ≤ 7301442)
    (kk : xV p l e room_1 s m args below meth c (cl + 11) (sl + 62) Q ρ cA dC dI A Rz 6 42 lv [] X') : xV p l e room_1 s m args below meth c cl sl Q ρ cA dC dI A Rz 6 26 lv [] X := by
  refine x_aload_n C dL_law_26 rfl h3 ?_
  refine x_iconst (v := 0) C dL_law_27 (by decide) ?_
  refine x_iconst (v := 1) C dL_law_28 (by decide) ?_
  refine x_newi (N := 1) C (by decide) (by decide) (by decide) ⟨by show cl + 1 ≤ 600086; omega, by show sl + 1 ≤ 7301442; omega⟩ dL_law_29 (fun u => ?_)
  refine x_eq (Rz' := Rz ++ ([] ++ [(u, .inl (cA 0, 1, .inl (fun _ => (0 : Int32))))])) rfl ?_
  refine x_dup C dL_law_31 rfl ?_
  refine x_iconst (v := 0) C dL_law_32 (by decide) ?_
  refine x_iconst (v := 0) C dL_law_33 (by decide) ?_
  refine xu_st (T' := [(u, .inl (cA 0, 1, .inl (upd (fun _ => (0 : Int32)) 0 0)))]) C 0 rfl (by decide) rfl dL_law_34 ?_
  refine xu_thrown (k := 1) C 0 rfl (by decide) ⟨by decide, by decide⟩ (fun R2 q2 b h9 => cL_calls_0 (r := (1, 0, X')) hst h9 hf (show 0 < 1 by decide)) ⟨Nat.le_of_ble_eq_true rfl, Nat.le_of_ble_eq_true rfl⟩ ⟨by show cl + 1 + 10 ≤ 600086; omega, by show sl + 1 + 60 ≤ 7301442; omega⟩ rfl (Nat.le_of_ble_eq_true rfl) dL_law_35 ?_
  refine x_subl (Rz' := Rz) (List.sublist_append_left Rz _) ?_
  refine x_iconst (v := 1) C dL_law_38 (by decide) ?_
  refine x_icmp_ne (tgt := 108) C dL_law_39 (by decide) (fun h => absurd (show nI 1 = (1 : Int32) by decide) h) (fun _ => ?_)
  exact x_widen (by omega) (by omega) kk
set_option maxRecDepth 100000 in
set_option maxHeartbeats 4000000 in
theorem lq_42 {p : Program} {l : Launch} {e : Env} {s : State} {m : MethodId} {args : Array Value} {below : List Frame} {meth : Method} {c : Code} {Q : State → Prop} {ρ : bsR} {sc L : Nat} {xs : Nat → Int32} {cA : Nat → ClassId} {dC : Nat → ClassId} {dI : Nat → Nat → Nat} {A : Nat → Prop} {Ts : List Cond} {Rz : va_W} {ret : Option FieldType} (C : xCx p m c cL_law 6 s args Ts RL ρ sc L xs cA dC dI A meth ret) (hst : l.stackTraces = false) {cl sl : Nat} {lv : List (Nat × Value)} {X X' : bsX} (h3 : lv.lookup 3 = some (.ref (ρ 13 0 0))) (hf : fX8_tick 1 X = some (1, 0, X')) (hcl : cl + 11 ≤ 600086) (hsl : sl + 62 ≤ 7301442)
    (kk : xV p l e room_1 s m args below meth c (cl + 11) (sl + 62) Q ρ cA dC dI A Rz 6 59 lv [] X') : xV p l e room_1 s m args below meth c cl sl Q ρ cA dC dI A Rz 6 42 lv [] X := by
  refine x_aload_n C dL_law_42 rfl h3 ?_
  refine x_bipush (v := 8) C dL_law_43 (by decide) ?_
  refine x_iconst (v := 1) C dL_law_45 (by decide) ?_
  refine x_newi (N := 1) C (by decide) (by decide) (by decide) ⟨by show cl + 1 ≤ 600086; omega, by show sl + 1 ≤ 7301442; omega⟩ dL_law_46 (fun u => ?_)
  refine x_eq (Rz' := Rz ++ ([] ++ [(u, .inl (cA 0, 1, .inl (fun _ => (0 : Int32))))])) rfl ?_
  refine x_dup C dL_law_48 rfl ?_
  refine x_iconst (v := 0) C dL_law_49 (by decide) ?_
  refine x_iconst (v := 1) C dL_law_50 (by decide) ?_
  refine xu_st (T' := [(u, .inl (cA 0, 1, .inl (upd (fun _ => (0 : Int32)) 0 1)))]) C 0 rfl (by decide) rfl dL_law_51 ?_
  refine xu_thrown (k := 1) C 0 rfl (by decide) ⟨by decide, by decide⟩ (fun R2 q2 b h9 => cL_calls_8 (r := (1, 0, X')) hst h9 hf (show 0 < 1 by decide)) ⟨Nat.le_of_ble_eq_true rfl, Nat.le_of_ble_eq_true rfl⟩ ⟨by show cl + 1 + 10 ≤ 600086; omega, by show sl + 1 + 60 ≤ 7301442; omega⟩ rfl (Nat.le_of_ble_eq_true rfl) dL_law_52 ?_
  refine x_subl (Rz' := Rz) (List.sublist_append_left Rz _) ?_
  refine x_iconst (v := 1) C dL_law_55 (by decide) ?_
  refine x_icmp_ne (tgt := 108) C dL_law_56 (by decide) (fun h => absurd (show nI 1 = (1 : Int32) by decide) h) (fun _ => ?_)
  exact x_widen (by omega) (by omega) kk
set_option maxRecDepth 100000 in
set_option maxHeartbeats 4000000 in
theorem lq_59 {p : Program} {l : Launch} {e : Env} {s : State} {m : MethodId} {args : Array Value} {below : List Frame} {meth : Method} {c : Code} {Q : State → Prop} {ρ : bsR} {sc L : Nat} {xs : Nat → Int32} {cA : Nat → ClassId} {dC : Nat → ClassId} {dI : Nat → Nat → Nat} {A : Nat → Prop} {Ts : List Cond} {Rz : va_W} {ret : Option FieldType} (C : xCx p m c cL_law 6 s args Ts RL ρ sc L xs cA dC dI A meth ret) (hst : l.stackTraces = false) {cl sl : Nat} {lv : List (Nat × Value)} {X X' : bsX} (h3 : lv.lookup 3 = some (.ref (ρ 13 0 0))) (hf : fX8_undo  X = some (1, 0, X')) (hcl : cl + 11 ≤ 600086) (hsl : sl + 62 ≤ 7301442)
    (kk : xV p l e room_1 s m args below meth c (cl + 11) (sl + 62) Q ρ cA dC dI A Rz 6 72 lv [] X') : xV p l e room_1 s m args below meth c cl sl Q ρ cA dC dI A Rz 6 59 lv [] X := by
  refine x_aload_n C dL_law_59 rfl h3 ?_
  refine x_bipush (v := 16) C dL_law_60 (by decide) ?_
  refine x_iconst (v := 0) C dL_law_62 (by decide) ?_
  refine x_newi (N := 0) C (by decide) (by decide) (by decide) ⟨by show cl + 1 ≤ 600086; omega, by show sl + 0 ≤ 7301442; omega⟩ dL_law_63 (fun u => ?_)
  refine x_eq (Rz' := Rz ++ ([] ++ [(u, .inl (cA 0, 0, .inl (fun _ => (0 : Int32))))])) rfl ?_
  refine xu_thrown (k := 1) C 0 rfl (by decide) ⟨by decide, by decide⟩ (fun R2 q2 b h9 => cL_calls_16 (r := (1, 0, X')) hst h9 hf (show 0 < 1 by decide)) ⟨Nat.le_of_ble_eq_true rfl, Nat.le_of_ble_eq_true rfl⟩ ⟨by show cl + 1 + 10 ≤ 600086; omega, by show sl + 0 + 60 ≤ 7301442; omega⟩ rfl (Nat.le_of_ble_eq_true rfl) dL_law_65 ?_
  refine x_subl (Rz' := Rz) (List.sublist_append_left Rz _) ?_
  refine x_iconst (v := 1) C dL_law_68 (by decide) ?_
  refine x_icmp_ne (tgt := 108) C dL_law_69 (by decide) (fun h => absurd (show nI 1 = (1 : Int32) by decide) h) (fun _ => ?_)
  exact x_widen (by omega) (by omega) kk
set_option maxRecDepth 100000 in
set_option maxHeartbeats 4000000 in
theorem lq_72 {p : Program} {l : Launch} {e : Env} {s : State} {m : MethodId} {args : Array Value} {below : List Frame} {meth : Method} {c : Code} {Q : State → Prop} {ρ : bsR} {sc L : Nat} {xs : Nat → Int32} {cA : Nat → ClassId} {dC : Nat → ClassId} {dI : Nat → Nat → Nat} {A : Nat → Prop} {Ts : List Cond} {Rz : va_W} {ret : Option FieldType} (C : xCx p m c cL_law 6 s args Ts RL ρ sc L xs cA dC dI A meth ret) (hst : l.stackTraces = false) {cl sl : Nat} {lv : List (Nat × Value)} {X X' : bsX} (h3 : lv.lookup 3 = some (.ref (ρ 13 0 0))) (hf : fX8_power  X = some (1, 0, X')) (hcl : cl + 11 ≤ 600086) (hsl : sl + 62 ≤ 7301442)
    (kk : xV p l e room_1 s m args below meth c (cl + 11) (sl + 62) Q ρ cA dC dI A Rz 6 84 lv [] X') : xV p l e room_1 s m args below meth c cl sl Q ρ cA dC dI A Rz 6 72 lv [] X := by
  refine x_aload_n C dL_law_72 rfl h3 ?_
  refine x_iconst (v := 5) C dL_law_73 (by decide) ?_
  refine x_iconst (v := 0) C dL_law_74 (by decide) ?_
  refine x_newi (N := 0) C (by decide) (by decide) (by decide) ⟨by show cl + 1 ≤ 600086; omega, by show sl + 0 ≤ 7301442; omega⟩ dL_law_75 (fun u => ?_)
  refine x_eq (Rz' := Rz ++ ([] ++ [(u, .inl (cA 0, 0, .inl (fun _ => (0 : Int32))))])) rfl ?_
  refine xu_thrown (k := 1) C 0 rfl (by decide) ⟨by decide, by decide⟩ (fun R2 q2 b h9 => cL_calls_5 (r := (1, 0, X')) hst h9 hf (show 0 < 1 by decide)) ⟨Nat.le_of_ble_eq_true rfl, Nat.le_of_ble_eq_true rfl⟩ ⟨by show cl + 1 + 10 ≤ 600086; omega, by show sl + 0 + 60 ≤ 7301442; omega⟩ rfl (Nat.le_of_ble_eq_true rfl) dL_law_77 ?_
  refine x_subl (Rz' := Rz) (List.sublist_append_left Rz _) ?_
  refine x_iconst (v := 1) C dL_law_80 (by decide) ?_
  refine x_icmp_ne (tgt := 108) C dL_law_81 (by decide) (fun h => absurd (show nI 1 = (1 : Int32) by decide) h) (fun _ => ?_)
  exact x_widen (by omega) (by omega) kk
set_option maxRecDepth 100000 in
set_option maxHeartbeats 4000000 in
theorem lq_84 {p : Program} {l : Launch} {e : Env} {s : State} {m : MethodId} {args : Array Value} {below : List Frame} {meth : Method} {c : Code} {Q : State → Prop} {ρ : bsR} {sc L : Nat} {xs : Nat → Int32} {cA : Nat → ClassId} {dC : Nat → ClassId} {dI : Nat → Nat → Nat} {A : Nat → Prop} {Ts : List Cond} {Rz : va_W} {ret : Option FieldType} (C : xCx p m c cL_law 6 s args Ts RL ρ sc L xs cA dC dI A meth ret) (hst : l.stackTraces = false) {cl sl : Nat} {lv : List (Nat × Value)} {X X' : bsX} (h3 : lv.lookup 3 = some (.ref (ρ 13 0 0))) (hf : fX8_textByte 0 X = some (2, 0, X')) (hcl : cl + 11 ≤ 600086) (hsl : sl + 62 ≤ 7301442)
    (kk : xV p l e room_1 s m args below meth c (cl + 11) (sl + 62) Q ρ cA dC dI A Rz 6 101 lv [] X') : xV p l e room_1 s m args below meth c cl sl Q ρ cA dC dI A Rz 6 84 lv [] X := by
  refine x_aload_n C dL_law_84 rfl h3 ?_
  refine x_bipush (v := 11) C dL_law_85 (by decide) ?_
  refine x_iconst (v := 1) C dL_law_87 (by decide) ?_
  refine x_newi (N := 1) C (by decide) (by decide) (by decide) ⟨by show cl + 1 ≤ 600086; omega, by show sl + 1 ≤ 7301442; omega⟩ dL_law_88 (fun u => ?_)
  refine x_eq (Rz' := Rz ++ ([] ++ [(u, .inl (cA 0, 1, .inl (fun _ => (0 : Int32))))])) rfl ?_
  refine x_dup C dL_law_90 rfl ?_
  refine x_iconst (v := 0) C dL_law_91 (by decide) ?_
  refine x_iconst (v := 0) C dL_law_92 (by decide) ?_
  refine xu_st (T' := [(u, .inl (cA 0, 1, .inl (upd (fun _ => (0 : Int32)) 0 0)))]) C 0 rfl (by decide) rfl dL_law_93 ?_
  refine xu_thrown (k := 2) C 0 rfl (by decide) ⟨by decide, by decide⟩ (fun R2 q2 b h9 => cL_calls_11 (r := (2, 0, X')) hst h9 hf (show 0 < 2 by decide)) ⟨Nat.le_of_ble_eq_true rfl, Nat.le_of_ble_eq_true rfl⟩ ⟨by show cl + 1 + 10 ≤ 600086; omega, by show sl + 1 + 60 ≤ 7301442; omega⟩ rfl (Nat.le_of_ble_eq_true rfl) dL_law_94 ?_
  refine x_subl (Rz' := Rz) (List.sublist_append_left Rz _) ?_
  refine x_iconst (v := 2) C dL_law_97 (by decide) ?_
  refine x_icmp_ne (tgt := 108) C dL_law_98 (by decide) (fun h => absurd (show nI 2 = (2 : Int32) by decide) h) (fun _ => ?_)
  exact x_widen (by omega) (by omega) kk
set_option maxRecDepth 100000 in
set_option maxHeartbeats 4000000 in
theorem lq_234 {p : Program} {l : Launch} {e : Env} {s : State} {m : MethodId} {args : Array Value} {below : List Frame} {meth : Method} {c : Code} {Q : State → Prop} {ρ : bsR} {sc L : Nat} {xs : Nat → Int32} {cA : Nat → ClassId} {dC : Nat → ClassId} {dI : Nat → Nat → Nat} {A : Nat → Prop} {Ts : List Cond} {Rz : va_W} {ret : Option FieldType} (C : xCx p m c cL_law 6 s args Ts RL ρ sc L xs cA dC dI A meth ret) (hst : l.stackTraces = false) {cl sl : Nat} {lv : List (Nat × Value)} {X X' : bsX} (h3 : lv.lookup 3 = some (.ref (ρ 13 0 0))) (hf : fX8_count 20 X = some (3, 0, X')) (hcl : cl + 11 ≤ 600086) (hsl : sl + 62 ≤ 7301442)
    (kk : xV p l e room_1 s m args below meth c (cl + 11) (sl + 62) Q ρ cA dC dI A Rz 6 251 lv [] X') : xV p l e room_1 s m args below meth c cl sl Q ρ cA dC dI A Rz 6 234 lv [] X := by
  refine x_aload_n C dL_law_234 rfl h3 ?_
  refine x_iconst (v := 0) C dL_law_235 (by decide) ?_
  refine x_iconst (v := 1) C dL_law_236 (by decide) ?_
  refine x_newi (N := 1) C (by decide) (by decide) (by decide) ⟨by show cl + 1 ≤ 600086; omega, by show sl + 1 ≤ 7301442; omega⟩ dL_law_237 (fun u => ?_)
  refine x_eq (Rz' := Rz ++ ([] ++ [(u, .inl (cA 0, 1, .inl (fun _ => (0 : Int32))))])) rfl ?_
  refine x_dup C dL_law_239 rfl ?_
  refine x_iconst (v := 0) C dL_law_240 (by decide) ?_
  refine x_bipush (v := 20) C dL_law_241 (by decide) ?_
  refine xu_st (T' := [(u, .inl (cA 0, 1, .inl (upd (fun _ => (0 : Int32)) 0 20)))]) C 0 rfl (by decide) rfl dL_law_243 ?_
  refine xu_thrown (k := 3) C 0 rfl (by decide) ⟨by decide, by decide⟩ (fun R2 q2 b h9 => cL_calls_0 (r := (3, 0, X')) hst h9 hf (show 0 < 3 by decide)) ⟨Nat.le_of_ble_eq_true rfl, Nat.le_of_ble_eq_true rfl⟩ ⟨by show cl + 1 + 10 ≤ 600086; omega, by show sl + 1 + 60 ≤ 7301442; omega⟩ rfl (Nat.le_of_ble_eq_true rfl) dL_law_244 ?_
  refine x_subl (Rz' := Rz) (List.sublist_append_left Rz _) ?_
  refine x_iconst (v := 3) C dL_law_247 (by decide) ?_
  refine x_icmp_ne (tgt := 351) C dL_law_248 (by decide) (fun h => absurd (show nI 3 = (3 : Int32) by decide) h) (fun _ => ?_)
  exact x_widen (by omega) (by omega) kk
set_option maxRecDepth 100000 in
set_option maxHeartbeats 4000000 in
theorem lq_251 {p : Program} {l : Launch} {e : Env} {s : State} {m : MethodId} {args : Array Value} {below : List Frame} {meth : Method} {c : Code} {Q : State → Prop} {ρ : bsR} {sc L : Nat} {xs : Nat → Int32} {cA : Nat → ClassId} {dC : Nat → ClassId} {dI : Nat → Nat → Nat} {A : Nat → Prop} {Ts : List Cond} {Rz : va_W} {ret : Option FieldType} (C : xCx p m c cL_law 6 s args Ts RL ρ sc L xs cA dC dI A meth ret) (hst : l.stackTraces = false) {cl sl : Nat} {lv : List (Nat × Value)} {X X' : bsX} (h3 : lv.lookup 3 = some (.ref (ρ 13 0 0))) (hf : fX8_slot 0 9 X = some (3, 0, X')) (hcl : cl + 11 ≤ 600086) (hsl : sl + 62 ≤ 7301442)
    (kk : xV p l e room_1 s m args below meth c (cl + 11) (sl + 62) Q ρ cA dC dI A Rz 6 272 lv [] X') : xV p l e room_1 s m args below meth c cl sl Q ρ cA dC dI A Rz 6 251 lv [] X := by
  refine x_aload_n C dL_law_251 rfl h3 ?_
  refine x_iconst (v := 1) C dL_law_252 (by decide) ?_
  refine x_iconst (v := 2) C dL_law_253 (by decide) ?_
  refine x_newi (N := 2) C (by decide) (by decide) (by decide) ⟨by show cl + 1 ≤ 600086; omega, by show sl + 2 ≤ 7301442; omega⟩ dL_law_254 (fun u => ?_)
  refine x_eq (Rz' := Rz ++ ([] ++ [(u, .inl (cA 0, 2, .inl (fun _ => (0 : Int32))))])) rfl ?_
  refine x_dup C dL_law_256 rfl ?_
  refine x_iconst (v := 0) C dL_law_257 (by decide) ?_
  refine x_iconst (v := 0) C dL_law_258 (by decide) ?_
  refine xu_st (T' := [(u, .inl (cA 0, 2, .inl (upd (fun _ => (0 : Int32)) 0 0)))]) C 0 rfl (by decide) rfl dL_law_259 ?_
  refine x_dup C dL_law_260 rfl ?_
  refine x_iconst (v := 1) C dL_law_261 (by decide) ?_
  refine x_bipush (v := 9) C dL_law_262 (by decide) ?_
  refine xu_st (T' := [(u, .inl (cA 0, 2, .inl (upd (upd (fun _ => (0 : Int32)) 0 0) 1 9)))]) C 0 rfl (by decide) rfl dL_law_264 ?_
  refine xu_thrown (k := 3) C 0 rfl (by decide) ⟨by decide, by decide⟩ (fun R2 q2 b h9 => cL_calls_1 (r := (3, 0, X')) hst h9 hf (show 0 < 3 by decide)) ⟨Nat.le_of_ble_eq_true rfl, Nat.le_of_ble_eq_true rfl⟩ ⟨by show cl + 1 + 10 ≤ 600086; omega, by show sl + 2 + 60 ≤ 7301442; omega⟩ rfl (Nat.le_of_ble_eq_true rfl) dL_law_265 ?_
  refine x_subl (Rz' := Rz) (List.sublist_append_left Rz _) ?_
  refine x_iconst (v := 3) C dL_law_268 (by decide) ?_
  refine x_icmp_ne (tgt := 351) C dL_law_269 (by decide) (fun h => absurd (show nI 3 = (3 : Int32) by decide) h) (fun _ => ?_)
  exact x_widen (by omega) (by omega) kk
set_option maxRecDepth 100000 in
set_option maxHeartbeats 4000000 in
theorem lq_272 {p : Program} {l : Launch} {e : Env} {s : State} {m : MethodId} {args : Array Value} {below : List Frame} {meth : Method} {c : Code} {Q : State → Prop} {ρ : bsR} {sc L : Nat} {xs : Nat → Int32} {cA : Nat → ClassId} {dC : Nat → ClassId} {dI : Nat → Nat → Nat} {A : Nat → Prop} {Ts : List Cond} {Rz : va_W} {ret : Option FieldType} (C : xCx p m c cL_law 6 s args Ts RL ρ sc L xs cA dC dI A meth ret) (hst : l.stackTraces = false) {cl sl : Nat} {lv : List (Nat × Value)} {X X' : bsX} (h3 : lv.lookup 3 = some (.ref (ρ 13 0 0))) (hf : fX8_image 0 5 X = some (3, 0, X')) (hcl : cl + 11 ≤ 600086) (hsl : sl + 62 ≤ 7301442)
    (kk : xV p l e room_1 s m args below meth c (cl + 11) (sl + 62) Q ρ cA dC dI A Rz 6 292 lv [] X') : xV p l e room_1 s m args below meth c cl sl Q ρ cA dC dI A Rz 6 272 lv [] X := by
  refine x_aload_n C dL_law_272 rfl h3 ?_
  refine x_iconst (v := 2) C dL_law_273 (by decide) ?_
  refine x_iconst (v := 2) C dL_law_274 (by decide) ?_
  refine x_newi (N := 2) C (by decide) (by decide) (by decide) ⟨by show cl + 1 ≤ 600086; omega, by show sl + 2 ≤ 7301442; omega⟩ dL_law_275 (fun u => ?_)
  refine x_eq (Rz' := Rz ++ ([] ++ [(u, .inl (cA 0, 2, .inl (fun _ => (0 : Int32))))])) rfl ?_
  refine x_dup C dL_law_277 rfl ?_
  refine x_iconst (v := 0) C dL_law_278 (by decide) ?_
  refine x_iconst (v := 0) C dL_law_279 (by decide) ?_
  refine xu_st (T' := [(u, .inl (cA 0, 2, .inl (upd (fun _ => (0 : Int32)) 0 0)))]) C 0 rfl (by decide) rfl dL_law_280 ?_
  refine x_dup C dL_law_281 rfl ?_
  refine x_iconst (v := 1) C dL_law_282 (by decide) ?_
  refine x_iconst (v := 5) C dL_law_283 (by decide) ?_
  refine xu_st (T' := [(u, .inl (cA 0, 2, .inl (upd (upd (fun _ => (0 : Int32)) 0 0) 1 5)))]) C 0 rfl (by decide) rfl dL_law_284 ?_
  refine xu_thrown (k := 3) C 0 rfl (by decide) ⟨by decide, by decide⟩ (fun R2 q2 b h9 => cL_calls_2 (r := (3, 0, X')) hst h9 hf (show 0 < 3 by decide)) ⟨Nat.le_of_ble_eq_true rfl, Nat.le_of_ble_eq_true rfl⟩ ⟨by show cl + 1 + 10 ≤ 600086; omega, by show sl + 2 + 60 ≤ 7301442; omega⟩ rfl (Nat.le_of_ble_eq_true rfl) dL_law_285 ?_
  refine x_subl (Rz' := Rz) (List.sublist_append_left Rz _) ?_
  refine x_iconst (v := 3) C dL_law_288 (by decide) ?_
  refine x_icmp_ne (tgt := 351) C dL_law_289 (by decide) (fun h => absurd (show nI 3 = (3 : Int32) by decide) h) (fun _ => ?_)
  exact x_widen (by omega) (by omega) kk
set_option maxRecDepth 100000 in
set_option maxHeartbeats 4000000 in
theorem lq_292 {p : Program} {l : Launch} {e : Env} {s : State} {m : MethodId} {args : Array Value} {below : List Frame} {meth : Method} {c : Code} {Q : State → Prop} {ρ : bsR} {sc L : Nat} {xs : Nat → Int32} {cA : Nat → ClassId} {dC : Nat → ClassId} {dI : Nat → Nat → Nat} {A : Nat → Prop} {Ts : List Cond} {Rz : va_W} {ret : Option FieldType} (C : xCx p m c cL_law 6 s args Ts RL ρ sc L xs cA dC dI A meth ret) (hst : l.stackTraces = false) {cl sl : Nat} {lv : List (Nat × Value)} {X X' : bsX} (h3 : lv.lookup 3 = some (.ref (ρ 13 0 0))) (hf : fX8_install 4 X = some (3, 0, X')) (hcl : cl + 11 ≤ 600086) (hsl : sl + 62 ≤ 7301442)
    (kk : xV p l e room_1 s m args below meth c (cl + 11) (sl + 62) Q ρ cA dC dI A Rz 6 308 lv [] X') : xV p l e room_1 s m args below meth c cl sl Q ρ cA dC dI A Rz 6 292 lv [] X := by
  refine x_aload_n C dL_law_292 rfl h3 ?_
  refine x_iconst (v := 3) C dL_law_293 (by decide) ?_
  refine x_iconst (v := 1) C dL_law_294 (by decide) ?_
  refine x_newi (N := 1) C (by decide) (by decide) (by decide) ⟨by show cl + 1 ≤ 600086; omega, by show sl + 1 ≤ 7301442; omega⟩ dL_law_295 (fun u => ?_)
  refine x_eq (Rz' := Rz ++ ([] ++ [(u, .inl (cA 0, 1, .inl (fun _ => (0 : Int32))))])) rfl ?_
  refine x_dup C dL_law_297 rfl ?_
  refine x_iconst (v := 0) C dL_law_298 (by decide) ?_
  refine x_iconst (v := 4) C dL_law_299 (by decide) ?_
  refine xu_st (T' := [(u, .inl (cA 0, 1, .inl (upd (fun _ => (0 : Int32)) 0 4)))]) C 0 rfl (by decide) rfl dL_law_300 ?_
  refine xu_thrown (k := 3) C 0 rfl (by decide) ⟨by decide, by decide⟩ (fun R2 q2 b h9 => cL_calls_3 (r := (3, 0, X')) hst h9 hf (show 0 < 3 by decide)) ⟨Nat.le_of_ble_eq_true rfl, Nat.le_of_ble_eq_true rfl⟩ ⟨by show cl + 1 + 10 ≤ 600086; omega, by show sl + 1 + 60 ≤ 7301442; omega⟩ rfl (Nat.le_of_ble_eq_true rfl) dL_law_301 ?_
  refine x_subl (Rz' := Rz) (List.sublist_append_left Rz _) ?_
  refine x_iconst (v := 3) C dL_law_304 (by decide) ?_
  refine x_icmp_ne (tgt := 351) C dL_law_305 (by decide) (fun h => absurd (show nI 3 = (3 : Int32) by decide) h) (fun _ => ?_)
  exact x_widen (by omega) (by omega) kk
set_option maxRecDepth 100000 in
set_option maxHeartbeats 4000000 in
theorem lq_308 {p : Program} {l : Launch} {e : Env} {s : State} {m : MethodId} {args : Array Value} {below : List Frame} {meth : Method} {c : Code} {Q : State → Prop} {ρ : bsR} {sc L : Nat} {xs : Nat → Int32} {cA : Nat → ClassId} {dC : Nat → ClassId} {dI : Nat → Nat → Nat} {A : Nat → Prop} {Ts : List Cond} {Rz : va_W} {ret : Option FieldType} (C : xCx p m c cL_law 6 s args Ts RL ρ sc L xs cA dC dI A meth ret) (hst : l.stackTraces = false) {cl sl : Nat} {lv : List (Nat × Value)} {X X' : bsX} (h3 : lv.lookup 3 = some (.ref (ρ 13 0 0))) (hf : fX8_boot 0 4 X = some (3, 0, X')) (hcl : cl + 11 ≤ 600086) (hsl : sl + 62 ≤ 7301442)
    (kk : xV p l e room_1 s m args below meth c (cl + 11) (sl + 62) Q ρ cA dC dI A Rz 6 328 lv [] X') : xV p l e room_1 s m args below meth c cl sl Q ρ cA dC dI A Rz 6 308 lv [] X := by
  refine x_aload_n C dL_law_308 rfl h3 ?_
  refine x_iconst (v := 4) C dL_law_309 (by decide) ?_
  refine x_iconst (v := 2) C dL_law_310 (by decide) ?_
  refine x_newi (N := 2) C (by decide) (by decide) (by decide) ⟨by show cl + 1 ≤ 600086; omega, by show sl + 2 ≤ 7301442; omega⟩ dL_law_311 (fun u => ?_)
  refine x_eq (Rz' := Rz ++ ([] ++ [(u, .inl (cA 0, 2, .inl (fun _ => (0 : Int32))))])) rfl ?_
  refine x_dup C dL_law_313 rfl ?_
  refine x_iconst (v := 0) C dL_law_314 (by decide) ?_
  refine x_iconst (v := 0) C dL_law_315 (by decide) ?_
  refine xu_st (T' := [(u, .inl (cA 0, 2, .inl (upd (fun _ => (0 : Int32)) 0 0)))]) C 0 rfl (by decide) rfl dL_law_316 ?_
  refine x_dup C dL_law_317 rfl ?_
  refine x_iconst (v := 1) C dL_law_318 (by decide) ?_
  refine x_iconst (v := 4) C dL_law_319 (by decide) ?_
  refine xu_st (T' := [(u, .inl (cA 0, 2, .inl (upd (upd (fun _ => (0 : Int32)) 0 0) 1 4)))]) C 0 rfl (by decide) rfl dL_law_320 ?_
  refine xu_thrown (k := 3) C 0 rfl (by decide) ⟨by decide, by decide⟩ (fun R2 q2 b h9 => cL_calls_4 (r := (3, 0, X')) hst h9 hf (show 0 < 3 by decide)) ⟨Nat.le_of_ble_eq_true rfl, Nat.le_of_ble_eq_true rfl⟩ ⟨by show cl + 1 + 10 ≤ 600086; omega, by show sl + 2 + 60 ≤ 7301442; omega⟩ rfl (Nat.le_of_ble_eq_true rfl) dL_law_321 ?_
  refine x_subl (Rz' := Rz) (List.sublist_append_left Rz _) ?_
  refine x_iconst (v := 3) C dL_law_324 (by decide) ?_
  refine x_icmp_ne (tgt := 351) C dL_law_325 (by decide) (fun h => absurd (show nI 3 = (3 : Int32) by decide) h) (fun _ => ?_)
  exact x_widen (by omega) (by omega) kk
set_option maxRecDepth 100000 in
set_option maxHeartbeats 4000000 in
theorem lq_328 {p : Program} {l : Launch} {e : Env} {s : State} {m : MethodId} {args : Array Value} {below : List Frame} {meth : Method} {c : Code} {Q : State → Prop} {ρ : bsR} {sc L : Nat} {xs : Nat → Int32} {cA : Nat → ClassId} {dC : Nat → ClassId} {dI : Nat → Nat → Nat} {A : Nat → Prop} {Ts : List Cond} {Rz : va_W} {ret : Option FieldType} (C : xCx p m c cL_law 6 s args Ts RL ρ sc L xs cA dC dI A meth ret) (hst : l.stackTraces = false) {cl sl : Nat} {lv : List (Nat × Value)} {X X' : bsX} (h3 : lv.lookup 3 = some (.ref (ρ 13 0 0))) (hf : fX8_tick 301 X = some (3, 0, X')) (hcl : cl + 11 ≤ 600086) (hsl : sl + 62 ≤ 7301442)
    (kk : xV p l e room_1 s m args below meth c (cl + 11) (sl + 62) Q ρ cA dC dI A Rz 6 347 lv [] X') : xV p l e room_1 s m args below meth c cl sl Q ρ cA dC dI A Rz 6 328 lv [] X := by
  refine x_aload_n C dL_law_328 rfl h3 ?_
  refine x_bipush (v := 8) C dL_law_329 (by decide) ?_
  refine x_iconst (v := 1) C dL_law_331 (by decide) ?_
  refine x_newi (N := 1) C (by decide) (by decide) (by decide) ⟨by show cl + 1 ≤ 600086; omega, by show sl + 1 ≤ 7301442; omega⟩ dL_law_332 (fun u => ?_)
  refine x_eq (Rz' := Rz ++ ([] ++ [(u, .inl (cA 0, 1, .inl (fun _ => (0 : Int32))))])) rfl ?_
  refine x_dup C dL_law_334 rfl ?_
  refine x_iconst (v := 0) C dL_law_335 (by decide) ?_
  refine x_sipush (v := 301) C dL_law_336 (by decide) ?_
  refine xu_st (T' := [(u, .inl (cA 0, 1, .inl (upd (fun _ => (0 : Int32)) 0 301)))]) C 0 rfl (by decide) rfl dL_law_339 ?_
  refine xu_thrown (k := 3) C 0 rfl (by decide) ⟨by decide, by decide⟩ (fun R2 q2 b h9 => cL_calls_8 (r := (3, 0, X')) hst h9 hf (show 0 < 3 by decide)) ⟨Nat.le_of_ble_eq_true rfl, Nat.le_of_ble_eq_true rfl⟩ ⟨by show cl + 1 + 10 ≤ 600086; omega, by show sl + 1 + 60 ≤ 7301442; omega⟩ rfl (Nat.le_of_ble_eq_true rfl) dL_law_340 ?_
  refine x_subl (Rz' := Rz) (List.sublist_append_left Rz _) ?_
  refine x_iconst (v := 3) C dL_law_343 (by decide) ?_
  refine x_icmp_ne (tgt := 351) C dL_law_344 (by decide) (fun h => absurd (show nI 3 = (3 : Int32) by decide) h) (fun _ => ?_)
  exact x_widen (by omega) (by omega) kk
