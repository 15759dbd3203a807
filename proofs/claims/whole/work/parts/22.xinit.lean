theorem va_AOA.moved {ty : FieldType} {u U : State} (hvm : u.vm.Alike U.vm) (h : va_AOA ty u) : va_AOA ty U := arrayOver_alikeB hvm h
theorem xK_same {D : va_G} {cl : List vw_C} {tys : List (ClassId × FieldType)} {s : State} (hK : va_K D cl tys s) (i j : Nat) {c1 c2 : ClassId} {ty : FieldType} (hty : ∀ C, ty ≠ .object C) (h1 : tys[i]? = some (c1, ty)) (h2 : tys[j]? = some (c2, ty)) : c1 = c2 := by
  have a1 := (hK.2 i _ h1).2
  have a2 := (hK.2 j _ h2).2
  cases ty with
  | object C => exact absurd rfl (hty C)
  | _ => exact Option.some.inj (a1.symm.trans a2)
theorem vr_same {L : List Nat} {f : Nat → va_E} {e : va_E} : va_pl ([] ++ L) (vr_up f L e) = L.map (fun a => (a, e)) := by
  rw [List.nil_append]
  unfold va_pl
  apply List.map_congr_left
  intro a ha
  rw [vr_up_in ha]
/-- what a new object is: its addresses, its rows' kinds -/
abbrev xNew (D : va_G) (A : Nat → Prop) (mm : Int64) (u : (Nat → Nat) × ClassId × ClassId × ClassId) (t : State) : Prop := va_P D vwCl (wX u.1 u.2.1 u.2.2.1 u.2.2.2 (SX0 mm)) t.heap ∧ va_K D vwCl (tyX u.2.1 u.2.2.1 u.2.2.2) t ∧ va_D A (wX u.1 u.2.1 u.2.2.1 u.2.2.2 (SX0 mm))
set_option maxHeartbeats 4000000 in
set_option maxRecDepth 100000 in
theorem c_X0_init (l : Launch) (dC : Nat → ClassId) (dI : Nat → Nat → Nat) (h0 : Nat) (sz : Nat) (a b : Int32) : Met l yX0_init wsX0_init ({ frames := 2, cells := 18, slots := 108, locals := 48 }) (va_Pc [.ref h0, .int a, .int b] (fun U => U.heap.size = sz ∧ va_P (dC, dI) vwCl ([(h0, .inr (0, [.long 0, .long 0, .int 0, .int 0, .long 0, .long 0, .null, .null, .null, .null, .null, .null, .null, .int 0, .null]))]) U.heap ∧ va_K (dC, dI) vwCl [] U ∧ va_D (fun _ => True) ([(h0, .inr (0, [.long 0, .long 0, .int 0, .int 0, .long 0, .long 0, .null, .null, .null, .null, .null, .null, .null, .int 0, .null]))]) ∧ va_AOA .long U)) (va_Qv (fun u : (Nat → Nat) × ClassId × ClassId × ClassId => u.1 0 = h0) (xNew (dC, dI) (va_A ([(h0, .inr (0, [.long 0, .long 0, .int 0, .int 0, .long 0, .long 0, .null, .null, .null, .null, .null, .null, .null, .int 0, .null]))]) sz) (h2 a.toInt64 b.toInt64)) (va_A ([(h0, .inr (0, [.long 0, .long 0, .int 0, .int 0, .long 0, .long 0, .null, .null, .null, .null, .null, .null, .null, .int 0, .null]))]) sz)) 18 108 (va_A ([(h0, .inr (0, [.long 0, .long 0, .int 0, .int 0, .long 0, .long 0, .null, .null, .null, .null, .null, .null, .null, .int 0, .null]))]) sz) := by
  refine Met.ofW (cc := cX0_init) (maxL := 3) (ret := none) (by decide) rfl ?_
  intro p e s m args below meth c s₁ B hml hv
  obtain ⟨rfl, hsz, hP, hK, hD0, hAO⟩ := hv
  have hx := B.exec
  have hb := B.bytes
  have hr := B.returns
  have hts := atoms_spec (ws := wsX0_init) B.pre
  have hown : s.vm.findClass RX0 = some m.cls := findClass_of_methodNamed B.named
  have hlocks := B.notSynchronized
  have hin9 : meth.name = "<init>" := (name_of_methodNamed B.named B.method).1
  have hin : ∀ w ∈ wsX00, w ∈ wsX0_init := fun _ h => List.mem_cons_of_mem _ (List.mem_append_right _ h)
  subst hsz
  have hD := hD0.self (sz := s.heap.size)
  generalize hAe : va_A ([(h0, .inr (0, [.long 0, .long 0, .int 0, .int 0, .long 0, .long 0, .null, .null, .null, .null, .null, .null, .null, .int 0, .null]))]) s.heap.size = A at hD ⊢
  have hA : ∀ q : Nat, s.heap.size ≤ q → A q := fun q h => by rw [← hAe]; exact Or.inr h
  have hS : va_S A s.heap s.heap [] := va_S.rf
  have hP : va_P (dC, dI) vwCl ([(h0, .inr (0, [.long 0, .long 0, .int 0, .int 0, .long 0, .long 0, .null, .null, .null, .null, .null, .null, .null, .int 0, .null]))]) s.heap := hP
  have hl := lv_entry ([.ref h0, .int a, .int b]) (n := 3) (Nat.le_of_ble_eq_true rfl)
  rw [lg_entry_eq]
  generalize (lg_sl ([.ref h0, .int a, .int b]) ++ List.replicate (3 - (lg_sl ([.ref h0, .int a, .int b])).length) Slot.unset).toArray = ls at hl ⊢
  have hl : lv_has ls 3 [(0, .ref h0), (1, .int a), (2, .int b)] := hl
  refine lv_aload_n hx hb dX0_init_0 rfl (lv_at hl 0 rfl) ?_
  refine W.objInit hx hb hown (hts (.methodLink RX0 1 objectInit) (by decide +kernel)) (hts (.instanceMethod objectInit) (by decide +kernel)) (hts (.code objectInit ⟨#[0xb1]⟩ 1 none) (by decide +kernel)) rfl (by rw [hml]; exact hl.1) rfl dX0_init_1 (Nat.le_of_ble_eq_true rfl) (Nat.le_of_ble_eq_true rfl) ?_
  refine W.eq (g2 := F0 m 4 ls []) rfl ?_
  refine lv_aload_n hx hb dX0_init_4 rfl (lv_at hl 0 rfl) ?_
  refine lv_iload_n hx hb dX0_init_5 rfl (lv_at hl 1 rfl) ?_
  refine lv_i2l hx hb dX0_init_6 rfl ?_
  refine lv_iload_n hx hb dX0_init_7 rfl (lv_at hl 2 rfl) ?_
  refine lv_i2l hx hb dX0_init_8 rfl ?_
  refine vp_callSl (va_Run.run (va_runS (As := [.long a.toInt64, .long b.toInt64]) (rest := [.ref h0]) ⟨hx, hb, hml, hown, hts⟩ (c_X0_hash2 l a.toInt64 b.toInt64) (va_cwS 2 hts gX0_init_X0_hash2 rfl rfl rfl (by decide +kernel) ⟨Nat.le_of_ble_eq_true rfl, Nat.le_of_ble_eq_true rfl⟩) (xpS_n _) rfl rfl hl.1 rfl (lv_room (Nat.le_of_ble_eq_true rfl)) dX0_init_9 ⟨Nat.le_of_ble_eq_true rfl, Nat.le_of_ble_eq_true rfl⟩)) (fun r hr9 => ?_)
  subst hr9
  refine va_putF (D := (dC, dI)) (ci := 0) (v := .long (h2 a.toInt64 b.toInt64)) (ty := .long) (C := RX0) (T := TX0) (N := 15) hx hb hts hin tyX0 tyX0_ok nmX0 hown hK hP hD hS 0 rfl rfl 0 (by decide) (hts (.fieldLink RX0 13 RX0 "machineSecret" "J") (by decide +kernel)) (fun _ h9 => h9) rfl hin9 rfl (by decide +kernel) rfl rfl (Nat.le_of_ble_eq_true rfl) dX0_init_12 (fun H locs hP hD hS => ?_)
  have hP : va_P (dC, dI) vwCl [(h0, .inr (0, [.long (h2 a.toInt64 b.toInt64), .long 0, .int 0, .int 0, .long 0, .long 0, .null, .null, .null, .null, .null, .null, .null, .int 0, .null]))] H := hP
  have hD : va_D A [(h0, .inr (0, [.long (h2 a.toInt64 b.toInt64), .long 0, .int 0, .int 0, .long 0, .long 0, .null, .null, .null, .null, .null, .null, .null, .int 0, .null]))] := hD
  refine lv_aload_n hx hb dX0_init_15 rfl (lv_at hl 0 rfl) ?_
  refine lv_bipush (v := 8) hx hb dX0_init_16 (by decide) ?_
  refine va_newa (atype := .long) hx hb (hts (.arrayClass .long) (by decide +kernel)) rfl hK hP hD hS hA (N' := 8) (a0 := (8, .inr (.inl (fun _ => 0)))) (fun _ => rfl) (by decide) (by decide) (Nat.le_of_ble_eq_true rfl) (Nat.le_of_ble_eq_true rfl) (Nat.le_of_ble_eq_true rfl) dX0_init_18 (fun q1 c1 H hK hP hD hS => ?_)
  refine W.widen (k := 1) (n := 8) (Nat.le_of_ble_eq_true rfl) (Nat.le_of_ble_eq_true rfl) ?_
  have hK : va_K (dC, dI) vwCl [(c1, .long)] s := hK
  have hP : va_P (dC, dI) vwCl [(h0, .inr (0, [.long (h2 a.toInt64 b.toInt64), .long 0, .int 0, .int 0, .long 0, .long 0, .null, .null, .null, .null, .null, .null, .null, .int 0, .null])), (q1, .inl (c1, (8, .inr (.inl (fun _ => 0)))))] H := hP
  have hD : va_D A [(h0, .inr (0, [.long (h2 a.toInt64 b.toInt64), .long 0, .int 0, .int 0, .long 0, .long 0, .null, .null, .null, .null, .null, .null, .null, .int 0, .null])), (q1, .inl (c1, (8, .inr (.inl (fun _ => 0)))))] := hD
  refine va_putF (D := (dC, dI)) (ci := 0) (v := .ref q1) (ty := (.array .long)) (C := RX0) (T := TX0) (N := 15) hx hb hts hin tyX0 tyX0_ok nmX0 hown hK hP hD hS 0 rfl rfl 6 (by decide) (hts (.fieldLink RX0 17 RX0 "registers" "[J") (by decide +kernel)) (fun _ h9 => h9) rfl hin9 rfl (by decide +kernel) rfl rfl (Nat.le_of_ble_eq_true rfl) dX0_init_20 (fun H locs hP hD hS => ?_)
  have hP : va_P (dC, dI) vwCl [(h0, .inr (0, [.long (h2 a.toInt64 b.toInt64), .long 0, .int 0, .int 0, .long 0, .long 0, .ref q1, .null, .null, .null, .null, .null, .null, .int 0, .null])), (q1, .inl (c1, (8, .inr (.inl (fun _ => 0)))))] H := hP
  have hD : va_D A [(h0, .inr (0, [.long (h2 a.toInt64 b.toInt64), .long 0, .int 0, .int 0, .long 0, .long 0, .ref q1, .null, .null, .null, .null, .null, .null, .int 0, .null])), (q1, .inl (c1, (8, .inr (.inl (fun _ => 0)))))] := hD
  refine lv_aload_n hx hb dX0_init_23 rfl (lv_at hl 0 rfl) ?_
  refine lv_bipush (v := 6) hx hb dX0_init_24 (by decide) ?_
  refine va_newa (atype := .boolean) hx hb (hts (.arrayClass .boolean) (by decide +kernel)) rfl hK hP hD hS hA (N' := 6) (a0 := (6, .inl (fun _ => 0))) (fun _ => rfl) (by decide) (by decide) (Nat.le_of_ble_eq_true rfl) (Nat.le_of_ble_eq_true rfl) (Nat.le_of_ble_eq_true rfl) dX0_init_26 (fun q2 c2 H hK hP hD hS => ?_)
  refine W.widen (k := 2) (n := 14) (Nat.le_of_ble_eq_true rfl) (Nat.le_of_ble_eq_true rfl) ?_
  have hK : va_K (dC, dI) vwCl [(c1, .long), (c2, .boolean)] s := hK
  have hP : va_P (dC, dI) vwCl [(h0, .inr (0, [.long (h2 a.toInt64 b.toInt64), .long 0, .int 0, .int 0, .long 0, .long 0, .ref q1, .null, .null, .null, .null, .null, .null, .int 0, .null])), (q1, .inl (c1, (8, .inr (.inl (fun _ => 0))))), (q2, .inl (c2, (6, .inl (fun _ => 0))))] H := hP
  have hD : va_D A [(h0, .inr (0, [.long (h2 a.toInt64 b.toInt64), .long 0, .int 0, .int 0, .long 0, .long 0, .ref q1, .null, .null, .null, .null, .null, .null, .int 0, .null])), (q1, .inl (c1, (8, .inr (.inl (fun _ => 0))))), (q2, .inl (c2, (6, .inl (fun _ => 0))))] := hD
  refine va_putF (D := (dC, dI)) (ci := 0) (v := .ref q2) (ty := (.array .boolean)) (C := RX0) (T := TX0) (N := 15) hx hb hts hin tyX0 tyX0_ok nmX0 hown hK hP hD hS 0 rfl rfl 7 (by decide) (hts (.fieldLink RX0 21 RX0 "keyThere" "[Z") (by decide +kernel)) (fun _ h9 => h9) rfl hin9 rfl (by decide +kernel) rfl rfl (Nat.le_of_ble_eq_true rfl) dX0_init_28 (fun H locs hP hD hS => ?_)
  have hP : va_P (dC, dI) vwCl [(h0, .inr (0, [.long (h2 a.toInt64 b.toInt64), .long 0, .int 0, .int 0, .long 0, .long 0, .ref q1, .ref q2, .null, .null, .null, .null, .null, .int 0, .null])), (q1, .inl (c1, (8, .inr (.inl (fun _ => 0))))), (q2, .inl (c2, (6, .inl (fun _ => 0))))] H := hP
  have hD : va_D A [(h0, .inr (0, [.long (h2 a.toInt64 b.toInt64), .long 0, .int 0, .int 0, .long 0, .long 0, .ref q1, .ref q2, .null, .null, .null, .null, .null, .int 0, .null])), (q1, .inl (c1, (8, .inr (.inl (fun _ => 0))))), (q2, .inl (c2, (6, .inl (fun _ => 0))))] := hD
  refine lv_aload_n hx hb dX0_init_31 rfl (lv_at hl 0 rfl) ?_
  refine lv_bipush (v := 6) hx hb dX0_init_32 (by decide) ?_
  refine va_newa (atype := .long) hx hb (hts (.arrayClass .long) (by decide +kernel)) rfl hK hP hD hS hA (N' := 6) (a0 := (6, .inr (.inl (fun _ => 0)))) (fun _ => rfl) (by decide) (by decide) (Nat.le_of_ble_eq_true rfl) (Nat.le_of_ble_eq_true rfl) (Nat.le_of_ble_eq_true rfl) dX0_init_34 (fun q3 c3 H hK hP hD hS => ?_)
  refine W.widen (k := 3) (n := 20) (Nat.le_of_ble_eq_true rfl) (Nat.le_of_ble_eq_true rfl) ?_
  have hK : va_K (dC, dI) vwCl [(c1, .long), (c2, .boolean), (c3, .long)] s := hK
  have ec3 : c1 = c3 := xK_same hK 0 2 (fun _ h => by cases h) rfl rfl
  subst ec3
  have hK := hK.sub (tys' := [(c1, .long), (c2, .boolean)]) [0, 1] rfl
  have hP : va_P (dC, dI) vwCl [(h0, .inr (0, [.long (h2 a.toInt64 b.toInt64), .long 0, .int 0, .int 0, .long 0, .long 0, .ref q1, .ref q2, .null, .null, .null, .null, .null, .int 0, .null])), (q1, .inl (c1, (8, .inr (.inl (fun _ => 0))))), (q2, .inl (c2, (6, .inl (fun _ => 0)))), (q3, .inl (c1, (6, .inr (.inl (fun _ => 0)))))] H := hP
  have hD : va_D A [(h0, .inr (0, [.long (h2 a.toInt64 b.toInt64), .long 0, .int 0, .int 0, .long 0, .long 0, .ref q1, .ref q2, .null, .null, .null, .null, .null, .int 0, .null])), (q1, .inl (c1, (8, .inr (.inl (fun _ => 0))))), (q2, .inl (c2, (6, .inl (fun _ => 0)))), (q3, .inl (c1, (6, .inr (.inl (fun _ => 0)))))] := hD
  refine va_putF (D := (dC, dI)) (ci := 0) (v := .ref q3) (ty := (.array .long)) (C := RX0) (T := TX0) (N := 15) hx hb hts hin tyX0 tyX0_ok nmX0 hown hK hP hD hS 0 rfl rfl 8 (by decide) (hts (.fieldLink RX0 25 RX0 "keySecrets" "[J") (by decide +kernel)) (fun _ h9 => h9) rfl hin9 rfl (by decide +kernel) rfl rfl (Nat.le_of_ble_eq_true rfl) dX0_init_36 (fun H locs hP hD hS => ?_)
  have hP : va_P (dC, dI) vwCl [(h0, .inr (0, [.long (h2 a.toInt64 b.toInt64), .long 0, .int 0, .int 0, .long 0, .long 0, .ref q1, .ref q2, .ref q3, .null, .null, .null, .null, .int 0, .null])), (q1, .inl (c1, (8, .inr (.inl (fun _ => 0))))), (q2, .inl (c2, (6, .inl (fun _ => 0)))), (q3, .inl (c1, (6, .inr (.inl (fun _ => 0)))))] H := hP
  have hD : va_D A [(h0, .inr (0, [.long (h2 a.toInt64 b.toInt64), .long 0, .int 0, .int 0, .long 0, .long 0, .ref q1, .ref q2, .ref q3, .null, .null, .null, .null, .int 0, .null])), (q1, .inl (c1, (8, .inr (.inl (fun _ => 0))))), (q2, .inl (c2, (6, .inl (fun _ => 0)))), (q3, .inl (c1, (6, .inr (.inl (fun _ => 0)))))] := hD
  refine lv_aload_n hx hb dX0_init_39 rfl (lv_at hl 0 rfl) ?_
  refine lv_bipush (v := 6) hx hb dX0_init_40 (by decide) ?_
  refine va_newa (atype := .long) hx hb (hts (.arrayClass .long) (by decide +kernel)) rfl hK hP hD hS hA (N' := 6) (a0 := (6, .inr (.inl (fun _ => 0)))) (fun _ => rfl) (by decide) (by decide) (Nat.le_of_ble_eq_true rfl) (Nat.le_of_ble_eq_true rfl) (Nat.le_of_ble_eq_true rfl) dX0_init_42 (fun q4 c4 H hK hP hD hS => ?_)
  refine W.widen (k := 4) (n := 26) (Nat.le_of_ble_eq_true rfl) (Nat.le_of_ble_eq_true rfl) ?_
  have hK : va_K (dC, dI) vwCl [(c1, .long), (c2, .boolean), (c4, .long)] s := hK
  have ec4 : c1 = c4 := xK_same hK 0 2 (fun _ h => by cases h) rfl rfl
  subst ec4
  have hK := hK.sub (tys' := [(c1, .long), (c2, .boolean)]) [0, 1] rfl
  have hP : va_P (dC, dI) vwCl [(h0, .inr (0, [.long (h2 a.toInt64 b.toInt64), .long 0, .int 0, .int 0, .long 0, .long 0, .ref q1, .ref q2, .ref q3, .null, .null, .null, .null, .int 0, .null])), (q1, .inl (c1, (8, .inr (.inl (fun _ => 0))))), (q2, .inl (c2, (6, .inl (fun _ => 0)))), (q3, .inl (c1, (6, .inr (.inl (fun _ => 0))))), (q4, .inl (c1, (6, .inr (.inl (fun _ => 0)))))] H := hP
  have hD : va_D A [(h0, .inr (0, [.long (h2 a.toInt64 b.toInt64), .long 0, .int 0, .int 0, .long 0, .long 0, .ref q1, .ref q2, .ref q3, .null, .null, .null, .null, .int 0, .null])), (q1, .inl (c1, (8, .inr (.inl (fun _ => 0))))), (q2, .inl (c2, (6, .inl (fun _ => 0)))), (q3, .inl (c1, (6, .inr (.inl (fun _ => 0))))), (q4, .inl (c1, (6, .inr (.inl (fun _ => 0)))))] := hD
  refine va_putF (D := (dC, dI)) (ci := 0) (v := .ref q4) (ty := (.array .long)) (C := RX0) (T := TX0) (N := 15) hx hb hts hin tyX0 tyX0_ok nmX0 hown hK hP hD hS 0 rfl rfl 9 (by decide) (hts (.fieldLink RX0 28 RX0 "keyNames" "[J") (by decide +kernel)) (fun _ h9 => h9) rfl hin9 rfl (by decide +kernel) rfl rfl (Nat.le_of_ble_eq_true rfl) dX0_init_44 (fun H locs hP hD hS => ?_)
  have hP : va_P (dC, dI) vwCl [(h0, .inr (0, [.long (h2 a.toInt64 b.toInt64), .long 0, .int 0, .int 0, .long 0, .long 0, .ref q1, .ref q2, .ref q3, .ref q4, .null, .null, .null, .int 0, .null])), (q1, .inl (c1, (8, .inr (.inl (fun _ => 0))))), (q2, .inl (c2, (6, .inl (fun _ => 0)))), (q3, .inl (c1, (6, .inr (.inl (fun _ => 0))))), (q4, .inl (c1, (6, .inr (.inl (fun _ => 0)))))] H := hP
  have hD : va_D A [(h0, .inr (0, [.long (h2 a.toInt64 b.toInt64), .long 0, .int 0, .int 0, .long 0, .long 0, .ref q1, .ref q2, .ref q3, .ref q4, .null, .null, .null, .int 0, .null])), (q1, .inl (c1, (8, .inr (.inl (fun _ => 0))))), (q2, .inl (c2, (6, .inl (fun _ => 0)))), (q3, .inl (c1, (6, .inr (.inl (fun _ => 0))))), (q4, .inl (c1, (6, .inr (.inl (fun _ => 0)))))] := hD
  refine lv_aload_n hx hb dX0_init_47 rfl (lv_at hl 0 rfl) ?_
  refine lv_iconst (v := 4) hx hb dX0_init_48 (by decide) ?_
  refine va_newa (atype := .boolean) hx hb (hts (.arrayClass .boolean) (by decide +kernel)) rfl hK hP hD hS hA (N' := 4) (a0 := (4, .inl (fun _ => 0))) (fun _ => rfl) (by decide) (by decide) (Nat.le_of_ble_eq_true rfl) (Nat.le_of_ble_eq_true rfl) (Nat.le_of_ble_eq_true rfl) dX0_init_49 (fun q5 c5 H hK hP hD hS => ?_)
  refine W.widen (k := 5) (n := 30) (Nat.le_of_ble_eq_true rfl) (Nat.le_of_ble_eq_true rfl) ?_
  have hK : va_K (dC, dI) vwCl [(c1, .long), (c2, .boolean), (c5, .boolean)] s := hK
  have ec5 : c2 = c5 := xK_same hK 1 2 (fun _ h => by cases h) rfl rfl
  subst ec5
  have hK := hK.sub (tys' := [(c1, .long), (c2, .boolean)]) [0, 1] rfl
  have hP : va_P (dC, dI) vwCl [(h0, .inr (0, [.long (h2 a.toInt64 b.toInt64), .long 0, .int 0, .int 0, .long 0, .long 0, .ref q1, .ref q2, .ref q3, .ref q4, .null, .null, .null, .int 0, .null])), (q1, .inl (c1, (8, .inr (.inl (fun _ => 0))))), (q2, .inl (c2, (6, .inl (fun _ => 0)))), (q3, .inl (c1, (6, .inr (.inl (fun _ => 0))))), (q4, .inl (c1, (6, .inr (.inl (fun _ => 0))))), (q5, .inl (c2, (4, .inl (fun _ => 0))))] H := hP
  have hD : va_D A [(h0, .inr (0, [.long (h2 a.toInt64 b.toInt64), .long 0, .int 0, .int 0, .long 0, .long 0, .ref q1, .ref q2, .ref q3, .ref q4, .null, .null, .null, .int 0, .null])), (q1, .inl (c1, (8, .inr (.inl (fun _ => 0))))), (q2, .inl (c2, (6, .inl (fun _ => 0)))), (q3, .inl (c1, (6, .inr (.inl (fun _ => 0))))), (q4, .inl (c1, (6, .inr (.inl (fun _ => 0))))), (q5, .inl (c2, (4, .inl (fun _ => 0))))] := hD
  refine va_putF (D := (dC, dI)) (ci := 0) (v := .ref q5) (ty := (.array .boolean)) (C := RX0) (T := TX0) (N := 15) hx hb hts hin tyX0 tyX0_ok nmX0 hown hK hP hD hS 0 rfl rfl 10 (by decide) (hts (.fieldLink RX0 31 RX0 "sessionThere" "[Z") (by decide +kernel)) (fun _ h9 => h9) rfl hin9 rfl (by decide +kernel) rfl rfl (Nat.le_of_ble_eq_true rfl) dX0_init_51 (fun H locs hP hD hS => ?_)
  have hP : va_P (dC, dI) vwCl [(h0, .inr (0, [.long (h2 a.toInt64 b.toInt64), .long 0, .int 0, .int 0, .long 0, .long 0, .ref q1, .ref q2, .ref q3, .ref q4, .ref q5, .null, .null, .int 0, .null])), (q1, .inl (c1, (8, .inr (.inl (fun _ => 0))))), (q2, .inl (c2, (6, .inl (fun _ => 0)))), (q3, .inl (c1, (6, .inr (.inl (fun _ => 0))))), (q4, .inl (c1, (6, .inr (.inl (fun _ => 0))))), (q5, .inl (c2, (4, .inl (fun _ => 0))))] H := hP
  have hD : va_D A [(h0, .inr (0, [.long (h2 a.toInt64 b.toInt64), .long 0, .int 0, .int 0, .long 0, .long 0, .ref q1, .ref q2, .ref q3, .ref q4, .ref q5, .null, .null, .int 0, .null])), (q1, .inl (c1, (8, .inr (.inl (fun _ => 0))))), (q2, .inl (c2, (6, .inl (fun _ => 0)))), (q3, .inl (c1, (6, .inr (.inl (fun _ => 0))))), (q4, .inl (c1, (6, .inr (.inl (fun _ => 0))))), (q5, .inl (c2, (4, .inl (fun _ => 0))))] := hD
  refine lv_aload_n hx hb dX0_init_54 rfl (lv_at hl 0 rfl) ?_
  refine lv_iconst (v := 4) hx hb dX0_init_55 (by decide) ?_
  refine va_newa (atype := .long) hx hb (hts (.arrayClass .long) (by decide +kernel)) rfl hK hP hD hS hA (N' := 4) (a0 := (4, .inr (.inl (fun _ => 0)))) (fun _ => rfl) (by decide) (by decide) (Nat.le_of_ble_eq_true rfl) (Nat.le_of_ble_eq_true rfl) (Nat.le_of_ble_eq_true rfl) dX0_init_56 (fun q6 c6 H hK hP hD hS => ?_)
  refine W.widen (k := 6) (n := 34) (Nat.le_of_ble_eq_true rfl) (Nat.le_of_ble_eq_true rfl) ?_
  have hK : va_K (dC, dI) vwCl [(c1, .long), (c2, .boolean), (c6, .long)] s := hK
  have ec6 : c1 = c6 := xK_same hK 0 2 (fun _ h => by cases h) rfl rfl
  subst ec6
  have hK := hK.sub (tys' := [(c1, .long), (c2, .boolean)]) [0, 1] rfl
  have hP : va_P (dC, dI) vwCl [(h0, .inr (0, [.long (h2 a.toInt64 b.toInt64), .long 0, .int 0, .int 0, .long 0, .long 0, .ref q1, .ref q2, .ref q3, .ref q4, .ref q5, .null, .null, .int 0, .null])), (q1, .inl (c1, (8, .inr (.inl (fun _ => 0))))), (q2, .inl (c2, (6, .inl (fun _ => 0)))), (q3, .inl (c1, (6, .inr (.inl (fun _ => 0))))), (q4, .inl (c1, (6, .inr (.inl (fun _ => 0))))), (q5, .inl (c2, (4, .inl (fun _ => 0)))), (q6, .inl (c1, (4, .inr (.inl (fun _ => 0)))))] H := hP
  have hD : va_D A [(h0, .inr (0, [.long (h2 a.toInt64 b.toInt64), .long 0, .int 0, .int 0, .long 0, .long 0, .ref q1, .ref q2, .ref q3, .ref q4, .ref q5, .null, .null, .int 0, .null])), (q1, .inl (c1, (8, .inr (.inl (fun _ => 0))))), (q2, .inl (c2, (6, .inl (fun _ => 0)))), (q3, .inl (c1, (6, .inr (.inl (fun _ => 0))))), (q4, .inl (c1, (6, .inr (.inl (fun _ => 0))))), (q5, .inl (c2, (4, .inl (fun _ => 0)))), (q6, .inl (c1, (4, .inr (.inl (fun _ => 0)))))] := hD
  refine va_putF (D := (dC, dI)) (ci := 0) (v := .ref q6) (ty := (.array .long)) (C := RX0) (T := TX0) (N := 15) hx hb hts hin tyX0 tyX0_ok nmX0 hown hK hP hD hS 0 rfl rfl 11 (by decide) (hts (.fieldLink RX0 34 RX0 "callerNonces" "[J") (by decide +kernel)) (fun _ h9 => h9) rfl hin9 rfl (by decide +kernel) rfl rfl (Nat.le_of_ble_eq_true rfl) dX0_init_58 (fun H locs hP hD hS => ?_)
  have hP : va_P (dC, dI) vwCl [(h0, .inr (0, [.long (h2 a.toInt64 b.toInt64), .long 0, .int 0, .int 0, .long 0, .long 0, .ref q1, .ref q2, .ref q3, .ref q4, .ref q5, .ref q6, .null, .int 0, .null])), (q1, .inl (c1, (8, .inr (.inl (fun _ => 0))))), (q2, .inl (c2, (6, .inl (fun _ => 0)))), (q3, .inl (c1, (6, .inr (.inl (fun _ => 0))))), (q4, .inl (c1, (6, .inr (.inl (fun _ => 0))))), (q5, .inl (c2, (4, .inl (fun _ => 0)))), (q6, .inl (c1, (4, .inr (.inl (fun _ => 0)))))] H := hP
  have hD : va_D A [(h0, .inr (0, [.long (h2 a.toInt64 b.toInt64), .long 0, .int 0, .int 0, .long 0, .long 0, .ref q1, .ref q2, .ref q3, .ref q4, .ref q5, .ref q6, .null, .int 0, .null])), (q1, .inl (c1, (8, .inr (.inl (fun _ => 0))))), (q2, .inl (c2, (6, .inl (fun _ => 0)))), (q3, .inl (c1, (6, .inr (.inl (fun _ => 0))))), (q4, .inl (c1, (6, .inr (.inl (fun _ => 0))))), (q5, .inl (c2, (4, .inl (fun _ => 0)))), (q6, .inl (c1, (4, .inr (.inl (fun _ => 0)))))] := hD
  refine lv_aload_n hx hb dX0_init_61 rfl (lv_at hl 0 rfl) ?_
  refine lv_iconst (v := 4) hx hb dX0_init_62 (by decide) ?_
  refine va_newa (atype := .long) hx hb (hts (.arrayClass .long) (by decide +kernel)) rfl hK hP hD hS hA (N' := 4) (a0 := (4, .inr (.inl (fun _ => 0)))) (fun _ => rfl) (by decide) (by decide) (Nat.le_of_ble_eq_true rfl) (Nat.le_of_ble_eq_true rfl) (Nat.le_of_ble_eq_true rfl) dX0_init_63 (fun q7 c7 H hK hP hD hS => ?_)
  refine W.widen (k := 7) (n := 38) (Nat.le_of_ble_eq_true rfl) (Nat.le_of_ble_eq_true rfl) ?_
  have hK : va_K (dC, dI) vwCl [(c1, .long), (c2, .boolean), (c7, .long)] s := hK
  have ec7 : c1 = c7 := xK_same hK 0 2 (fun _ h => by cases h) rfl rfl
  subst ec7
  have hK := hK.sub (tys' := [(c1, .long), (c2, .boolean)]) [0, 1] rfl
  have hP : va_P (dC, dI) vwCl [(h0, .inr (0, [.long (h2 a.toInt64 b.toInt64), .long 0, .int 0, .int 0, .long 0, .long 0, .ref q1, .ref q2, .ref q3, .ref q4, .ref q5, .ref q6, .null, .int 0, .null])), (q1, .inl (c1, (8, .inr (.inl (fun _ => 0))))), (q2, .inl (c2, (6, .inl (fun _ => 0)))), (q3, .inl (c1, (6, .inr (.inl (fun _ => 0))))), (q4, .inl (c1, (6, .inr (.inl (fun _ => 0))))), (q5, .inl (c2, (4, .inl (fun _ => 0)))), (q6, .inl (c1, (4, .inr (.inl (fun _ => 0))))), (q7, .inl (c1, (4, .inr (.inl (fun _ => 0)))))] H := hP
  have hD : va_D A [(h0, .inr (0, [.long (h2 a.toInt64 b.toInt64), .long 0, .int 0, .int 0, .long 0, .long 0, .ref q1, .ref q2, .ref q3, .ref q4, .ref q5, .ref q6, .null, .int 0, .null])), (q1, .inl (c1, (8, .inr (.inl (fun _ => 0))))), (q2, .inl (c2, (6, .inl (fun _ => 0)))), (q3, .inl (c1, (6, .inr (.inl (fun _ => 0))))), (q4, .inl (c1, (6, .inr (.inl (fun _ => 0))))), (q5, .inl (c2, (4, .inl (fun _ => 0)))), (q6, .inl (c1, (4, .inr (.inl (fun _ => 0))))), (q7, .inl (c1, (4, .inr (.inl (fun _ => 0)))))] := hD
  refine va_putF (D := (dC, dI)) (ci := 0) (v := .ref q7) (ty := (.array .long)) (C := RX0) (T := TX0) (N := 15) hx hb hts hin tyX0 tyX0_ok nmX0 hown hK hP hD hS 0 rfl rfl 12 (by decide) (hts (.fieldLink RX0 37 RX0 "machineNonces" "[J") (by decide +kernel)) (fun _ h9 => h9) rfl hin9 rfl (by decide +kernel) rfl rfl (Nat.le_of_ble_eq_true rfl) dX0_init_65 (fun H locs hP hD hS => ?_)
  have hP : va_P (dC, dI) vwCl [(h0, .inr (0, [.long (h2 a.toInt64 b.toInt64), .long 0, .int 0, .int 0, .long 0, .long 0, .ref q1, .ref q2, .ref q3, .ref q4, .ref q5, .ref q6, .ref q7, .int 0, .null])), (q1, .inl (c1, (8, .inr (.inl (fun _ => 0))))), (q2, .inl (c2, (6, .inl (fun _ => 0)))), (q3, .inl (c1, (6, .inr (.inl (fun _ => 0))))), (q4, .inl (c1, (6, .inr (.inl (fun _ => 0))))), (q5, .inl (c2, (4, .inl (fun _ => 0)))), (q6, .inl (c1, (4, .inr (.inl (fun _ => 0))))), (q7, .inl (c1, (4, .inr (.inl (fun _ => 0)))))] H := hP
  have hD : va_D A [(h0, .inr (0, [.long (h2 a.toInt64 b.toInt64), .long 0, .int 0, .int 0, .long 0, .long 0, .ref q1, .ref q2, .ref q3, .ref q4, .ref q5, .ref q6, .ref q7, .int 0, .null])), (q1, .inl (c1, (8, .inr (.inl (fun _ => 0))))), (q2, .inl (c2, (6, .inl (fun _ => 0)))), (q3, .inl (c1, (6, .inr (.inl (fun _ => 0))))), (q4, .inl (c1, (6, .inr (.inl (fun _ => 0))))), (q5, .inl (c2, (4, .inl (fun _ => 0)))), (q6, .inl (c1, (4, .inr (.inl (fun _ => 0))))), (q7, .inl (c1, (4, .inr (.inl (fun _ => 0)))))] := hD
  refine lv_aload_n hx hb dX0_init_68 rfl (lv_at hl 0 rfl) ?_
  refine lv_bipush (v := 10) hx hb dX0_init_69 (by decide) ?_
  refine lv_bipush (v := 6) hx hb dX0_init_71 (by decide) ?_
  have hcy : s.vm.findClass (FieldType.array .long).toString = some c1 := (hK.2 0 _ rfl).2
  have hP0 : va_P (dC, dI) vwCl ([(h0, .inr (0, [.long (h2 a.toInt64 b.toInt64), .long 0, .int 0, .int 0, .long 0, .long 0, .ref q1, .ref q2, .ref q3, .ref q4, .ref q5, .ref q6, .ref q7, .int 0, .null])), (q1, .inl (c1, (8, .inr (.inl (fun _ => 0))))), (q2, .inl (c2, (6, .inl (fun _ => 0)))), (q3, .inl (c1, (6, .inr (.inl (fun _ => 0))))), (q4, .inl (c1, (6, .inr (.inl (fun _ => 0))))), (q5, .inl (c2, (4, .inl (fun _ => 0)))), (q6, .inl (c1, (4, .inr (.inl (fun _ => 0))))), (q7, .inl (c1, (4, .inr (.inl (fun _ => 0)))))] ++ va_pl [] (fun _ => .inr (0, []))) H := hP
  have hD0 : va_D A ([(h0, .inr (0, [.long (h2 a.toInt64 b.toInt64), .long 0, .int 0, .int 0, .long 0, .long 0, .ref q1, .ref q2, .ref q3, .ref q4, .ref q5, .ref q6, .ref q7, .int 0, .null])), (q1, .inl (c1, (8, .inr (.inl (fun _ => 0))))), (q2, .inl (c2, (6, .inl (fun _ => 0)))), (q3, .inl (c1, (6, .inr (.inl (fun _ => 0))))), (q4, .inl (c1, (6, .inr (.inl (fun _ => 0))))), (q5, .inl (c2, (4, .inl (fun _ => 0)))), (q6, .inl (c1, (4, .inr (.inl (fun _ => 0))))), (q7, .inl (c1, (4, .inr (.inl (fun _ => 0)))))] ++ va_pl [] (fun _ => .inr (0, []))) := hD
  refine va_mna (own := RX0) (index := 40) (ty := .long) (cy := c1) hx hb hown (hts (.classLink RX0 40 "[[J") (by decide +kernel)) hAO (hts (.arrayClass .long) (by decide +kernel)) hcy hK hP0 hD0 hS hA (N' := 10) (K' := 6) (z := (6, .inr (.inl (fun _ => 0)))) (by decide) (by decide) (by decide) (by decide) (Nat.le_of_ble_eq_true rfl) (Nat.le_of_ble_eq_true rfl) (Nat.le_of_ble_eq_true rfl) rfl rfl (Nat.le_of_ble_eq_true rfl) (Nat.le_of_ble_eq_true rfl) (fun c => arrV_new c 6 (.long 0)) dX0_init_73 (fun q r cO H hinj hfr hK hP hD hS => ?_)
  refine W.widen (k := 18) (n := 108) (Nat.le_of_ble_eq_true rfl) (Nat.le_of_ble_eq_true rfl) ?_
  rw [vr_same] at hP hD
  have hP : va_P (dC, dI) vwCl [(h0, .inr (0, [.long (h2 a.toInt64 b.toInt64), .long 0, .int 0, .int 0, .long 0, .long 0, .ref q1, .ref q2, .ref q3, .ref q4, .ref q5, .ref q6, .ref q7, .int 0, .null])), (q1, .inl (c1, (8, .inr (.inl (fun _ => 0))))), (q2, .inl (c2, (6, .inl (fun _ => 0)))), (q3, .inl (c1, (6, .inr (.inl (fun _ => 0))))), (q4, .inl (c1, (6, .inr (.inl (fun _ => 0))))), (q5, .inl (c2, (4, .inl (fun _ => 0)))), (q6, .inl (c1, (4, .inr (.inl (fun _ => 0))))), (q7, .inl (c1, (4, .inr (.inl (fun _ => 0))))), (q, .inl (cO, 10, .inr (.inr (.inr (.inr (fun i => if i < 10 then some (r i) else none)))))), (r 0, .inl (c1, 6, .inr (.inl (fun _ => 0)))), (r 1, .inl (c1, 6, .inr (.inl (fun _ => 0)))), (r 2, .inl (c1, 6, .inr (.inl (fun _ => 0)))), (r 3, .inl (c1, 6, .inr (.inl (fun _ => 0)))), (r 4, .inl (c1, 6, .inr (.inl (fun _ => 0)))), (r 5, .inl (c1, 6, .inr (.inl (fun _ => 0)))), (r 6, .inl (c1, 6, .inr (.inl (fun _ => 0)))), (r 7, .inl (c1, 6, .inr (.inl (fun _ => 0)))), (r 8, .inl (c1, 6, .inr (.inl (fun _ => 0)))), (r 9, .inl (c1, 6, .inr (.inl (fun _ => 0))))] H := hP
  have hD : va_D A [(h0, .inr (0, [.long (h2 a.toInt64 b.toInt64), .long 0, .int 0, .int 0, .long 0, .long 0, .ref q1, .ref q2, .ref q3, .ref q4, .ref q5, .ref q6, .ref q7, .int 0, .null])), (q1, .inl (c1, (8, .inr (.inl (fun _ => 0))))), (q2, .inl (c2, (6, .inl (fun _ => 0)))), (q3, .inl (c1, (6, .inr (.inl (fun _ => 0))))), (q4, .inl (c1, (6, .inr (.inl (fun _ => 0))))), (q5, .inl (c2, (4, .inl (fun _ => 0)))), (q6, .inl (c1, (4, .inr (.inl (fun _ => 0))))), (q7, .inl (c1, (4, .inr (.inl (fun _ => 0))))), (q, .inl (cO, 10, .inr (.inr (.inr (.inr (fun i => if i < 10 then some (r i) else none)))))), (r 0, .inl (c1, 6, .inr (.inl (fun _ => 0)))), (r 1, .inl (c1, 6, .inr (.inl (fun _ => 0)))), (r 2, .inl (c1, 6, .inr (.inl (fun _ => 0)))), (r 3, .inl (c1, 6, .inr (.inl (fun _ => 0)))), (r 4, .inl (c1, 6, .inr (.inl (fun _ => 0)))), (r 5, .inl (c1, 6, .inr (.inl (fun _ => 0)))), (r 6, .inl (c1, 6, .inr (.inl (fun _ => 0)))), (r 7, .inl (c1, 6, .inr (.inl (fun _ => 0)))), (r 8, .inl (c1, 6, .inr (.inl (fun _ => 0)))), (r 9, .inl (c1, 6, .inr (.inl (fun _ => 0))))] := hD
  have hK : va_K (dC, dI) vwCl [(c1, .long), (c2, .boolean), (cO, (.array .long))] s := hK
  refine va_putF (D := (dC, dI)) (ci := 0) (v := .ref q) (ty := (.array (.array .long))) (C := RX0) (T := TX0) (N := 15) hx hb hts hin tyX0 tyX0_ok nmX0 hown hK hP hD hS 0 rfl rfl 14 (by decide) (hts (.fieldLink RX0 42 RX0 "blobs" "[[J") (by decide +kernel)) (fun _ h9 => h9) rfl hin9 rfl (by decide +kernel) rfl rfl (Nat.le_of_ble_eq_true rfl) dX0_init_77 (fun H locs hP hD hS => ?_)
  have hP : va_P (dC, dI) vwCl [(h0, .inr (0, [.long (h2 a.toInt64 b.toInt64), .long 0, .int 0, .int 0, .long 0, .long 0, .ref q1, .ref q2, .ref q3, .ref q4, .ref q5, .ref q6, .ref q7, .int 0, .ref q])), (q1, .inl (c1, (8, .inr (.inl (fun _ => 0))))), (q2, .inl (c2, (6, .inl (fun _ => 0)))), (q3, .inl (c1, (6, .inr (.inl (fun _ => 0))))), (q4, .inl (c1, (6, .inr (.inl (fun _ => 0))))), (q5, .inl (c2, (4, .inl (fun _ => 0)))), (q6, .inl (c1, (4, .inr (.inl (fun _ => 0))))), (q7, .inl (c1, (4, .inr (.inl (fun _ => 0))))), (q, .inl (cO, 10, .inr (.inr (.inr (.inr (fun i => if i < 10 then some (r i) else none)))))), (r 0, .inl (c1, 6, .inr (.inl (fun _ => 0)))), (r 1, .inl (c1, 6, .inr (.inl (fun _ => 0)))), (r 2, .inl (c1, 6, .inr (.inl (fun _ => 0)))), (r 3, .inl (c1, 6, .inr (.inl (fun _ => 0)))), (r 4, .inl (c1, 6, .inr (.inl (fun _ => 0)))), (r 5, .inl (c1, 6, .inr (.inl (fun _ => 0)))), (r 6, .inl (c1, 6, .inr (.inl (fun _ => 0)))), (r 7, .inl (c1, 6, .inr (.inl (fun _ => 0)))), (r 8, .inl (c1, 6, .inr (.inl (fun _ => 0)))), (r 9, .inl (c1, 6, .inr (.inl (fun _ => 0))))] H := hP
  have hD : va_D A [(h0, .inr (0, [.long (h2 a.toInt64 b.toInt64), .long 0, .int 0, .int 0, .long 0, .long 0, .ref q1, .ref q2, .ref q3, .ref q4, .ref q5, .ref q6, .ref q7, .int 0, .ref q])), (q1, .inl (c1, (8, .inr (.inl (fun _ => 0))))), (q2, .inl (c2, (6, .inl (fun _ => 0)))), (q3, .inl (c1, (6, .inr (.inl (fun _ => 0))))), (q4, .inl (c1, (6, .inr (.inl (fun _ => 0))))), (q5, .inl (c2, (4, .inl (fun _ => 0)))), (q6, .inl (c1, (4, .inr (.inl (fun _ => 0))))), (q7, .inl (c1, (4, .inr (.inl (fun _ => 0))))), (q, .inl (cO, 10, .inr (.inr (.inr (.inr (fun i => if i < 10 then some (r i) else none)))))), (r 0, .inl (c1, 6, .inr (.inl (fun _ => 0)))), (r 1, .inl (c1, 6, .inr (.inl (fun _ => 0)))), (r 2, .inl (c1, 6, .inr (.inl (fun _ => 0)))), (r 3, .inl (c1, 6, .inr (.inl (fun _ => 0)))), (r 4, .inl (c1, 6, .inr (.inl (fun _ => 0)))), (r 5, .inl (c1, 6, .inr (.inl (fun _ => 0)))), (r 6, .inl (c1, 6, .inr (.inl (fun _ => 0)))), (r 7, .inl (c1, 6, .inr (.inl (fun _ => 0)))), (r 8, .inl (c1, 6, .inr (.inl (fun _ => 0)))), (r 9, .inl (c1, 6, .inr (.inl (fun _ => 0))))] := hD
  obtain ⟨ad, had⟩ : ∃ ad : Nat → Nat, ad = fun j => if j = 0 then h0 else if j = 1 then q1 else if j = 2 then q2 else if j = 3 then q3 else if j = 4 then q4 else if j = 5 then q5 else if j = 6 then q6 else if j = 7 then q7 else if j = 8 then q else r (j - 9) := ⟨_, rfl⟩
  have htab : (fun i : Nat => if i < 10 then some (r i) else none) = (fun j => if j < 10 then some (ad (9 + j)) else none) := by
    funext i
    subst had
    simp only [show ¬ 9 + i = 0 by omega, show ¬ 9 + i = 1 by omega, show ¬ 9 + i = 2 by omega, show ¬ 9 + i = 3 by omega, show ¬ 9 + i = 4 by omega, show ¬ 9 + i = 5 by omega, show ¬ 9 + i = 6 by omega, show ¬ 9 + i = 7 by omega, show ¬ 9 + i = 8 by omega, if_false, Nat.add_sub_cancel_left]
  rw [htab] at hP hD
  have hP : va_P (dC, dI) vwCl (wX ad c1 c2 cO (SX0 (h2 a.toInt64 b.toInt64))) H := by subst had; exact hP
  have hD : va_D A (wX ad c1 c2 cO (SX0 (h2 a.toInt64 b.toInt64))) := by subst had; exact hD
  exact W.vret hx hb hr (fun t ht hW => ⟨⟨(ad, c1, c2, cO), rfl, by rw [had]; rfl, by rw [ht]; exact hP, va_K.moved hW.alike hK, hD⟩, hS.F ht⟩) hS.2.2 dX0_init_80
