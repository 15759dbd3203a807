set_option maxHeartbeats 4000000 in
set_option maxRecDepth 100000 in
theorem lp_X0_leastFree_2 {p : Program} {l : Launch} {e : Env} {s : State} {m : MethodId} {args : Array Value} {below : List Frame} {meth : Method} {c : Code} {Q : State → Prop} {dC : Nat → ClassId} {dI : Nat → Nat → Nat}  {H : Heap} {locs : List Loc} {ar : Nat} {cZ : ClassId} {nn : Nat} {f : Nat → Int32} (hn : nn < 2 ^ 31) (hx : p.tables.exec = Jvm.exec) (hb : c.code = cX0_leastFree) (hml : c.maxLocals = 2) (hown : s.vm.findClass RX0 = some m.cls) (hts : ∀ w ∈ wsX0_leastFree, w.before args s = true) (hK : va_K (dC, dI) vwCl ([(cZ, .boolean)] : List (ClassId × FieldType)) s) (hP : va_P (dC, dI) vwCl (([(ar, .inl (cZ, nn, .inl f))] : va_W)) H)
    (kk : ∀ (pc' : Nat) (r : Int32) (ls : Array Slot), pc' = 15 ∨ pc' = 23 → r = lfN f 0 nn → W p l e (headSpec wsX0_leastFree ({ frames := 0, cells := 0, slots := 0, locals := 0 })).room s m args below meth c H locs 0 0 Q (F0 m pc' ls [.int r])) :
    ∀ (n i : Nat) (ls : Array Slot), i ≤ nn → nn < i + n → lfN f i (nn - i) = lfN f 0 nn → lv_has ls 2 [(1, .int (nI i)), (0, .ref ar)] → W p l e (headSpec wsX0_leastFree ({ frames := 0, cells := 0, slots := 0, locals := 0 })).room s m args below meth c H locs 0 0 Q (F0 m 2 ls []) := by
  intro n
  induction n with
  | zero =>
    intro i ls hi hn
    omega
  | succ n ih =>
    intro i ls hi hn9 he hl
    refine lv_iload_n hx hb dX0_leastFree_2 rfl (lv_at hl 0 rfl) ?_
    refine lv_aload_n hx hb dX0_leastFree_3 rfl (lv_at hl 1 rfl) ?_
    refine va_alen (v := (nI nn)) hx hb hK hP 0 0 rfl rfl rfl dX0_leastFree_4 ?_
    refine lv_icmp_ge (tgt := 22) hx hb dX0_leastFree_5 (by decide) (fun c5 => ?_) (fun c5 => ?_)
    · skip
      have hi8 := xge hn hi c5
      subst hi8
      refine lv_iconst (v := -1) hx hb dX0_leastFree_22 (by decide) ?_
      exact kk 23 _ ls (Or.inr rfl) (by rw [← he, Nat.sub_self]; rfl)
    · skip
      have hlt := xlt hn hi c5
      refine lv_aload_n hx hb dX0_leastFree_8 rfl (lv_at hl 1 rfl) ?_
      refine lv_iload_n hx hb dX0_leastFree_9 rfl (lv_at hl 0 rfl) ?_
      refine xv_zald hx hb hK hP 0 0 rfl rfl (xat_nI hlt hn) dX0_leastFree_10 ?_
      refine lv_if_ne (tgt := 16) hx hb dX0_leastFree_11 (by decide) (fun c11 => ?_) (fun c11 => ?_)
      · skip
        rw [lfN_miss hlt c11] at he
        refine lv_iinc (v := (nI (i + 1))) (lv' := [(1, .int (nI (i + 1))), (0, .ref ar)]) hx hb dX0_leastFree_16 hl (k := 0) rfl (nI_1 i) (by decide) rfl (fun ls hl => ?_)
        refine lv_goto (tgt := 2) hx hb dX0_leastFree_19 (by decide) ?_
        exact ih (i + 1) ls (by omega) (by omega) he (lv_sub hl [0, 1] rfl)
      · skip
        rw [lfN_hit hlt c11] at he
        refine lv_iload_n hx hb dX0_leastFree_14 rfl (lv_at hl 0 rfl) ?_
        exact kk 15 _ ls (Or.inl rfl) he
set_option maxHeartbeats 4000000 in
set_option maxRecDepth 100000 in
theorem c_X0_leastFree (l : Launch) (dC : Nat → ClassId) (dI : Nat → Nat → Nat) (ar : Nat) (cZ : ClassId) (nn : Nat) (f : Nat → Int32) (hn : nn < 2 ^ 31) : Met l yX0_leastFree wsX0_leastFree ({ frames := 0, cells := 0, slots := 0, locals := 0 }) (va_Pc [.ref ar] (fun U => va_P (dC, dI) vwCl (([(ar, .inl (cZ, nn, .inl f))] : va_W)) U.heap ∧ va_K (dC, dI) vwCl ([(cZ, .boolean)] : List (ClassId × FieldType)) U)) (vp_Si (fun r => r = lfN f 0 nn)) 0 0 (fun _ => False) := by
  refine Met.ofW (cc := cX0_leastFree) (maxL := 2) (ret := (some .int)) (by decide) rfl ?_
  intro p e s m args below meth c s₁ B hml hv
  obtain ⟨rfl, hP, hK⟩ := hv
  have hx := B.exec
  have hb := B.bytes
  have hr := B.returns
  have hts := atoms_spec (ws := wsX0_leastFree) B.pre
  have hown : s.vm.findClass RX0 = some m.cls := findClass_of_methodNamed B.named
  have hlocks := B.notSynchronized
  have hl := lv_entry ([.ref ar]) (n := 2) (Nat.le_of_ble_eq_true rfl)
  rw [lg_entry_eq]
  generalize (lg_sl ([.ref ar]) ++ List.replicate (2 - (lg_sl ([.ref ar])).length) Slot.unset).toArray = ls at hl ⊢
  have hl : lv_has ls 2 [(0, .ref ar)] := hl
  refine lv_iconst (v := 0) hx hb dX0_leastFree_0 (by decide) ?_
  refine lv_istore_n (lv' := [(1, .int (0 : Int32)), (0, .ref ar)]) hx hb dX0_leastFree_1 rfl hl (by decide) rfl (fun ls hl => ?_)
  refine lp_X0_leastFree_2 hn hx hb hml hown hts hK hP (fun pc' r ls hpc hr9 => ?_) (nn + 1) 0 ls (Nat.zero_le _) (by omega) rfl (lv_sub hl [0, 1] rfl)
  rcases hpc with rfl | rfl
  · exact W.iret (v := r) hx hb hr (fun t ht hW => ⟨_, rfl, hr9, ht⟩) (fun _ h => by cases h) dX0_leastFree_15
  · exact W.iret (v := r) hx hb hr (fun t ht hW => ⟨_, rfl, hr9, ht⟩) (fun _ h => by cases h) dX0_leastFree_23
set_option maxHeartbeats 4000000 in
set_option maxRecDepth 100000 in
theorem lp_X0_leastKeyNamed_2 {p : Program} {l : Launch} {e : Env} {s : State} {m : MethodId} {args : Array Value} {below : List Frame} {meth : Method} {c : Code} {Q : State → Prop} {dC : Nat → ClassId} {dI : Nat → Nat → Nat} {ad : Nat → Nat} {cL cZ cO : ClassId} {S : SX} {H : Heap} {locs : List Loc} (name : Int64) (hx : p.tables.exec = Jvm.exec) (hb : c.code = cX0_leastKeyNamed) (hml : c.maxLocals = 4) (hown : s.vm.findClass RX0 = some m.cls) (hts : ∀ w ∈ wsX0_leastKeyNamed, w.before args s = true) (hK : va_K (dC, dI) vwCl (tyX cL cZ cO) s) (hP : va_P (dC, dI) vwCl (wX ad cL cZ cO S) H)
    (kk : ∀ (pc' : Nat) (r : Int32) (ls : Array Slot), pc' = 29 ∨ pc' = 37 → r = lkN (x_kt S) (x_kn S) name 0 6 → W p l e (headSpec wsX0_leastKeyNamed ({ frames := 0, cells := 0, slots := 0, locals := 0 })).room s m args below meth c H locs 0 0 Q (F0 m pc' ls [.int r])) :
    ∀ (n i : Nat) (ls : Array Slot), i ≤ 6 → 6 < i + n → lkN (x_kt S) (x_kn S) name i (6 - i) = lkN (x_kt S) (x_kn S) name 0 6 → lv_has ls 4 [(3, .int (nI i)), (0, .ref (ad 0)), (1, .long name)] → W p l e (headSpec wsX0_leastKeyNamed ({ frames := 0, cells := 0, slots := 0, locals := 0 })).room s m args below meth c H locs 0 0 Q (F0 m 2 ls []) := by
  have hin : ∀ w ∈ wsX00, w ∈ wsX0_leastKeyNamed := fun _ h => List.mem_cons_of_mem _ (List.mem_append_right _ h)
  intro n
  induction n with
  | zero =>
    intro i ls hi hn
    omega
  | succ n ih =>
    intro i ls hi hn9 he hl
    refine lv_iload_n hx hb dX0_leastKeyNamed_2 rfl (lv_at hl 0 rfl) ?_
    refine lv_bipush (v := 6) hx hb dX0_leastKeyNamed_3 (by decide) ?_
    refine lv_icmp_ge (tgt := 36) hx hb dX0_leastKeyNamed_5 (by decide) (fun c5 => ?_) (fun c5 => ?_)
    · skip
      have hi8 := xge (n := 6) (by decide) hi c5
      subst hi8
      refine lv_iconst (v := -1) hx hb dX0_leastKeyNamed_36 (by decide) ?_
      exact kk 37 _ ls (Or.inr rfl) (by rw [← he]; rfl)
    · skip
      have hlt := xlt (n := 6) (by decide) hi c5
      refine lv_aload_n hx hb dX0_leastKeyNamed_8 rfl (lv_at hl 1 rfl) ?_
      refine g_x_akt hx hb hts hin hown hK hP (hts (.fieldLink RX0 21 RX0 "keyThere" "[Z") (by decide +kernel)) dX0_leastKeyNamed_9 ?_
      refine lv_iload_n hx hb dX0_leastKeyNamed_12 rfl (lv_at hl 0 rfl) ?_
      refine l_x_kt hx hb hK hP (xat_nI hlt (by decide)) dX0_leastKeyNamed_13 ?_
      refine lv_if_eq (tgt := 30) hx hb dX0_leastKeyNamed_14 (by decide) (fun c14 => ?_) (fun c14 => ?_)
      · skip
        rw [lkN_skip hlt c14] at he
        refine lv_iinc (v := (nI (i + 1))) (lv' := [(3, .int (nI (i + 1))), (0, .ref (ad 0)), (1, .long name)]) hx hb dX0_leastKeyNamed_30 hl (k := 0) rfl (nI_1 i) (by decide) rfl (fun ls hl => ?_)
        refine lv_goto (tgt := 2) hx hb dX0_leastKeyNamed_33 (by decide) ?_
        exact ih (i + 1) ls (by omega) (by omega) he (lv_sub hl [0, 1, 2] rfl)
      · skip
        refine lv_aload_n hx hb dX0_leastKeyNamed_17 rfl (lv_at hl 1 rfl) ?_
        refine g_x_akn hx hb hts hin hown hK hP (hts (.fieldLink RX0 28 RX0 "keyNames" "[J") (by decide +kernel)) dX0_leastKeyNamed_18 ?_
        refine lv_iload_n hx hb dX0_leastKeyNamed_21 rfl (lv_at hl 0 rfl) ?_
        refine l_x_kn hx hb hK hP (xat_nI hlt (by decide)) dX0_leastKeyNamed_22 ?_
        refine lv_lload_n hx hb dX0_leastKeyNamed_23 rfl (lv_at hl 2 rfl) ?_
        refine W.lcmp hx hb dX0_leastKeyNamed_24 ?_
        refine lv_if_ne (tgt := 30) hx hb dX0_leastKeyNamed_25 (by decide) (fun c25 => ?_) (fun c25 => ?_)
        · skip
          rw [lkN_miss hlt c14 c25] at he
          refine lv_iinc (v := (nI (i + 1))) (lv' := [(3, .int (nI (i + 1))), (0, .ref (ad 0)), (1, .long name)]) hx hb dX0_leastKeyNamed_30 hl (k := 0) rfl (nI_1 i) (by decide) rfl (fun ls hl => ?_)
          refine lv_goto (tgt := 2) hx hb dX0_leastKeyNamed_33 (by decide) ?_
          exact ih (i + 1) ls (by omega) (by omega) he (lv_sub hl [0, 1, 2] rfl)
        · skip
          rw [lkN_hit hlt c14 c25] at he
          refine lv_iload_n hx hb dX0_leastKeyNamed_28 rfl (lv_at hl 0 rfl) ?_
          exact kk 29 _ ls (Or.inl rfl) he
set_option maxHeartbeats 4000000 in
set_option maxRecDepth 100000 in
theorem c_X0_leastKeyNamed (l : Launch) (dC : Nat → ClassId) (dI : Nat → Nat → Nat) (ad : Nat → Nat) (cL cZ cO : ClassId) (S : SX) (name : Int64)  : Met l yX0_leastKeyNamed wsX0_leastKeyNamed ({ frames := 0, cells := 0, slots := 0, locals := 0 }) (va_Pc [.ref (ad 0), .long name] (fun U => va_P (dC, dI) vwCl (wX ad cL cZ cO S) U.heap ∧ va_K (dC, dI) vwCl (tyX cL cZ cO) U)) (vp_Si (fun r => r = X_leastKeyNamed S name)) 0 0 (fun _ => False) := by
  refine Met.ofW (cc := cX0_leastKeyNamed) (maxL := 4) (ret := (some .int)) (by decide) rfl ?_
  intro p e s m args below meth c s₁ B hml hv
  obtain ⟨rfl, hP, hK⟩ := hv
  have hx := B.exec
  have hb := B.bytes
  have hr := B.returns
  have hts := atoms_spec (ws := wsX0_leastKeyNamed) B.pre
  have hown : s.vm.findClass RX0 = some m.cls := findClass_of_methodNamed B.named
  have hlocks := B.notSynchronized
  have hin : ∀ w ∈ wsX00, w ∈ wsX0_leastKeyNamed := fun _ h => List.mem_cons_of_mem _ (List.mem_append_right _ h)
  have hl := lv_entry ([.ref (ad 0), .long name]) (n := 4) (Nat.le_of_ble_eq_true rfl)
  rw [lg_entry_eq]
  generalize (lg_sl ([.ref (ad 0), .long name]) ++ List.replicate (4 - (lg_sl ([.ref (ad 0), .long name])).length) Slot.unset).toArray = ls at hl ⊢
  have hl : lv_has ls 4 [(0, .ref (ad 0)), (1, .long name)] := hl
  refine lv_iconst (v := 0) hx hb dX0_leastKeyNamed_0 (by decide) ?_
  refine lv_istore_n (lv' := [(3, .int (0 : Int32)), (0, .ref (ad 0)), (1, .long name)]) hx hb dX0_leastKeyNamed_1 rfl hl (by decide) rfl (fun ls hl => ?_)
  refine lp_X0_leastKeyNamed_2 name hx hb hml hown hts hK hP (fun pc' r ls hpc hr9 => ?_) 7 0 ls (by decide) (by decide) rfl (lv_sub hl [0, 1, 2] rfl)
  rcases hpc with rfl | rfl
  · exact W.iret (v := r) hx hb hr (fun t ht hW => ⟨_, rfl, hr9, ht⟩) (fun _ h => by cases h) dX0_leastKeyNamed_29
  · exact W.iret (v := r) hx hb hr (fun t ht hW => ⟨_, rfl, hr9, ht⟩) (fun _ h => by cases h) dX0_leastKeyNamed_37
set_option maxHeartbeats 4000000 in
set_option maxRecDepth 100000 in
theorem lp_X0_digestNow_16 {p : Program} {l : Launch} {e : Env} {s : State} {m : MethodId} {args : Array Value} {below : List Frame} {meth : Method} {c : Code} {Q : State → Prop} {dC : Nat → ClassId} {dI : Nat → Nat → Nat} {ad : Nat → Nat} {cL cZ cO : ClassId} {S : SX} {H : Heap} {locs : List Loc} (mask : Int32) (h0 : Int64) (hx : p.tables.exec = Jvm.exec) (hb : c.code = cX0_digestNow) (hml : c.maxLocals = 5) (hown : s.vm.findClass RX0 = some m.cls) (hts : ∀ w ∈ wsX0_digestNow, w.before args s = true) (hK : va_K (dC, dI) vwCl (tyX cL cZ cO) s) (hP : va_P (dC, dI) vwCl (wX ad cL cZ cO S) H)
    (kk : ∀ (ls : Array Slot), lv_has ls 5 [(4, .int (nI 8)), (2, .long (dgX (x_rg S) mask h0 8)), (0, .ref (ad 0)), (1, .int mask)] → W p l e (headSpec wsX0_digestNow ({ frames := 1, cells := 0, slots := 0, locals := 25 })).room s m args below meth c H locs 0 0 Q (F0 m 50 ls [])) :
    ∀ (n i : Nat) (ls : Array Slot), i ≤ 8 → 8 < i + n → lv_has ls 5 [(4, .int (nI i)), (2, .long (dgX (x_rg S) mask h0 i)), (0, .ref (ad 0)), (1, .int mask)] → W p l e (headSpec wsX0_digestNow ({ frames := 1, cells := 0, slots := 0, locals := 25 })).room s m args below meth c H locs 0 0 Q (F0 m 16 ls []) := by
  have hin : ∀ w ∈ wsX00, w ∈ wsX0_digestNow := fun _ h => List.mem_cons_of_mem _ (List.mem_append_right _ h)
  intro n
  induction n with
  | zero =>
    intro i  ls hi hn9
    omega
  | succ n ih =>
    intro i  ls hi hn9 hl
    refine lv_iload hx hb dX0_digestNow_16 (lv_at hl 0 rfl) ?_
    refine lv_bipush (v := 8) hx hb dX0_digestNow_18 (by decide) ?_
    refine lv_icmp_ge (tgt := 50) hx hb dX0_digestNow_20 (by decide) (fun c20 => ?_) (fun c20 => ?_)
    · skip
      have hi8 := xge (n := 8) (by decide) hi c20
      subst hi8
      exact kk  ls (lv_sub hl [0, 1, 2, 3] rfl)
    · skip
      have hlt := xlt (n := 8) (by decide) hi c20
      refine lv_iload_n hx hb dX0_digestNow_23 rfl (lv_at hl 3 rfl) ?_
      refine lv_iload hx hb dX0_digestNow_24 (lv_at hl 0 rfl) ?_
      refine lv_ishr hx hb dX0_digestNow_26 ?_
      refine lv_iconst (v := 1) hx hb dX0_digestNow_27 (by decide) ?_
      refine lv_iand hx hb dX0_digestNow_28 ?_
      refine lv_if_eq (tgt := 44) hx hb dX0_digestNow_29 (by decide) (fun c29 => ?_) (fun c29 => ?_)
      · skip
        refine lv_iinc (v := (nI (i + 1))) (lv' := [(4, .int (nI (i + 1))), (2, .long (dgX (x_rg S) mask h0 i)), (0, .ref (ad 0)), (1, .int mask)]) hx hb dX0_digestNow_44 hl (k := 0) rfl (nI_1 i) (by decide) rfl (fun ls hl => ?_)
        refine lv_goto (tgt := 16) hx hb dX0_digestNow_47 (by decide) ?_
        exact ih (i + 1) ls (by omega) (by omega) (by rw [show dgX (x_rg S) mask h0 (i + 1) = dgX (x_rg S) mask h0 i from if_pos c29]; exact lv_sub hl [0, 1, 2, 3] rfl)
      · skip
        refine lv_lload_n hx hb dX0_digestNow_32 rfl (lv_at hl 1 rfl) ?_
        refine lv_aload_n hx hb dX0_digestNow_33 rfl (lv_at hl 2 rfl) ?_
        refine g_x_arg hx hb hts hin hown hK hP (hts (.fieldLink RX0 17 RX0 "registers" "[J") (by decide +kernel)) dX0_digestNow_34 ?_
        refine lv_iload hx hb dX0_digestNow_37 (lv_at hl 0 rfl) ?_
        refine l_x_rg hx hb hK hP (xat_nI hlt (by decide)) dX0_digestNow_39 ?_
        refine vp_callSl (va_Run.run (va_runS (As := [.long (dgX (x_rg S) mask h0 i), .long (x_rg S i)]) (rest := []) ⟨hx, hb, hml, hown, hts⟩ (c_X0_fold l (dgX (x_rg S) mask h0 i) (x_rg S i) ) (va_cwS 2 hts gX0_digestNow_X0_fold rfl rfl rfl (by decide +kernel) ⟨Nat.le_of_ble_eq_true rfl, Nat.le_of_ble_eq_true rfl⟩) (xpS_n _) rfl rfl hl.1 rfl (lv_room (Nat.le_of_ble_eq_true rfl)) dX0_digestNow_40 ⟨Nat.le_of_ble_eq_true rfl, Nat.le_of_ble_eq_true rfl⟩)) (fun r hr9 => ?_)
        subst hr9
        refine lv_lstore_n (lv' := [(2, .long (fo (dgX (x_rg S) mask h0 i) (x_rg S i))), (4, .int (nI i)), (0, .ref (ad 0)), (1, .int mask)]) hx hb dX0_digestNow_43 rfl hl (by decide) rfl (fun ls hl => ?_)
        refine lv_iinc (v := (nI (i + 1))) (lv' := [(4, .int (nI (i + 1))), (2, .long (fo (dgX (x_rg S) mask h0 i) (x_rg S i))), (0, .ref (ad 0)), (1, .int mask)]) hx hb dX0_digestNow_44 hl (k := 1) rfl (nI_1 i) (by decide) rfl (fun ls hl => ?_)
        refine lv_goto (tgt := 16) hx hb dX0_digestNow_47 (by decide) ?_
        exact ih (i + 1) ls (by omega) (by omega) (by rw [show dgX (x_rg S) mask h0 (i + 1) = fo (dgX (x_rg S) mask h0 i) (x_rg S i) from if_neg c29]; exact lv_sub hl [0, 1, 2, 3] rfl)
set_option maxHeartbeats 4000000 in
set_option maxRecDepth 100000 in
theorem c_X0_digestNow (l : Launch) (dC : Nat → ClassId) (dI : Nat → Nat → Nat) (ad : Nat → Nat) (cL cZ cO : ClassId) (S : SX) (mask : Int32)  : Met l yX0_digestNow wsX0_digestNow ({ frames := 1, cells := 0, slots := 0, locals := 25 }) (va_Pc [.ref (ad 0), .int mask] (fun U => va_P (dC, dI) vwCl (wX ad cL cZ cO S) U.heap ∧ va_K (dC, dI) vwCl (tyX cL cZ cO) U)) (vp_Sl (fun r => r = X_digestNow S mask)) 0 0 (fun _ => False) := by
  refine Met.ofW (cc := cX0_digestNow) (maxL := 5) (ret := (some .long)) (by decide) rfl ?_
  intro p e s m args below meth c s₁ B hml hv
  obtain ⟨rfl, hP, hK⟩ := hv
  have hx := B.exec
  have hb := B.bytes
  have hr := B.returns
  have hts := atoms_spec (ws := wsX0_digestNow) B.pre
  have hown : s.vm.findClass RX0 = some m.cls := findClass_of_methodNamed B.named
  have hlocks := B.notSynchronized
  have hin : ∀ w ∈ wsX00, w ∈ wsX0_digestNow := fun _ h => List.mem_cons_of_mem _ (List.mem_append_right _ h)
  have hl := lv_entry ([.ref (ad 0), .int mask]) (n := 5) (Nat.le_of_ble_eq_true rfl)
  rw [lg_entry_eq]
  generalize (lg_sl ([.ref (ad 0), .int mask]) ++ List.replicate (5 - (lg_sl ([.ref (ad 0), .int mask])).length) Slot.unset).toArray = ls at hl ⊢
  have hl : lv_has ls 5 [(0, .ref (ad 0)), (1, .int mask)] := hl
  refine lv_iconst (v := 1) hx hb dX0_digestNow_0 (by decide) ?_
  refine lv_iload_n hx hb dX0_digestNow_1 rfl (lv_at hl 1 rfl) ?_
  refine vp_callSi (va_Run.run (va_runS (As := [.int mask]) (rest := [.int (1 : Int32)]) ⟨hx, hb, hml, hown, hts⟩ (c_J6_bitCount_0f7a4 l mask ) (va_cwS 1 hts gX0_digestNow_J6_bitCount_0f7a4 rfl rfl rfl (by decide +kernel) ⟨Nat.le_of_ble_eq_true rfl, Nat.le_of_ble_eq_true rfl⟩) (xpS_n _) rfl rfl hl.1 rfl (lv_room (Nat.le_of_ble_eq_true rfl)) dX0_digestNow_2 ⟨Nat.le_of_ble_eq_true rfl, Nat.le_of_ble_eq_true rfl⟩)) (fun r hr9 => ?_)
  subst hr9
  refine lv_iadd hx hb dX0_digestNow_5 ?_
  refine lv_i2l hx hb dX0_digestNow_6 rfl ?_
  refine lv_iload_n hx hb dX0_digestNow_7 rfl (lv_at hl 1 rfl) ?_
  refine lv_i2l hx hb dX0_digestNow_8 rfl ?_
  refine vp_callSl (va_Run.run (va_runS (As := [.long (((1 : Int32) + (bc32 mask)).toInt64), .long mask.toInt64]) (rest := []) ⟨hx, hb, hml, hown, hts⟩ (c_X0_fold l (((1 : Int32) + (bc32 mask)).toInt64) mask.toInt64 ) (va_cwS 2 hts gX0_digestNow_X0_fold rfl rfl rfl (by decide +kernel) ⟨Nat.le_of_ble_eq_true rfl, Nat.le_of_ble_eq_true rfl⟩) (xpS_n _) rfl rfl hl.1 rfl (lv_room (Nat.le_of_ble_eq_true rfl)) dX0_digestNow_9 ⟨Nat.le_of_ble_eq_true rfl, Nat.le_of_ble_eq_true rfl⟩)) (fun r hr9 => ?_)
  subst hr9
  refine lv_lstore_n (lv' := [(2, .long (fo (((1 : Int32) + (bc32 mask)).toInt64) mask.toInt64)), (0, .ref (ad 0)), (1, .int mask)]) hx hb dX0_digestNow_12 rfl hl (by decide) rfl (fun ls hl => ?_)
  refine lv_iconst (v := 0) hx hb dX0_digestNow_13 (by decide) ?_
  refine lv_istore (lv' := [(4, .int (0 : Int32)), (2, .long (fo (((1 : Int32) + (bc32 mask)).toInt64) mask.toInt64)), (0, .ref (ad 0)), (1, .int mask)]) hx hb dX0_digestNow_14 hl (by decide) rfl (fun ls hl => ?_)
  refine lp_X0_digestNow_16 (S := S) mask (fo (1 + bc32 mask).toInt64 mask.toInt64) hx hb hml hown hts hK hP (fun  ls hl => ?_) (8 + 1) 0 ls (Nat.zero_le _) (by omega) (lv_sub hl [0, 1, 2, 3] rfl)
  refine lv_lload_n hx hb dX0_digestNow_50 rfl (lv_at hl 1 rfl) ?_
  exact W.lret (v := (dgX (x_rg S) mask (fo (1 + bc32 mask).toInt64 mask.toInt64) 8)) hx hb hr (fun t ht hW => ⟨_, rfl, rfl, ht⟩) (fun _ h => by cases h) dX0_digestNow_51
set_option maxHeartbeats 4000000 in
set_option maxRecDepth 100000 in
theorem lp_X0_sealOf_12 {p : Program} {l : Launch} {e : Env} {s : State} {m : MethodId} {args : Array Value} {below : List Frame} {meth : Method} {c : Code} {Q : State → Prop} {dC : Nat → ClassId} {dI : Nat → Nat → Nat} {ad : Nat → Nat} {cL cZ cO : ClassId} {S : SX} {H : Heap} {locs : List Loc} (q : Nat) (hq : q < 10) (hx : p.tables.exec = Jvm.exec) (hb : c.code = cX0_sealOf) (hml : c.maxLocals = 5) (hown : s.vm.findClass RX0 = some m.cls) (hts : ∀ w ∈ wsX0_sealOf, w.before args s = true) (hK : va_K (dC, dI) vwCl (tyX cL cZ cO) s) (hP : va_P (dC, dI) vwCl (wX ad cL cZ cO S) H)
    (kk : ∀ (ls : Array Slot), lv_has ls 5 [(4, .int (nI 5)), (2, .long (foN (mB (x_m S) 5) (x_bl S q) 5)), (0, .ref (ad 0)), (1, .ref (ad (9 + q)))] → W p l e (headSpec wsX0_sealOf ({ frames := 3, cells := 0, slots := 0, locals := 71 })).room s m args below meth c H locs 0 0 Q (F0 m 33 ls [])) :
    ∀ (n i : Nat) (ls : Array Slot), i ≤ 5 → 5 < i + n → lv_has ls 5 [(4, .int (nI i)), (2, .long (foN (mB (x_m S) 5) (x_bl S q) i)), (0, .ref (ad 0)), (1, .ref (ad (9 + q)))] → W p l e (headSpec wsX0_sealOf ({ frames := 3, cells := 0, slots := 0, locals := 71 })).room s m args below meth c H locs 0 0 Q (F0 m 12 ls []) := by
  have hin : ∀ w ∈ wsX00, w ∈ wsX0_sealOf := fun _ h => List.mem_cons_of_mem _ (List.mem_append_right _ h)
  intro n
  induction n with
  | zero =>
    intro i  ls hi hn9
    omega
  | succ n ih =>
    intro i  ls hi hn9 hl
    refine lv_iload hx hb dX0_sealOf_12 (lv_at hl 0 rfl) ?_
    refine lv_iconst (v := 5) hx hb dX0_sealOf_14 (by decide) ?_
    refine lv_icmp_ge (tgt := 33) hx hb dX0_sealOf_15 (by decide) (fun c15 => ?_) (fun c15 => ?_)
    · skip
      have hi8 := xge (n := 5) (by decide) hi c15
      subst hi8
      exact kk  ls (lv_sub hl [0, 1, 2, 3] rfl)
    · skip
      have hlt := xlt (n := 5) (by decide) hi c15
      refine lv_lload_n hx hb dX0_sealOf_18 rfl (lv_at hl 1 rfl) ?_
      refine lv_aload_n hx hb dX0_sealOf_19 rfl (lv_at hl 3 rfl) ?_
      refine lv_iload hx hb dX0_sealOf_20 (lv_at hl 0 rfl) ?_
      refine l_x_row hx hb hK hP hq (xat_nI (Nat.lt_of_lt_of_le hlt (by decide)) (by decide)) dX0_sealOf_22 ?_
      refine vp_callSl (va_Run.run (va_runS (As := [.long (foN (mB (x_m S) 5) (x_bl S q) i), .long (x_bl S q i)]) (rest := []) ⟨hx, hb, hml, hown, hts⟩ (c_X0_fold l (foN (mB (x_m S) 5) (x_bl S q) i) (x_bl S q i) ) (va_cwS 2 hts gX0_sealOf_X0_fold rfl rfl rfl (by decide +kernel) ⟨Nat.le_of_ble_eq_true rfl, Nat.le_of_ble_eq_true rfl⟩) (xpS_n _) rfl rfl hl.1 rfl (lv_room (Nat.le_of_ble_eq_true rfl)) dX0_sealOf_23 ⟨Nat.le_of_ble_eq_true rfl, Nat.le_of_ble_eq_true rfl⟩)) (fun r hr9 => ?_)
      subst hr9
      refine lv_lstore_n (lv' := [(2, .long (fo (foN (mB (x_m S) 5) (x_bl S q) i) (x_bl S q i))), (4, .int (nI i)), (0, .ref (ad 0)), (1, .ref (ad (9 + q)))]) hx hb dX0_sealOf_26 rfl hl (by decide) rfl (fun ls hl => ?_)
      refine lv_iinc (v := (nI (i + 1))) (lv' := [(4, .int (nI (i + 1))), (2, .long (fo (foN (mB (x_m S) 5) (x_bl S q) i) (x_bl S q i))), (0, .ref (ad 0)), (1, .ref (ad (9 + q)))]) hx hb dX0_sealOf_27 hl (k := 1) rfl (nI_1 i) (by decide) rfl (fun ls hl => ?_)
      refine lv_goto (tgt := 12) hx hb dX0_sealOf_30 (by decide) ?_
      exact ih (i + 1) ls (by omega) (by omega) (lv_sub hl [0, 1, 2, 3] rfl)
set_option maxHeartbeats 4000000 in
set_option maxRecDepth 100000 in
theorem c_X0_sealOf (l : Launch) (dC : Nat → ClassId) (dI : Nat → Nat → Nat) (ad : Nat → Nat) (cL cZ cO : ClassId) (S : SX) (q : Nat) (hq : q < 10) : Met l yX0_sealOf wsX0_sealOf ({ frames := 3, cells := 0, slots := 0, locals := 71 }) (va_Pc [.ref (ad 0), .ref (ad (9 + q))] (fun U => va_P (dC, dI) vwCl (wX ad cL cZ cO S) U.heap ∧ va_K (dC, dI) vwCl (tyX cL cZ cO) U)) (vp_Sl (fun r => r = X_sealOf S q)) 0 0 (fun _ => False) := by
  refine Met.ofW (cc := cX0_sealOf) (maxL := 5) (ret := (some .long)) (by decide) rfl ?_
  intro p e s m args below meth c s₁ B hml hv
  obtain ⟨rfl, hP, hK⟩ := hv
  have hx := B.exec
  have hb := B.bytes
  have hr := B.returns
  have hts := atoms_spec (ws := wsX0_sealOf) B.pre
  have hown : s.vm.findClass RX0 = some m.cls := findClass_of_methodNamed B.named
  have hlocks := B.notSynchronized
  have hin : ∀ w ∈ wsX00, w ∈ wsX0_sealOf := fun _ h => List.mem_cons_of_mem _ (List.mem_append_right _ h)
  have hl := lv_entry ([.ref (ad 0), .ref (ad (9 + q))]) (n := 5) (Nat.le_of_ble_eq_true rfl)
  rw [lg_entry_eq]
  generalize (lg_sl ([.ref (ad 0), .ref (ad (9 + q))]) ++ List.replicate (5 - (lg_sl ([.ref (ad 0), .ref (ad (9 + q))])).length) Slot.unset).toArray = ls at hl ⊢
  have hl : lv_has ls 5 [(0, .ref (ad 0)), (1, .ref (ad (9 + q)))] := hl
  refine lv_aload_n hx hb dX0_sealOf_0 rfl (lv_at hl 0 rfl) ?_
  refine g_x_m hx hb hts hin hown hK hP (hts (.fieldLink RX0 13 RX0 "machineSecret" "J") (by decide +kernel)) dX0_sealOf_1 ?_
  refine lv_iconst (v := 5) hx hb dX0_sealOf_4 (by decide) ?_
  refine vp_callSl (va_Run.run (va_runS (As := [.long (x_m S), .int (5 : Int32)]) (rest := []) ⟨hx, hb, hml, hown, hts⟩ (c_X0_macBegin l (x_m S) (5 : Int32) ) (va_cwS 2 hts gX0_sealOf_X0_macBegin rfl rfl rfl (by decide +kernel) ⟨Nat.le_of_ble_eq_true rfl, Nat.le_of_ble_eq_true rfl⟩) (xpS_n _) rfl rfl hl.1 rfl (lv_room (Nat.le_of_ble_eq_true rfl)) dX0_sealOf_5 ⟨Nat.le_of_ble_eq_true rfl, Nat.le_of_ble_eq_true rfl⟩)) (fun r hr9 => ?_)
  subst hr9
  refine lv_lstore_n (lv' := [(2, .long (mB (x_m S) (5 : Int32))), (0, .ref (ad 0)), (1, .ref (ad (9 + q)))]) hx hb dX0_sealOf_8 rfl hl (by decide) rfl (fun ls hl => ?_)
  refine lv_iconst (v := 0) hx hb dX0_sealOf_9 (by decide) ?_
  refine lv_istore (lv' := [(4, .int (0 : Int32)), (2, .long (mB (x_m S) (5 : Int32))), (0, .ref (ad 0)), (1, .ref (ad (9 + q)))]) hx hb dX0_sealOf_10 hl (by decide) rfl (fun ls hl => ?_)
  refine lp_X0_sealOf_12 (S := S) q hq hx hb hml hown hts hK hP (fun  ls hl => ?_) (5 + 1) 0 ls (Nat.zero_le _) (by omega) (lv_sub hl [0, 1, 2, 3] rfl)
  refine lv_aload_n hx hb dX0_sealOf_33 rfl (lv_at hl 2 rfl) ?_
  refine g_x_m hx hb hts hin hown hK hP (hts (.fieldLink RX0 13 RX0 "machineSecret" "J") (by decide +kernel)) dX0_sealOf_34 ?_
  refine lv_lload_n hx hb dX0_sealOf_37 rfl (lv_at hl 1 rfl) ?_
  refine vp_callSl (va_Run.run (va_runS (As := [.long (x_m S), .long (foN (mB (x_m S) 5) (x_bl S q) 5)]) (rest := []) ⟨hx, hb, hml, hown, hts⟩ (c_X0_macEnd l (x_m S) (foN (mB (x_m S) 5) (x_bl S q) 5) ) (va_cwS 2 hts gX0_sealOf_X0_macEnd rfl rfl rfl (by decide +kernel) ⟨Nat.le_of_ble_eq_true rfl, Nat.le_of_ble_eq_true rfl⟩) (xpS_n _) rfl rfl hl.1 rfl (lv_room (Nat.le_of_ble_eq_true rfl)) dX0_sealOf_38 ⟨Nat.le_of_ble_eq_true rfl, Nat.le_of_ble_eq_true rfl⟩)) (fun r hr9 => ?_)
  subst hr9
  exact W.lret (v := (mE (x_m S) (foN (mB (x_m S) 5) (x_bl S q) 5))) hx hb hr (fun t ht hW => ⟨_, rfl, rfl, ht⟩) (fun _ h => by cases h) dX0_sealOf_41
set_option maxHeartbeats 4000000 in
set_option maxRecDepth 100000 in
theorem c_X0_isPolicyMet (l : Launch) (dC : Nat → ClassId) (dI : Nat → Nat → Nat) (ad : Nat → Nat) (cL cZ cO : ClassId) (S : SX) (q : Nat) (hq : q < 10) : Met l yX0_isPolicyMet wsX0_isPolicyMet ({ frames := 2, cells := 0, slots := 0, locals := 49 }) (va_Pc [.ref (ad 0), .ref (ad (9 + q))] (fun U => va_P (dC, dI) vwCl (wX ad cL cZ cO S) U.heap ∧ va_K (dC, dI) vwCl (tyX cL cZ cO) U)) (vp_Si (fun r => r = X_isPolicyMet S q)) 0 0 (fun _ => False) := by
  refine Met.ofW (cc := cX0_isPolicyMet) (maxL := 4) (ret := (some .boolean)) (by decide) rfl ?_
  intro p e s m args below meth c s₁ B hml hv
  obtain ⟨rfl, hP, hK⟩ := hv
  have hx := B.exec
  have hb := B.bytes
  have hr := B.returns
  have hts := atoms_spec (ws := wsX0_isPolicyMet) B.pre
  have hown : s.vm.findClass RX0 = some m.cls := findClass_of_methodNamed B.named
  have hlocks := B.notSynchronized
  have hin : ∀ w ∈ wsX00, w ∈ wsX0_isPolicyMet := fun _ h => List.mem_cons_of_mem _ (List.mem_append_right _ h)
  have hl := lv_entry ([.ref (ad 0), .ref (ad (9 + q))]) (n := 4) (Nat.le_of_ble_eq_true rfl)
  rw [lg_entry_eq]
  generalize (lg_sl ([.ref (ad 0), .ref (ad (9 + q))]) ++ List.replicate (4 - (lg_sl ([.ref (ad 0), .ref (ad (9 + q))])).length) Slot.unset).toArray = ls at hl ⊢
  have hl : lv_has ls 4 [(0, .ref (ad 0)), (1, .ref (ad (9 + q)))] := hl
  refine lv_aload_n hx hb dX0_isPolicyMet_0 rfl (lv_at hl 1 rfl) ?_
  refine lv_iconst (v := 1) hx hb dX0_isPolicyMet_1 (by decide) ?_
  refine l_x_row hx hb hK hP hq (xat_nI (by decide) (by decide)) dX0_isPolicyMet_2 ?_
  refine lv_lstore_n (lv' := [(2, .long (x_bl S q 1)), (0, .ref (ad 0)), (1, .ref (ad (9 + q)))]) hx hb dX0_isPolicyMet_3 rfl hl (by decide) rfl (fun ls hl => ?_)
  refine lv_lload_n hx hb dX0_isPolicyMet_4 rfl (lv_at hl 0 rfl) ?_
  refine vp_callSi (va_Run.run (va_runS (As := [.long (x_bl S q 1)]) (rest := []) ⟨hx, hb, hml, hown, hts⟩ (c_X0_isMask l (x_bl S q 1) ) (va_cwS 1 hts gX0_isPolicyMet_X0_isMask rfl rfl rfl (by decide +kernel) ⟨Nat.le_of_ble_eq_true rfl, Nat.le_of_ble_eq_true rfl⟩) (xpS_n _) rfl rfl hl.1 rfl (lv_room (Nat.le_of_ble_eq_true rfl)) dX0_isPolicyMet_5 ⟨Nat.le_of_ble_eq_true rfl, Nat.le_of_ble_eq_true rfl⟩)) (fun r hr9 => ?_)
  subst hr9
  refine lv_if_eq (tgt := 28) hx hb dX0_isPolicyMet_8 (by decide) (fun c8 => ?_) (fun c8 => ?_)
  · skip
    refine lv_iconst (v := 0) hx hb dX0_isPolicyMet_28 (by decide) ?_
    exact W.zret (v := (0 : Int32)) hx hb hr rfl (fun t ht hW => ⟨_, rfl, (by simp only [X_isPolicyMet, if_pos c8] <;> rfl), ht⟩) (fun _ h => by cases h) dX0_isPolicyMet_29
  · skip
    refine lv_aload_n hx hb dX0_isPolicyMet_11 rfl (lv_at hl 1 rfl) ?_
    refine lv_lload_n hx hb dX0_isPolicyMet_12 rfl (lv_at hl 0 rfl) ?_
    refine lv_l2i hx hb dX0_isPolicyMet_13 rfl ?_
    refine vp_callSl (va_Run.run (va_runV (As := [.int ((x_bl S q 1).toInt32)]) (rest := []) ⟨hx, hb, hml, hown, hts⟩ (c_X0_digestNow l dC dI ad cL cZ cO S ((x_bl S q 1).toInt32) ) (cwV 1 hts gX0_isPolicyMet_X0_digestNow rfl rfl rfl (by decide +kernel) ⟨Nat.le_of_ble_eq_true rfl, Nat.le_of_ble_eq_true rfl⟩) (xpV_r [.int ((x_bl S q 1).toInt32)] hK hP (va_recv hK hP (ci := 0) (q0 := 0) rfl rfl)) rfl rfl hl.1 rfl (lv_room (Nat.le_of_ble_eq_true rfl)) dX0_isPolicyMet_14 ⟨Nat.le_of_ble_eq_true rfl, Nat.le_of_ble_eq_true rfl⟩)) (fun r hr9 => ?_)
    subst hr9
    refine lv_aload_n hx hb dX0_isPolicyMet_17 rfl (lv_at hl 2 rfl) ?_
    refine lv_iconst (v := 2) hx hb dX0_isPolicyMet_18 (by decide) ?_
    refine l_x_row hx hb hK hP hq (xat_nI (by decide) (by decide)) dX0_isPolicyMet_19 ?_
    refine W.lcmp hx hb dX0_isPolicyMet_20 ?_
    refine lv_if_ne (tgt := 28) hx hb dX0_isPolicyMet_21 (by decide) (fun c21 => ?_) (fun c21 => ?_)
    · skip
      refine lv_iconst (v := 0) hx hb dX0_isPolicyMet_28 (by decide) ?_
      exact W.zret (v := (0 : Int32)) hx hb hr rfl (fun t ht hW => ⟨_, rfl, (by simp only [X_isPolicyMet, if_neg c8, if_neg c21] <;> rfl), ht⟩) (fun _ h => by cases h) dX0_isPolicyMet_29
    · skip
      refine lv_iconst (v := 1) hx hb dX0_isPolicyMet_24 (by decide) ?_
      refine lv_goto (tgt := 29) hx hb dX0_isPolicyMet_25 (by decide) ?_
      exact W.zret (v := (1 : Int32)) hx hb hr rfl (fun t ht hW => ⟨_, rfl, (by simp only [X_isPolicyMet, if_neg c8, if_pos c21] <;> rfl), ht⟩) (fun _ h => by cases h) dX0_isPolicyMet_29
set_option maxHeartbeats 4000000 in
set_option maxRecDepth 100000 in
theorem c_X0_signature (l : Launch) (dC : Nat → ClassId) (dI : Nat → Nat → Nat) (ad : Nat → Nat) (cL cZ cO : ClassId) (S : SX) (k : Int64) (mask : Int32) (ch : Int64)  : Met l yX0_signature wsX0_signature ({ frames := 3, cells := 0, slots := 0, locals := 71 }) (va_Pc [.ref (ad 0), .long k, .int mask, .long ch] (fun U => va_P (dC, dI) vwCl (wX ad cL cZ cO S) U.heap ∧ va_K (dC, dI) vwCl (tyX cL cZ cO) U)) (vp_Sl (fun r => r = X_signature S k mask ch)) 0 0 (fun _ => False) := by
  refine Met.ofW (cc := cX0_signature) (maxL := 8) (ret := (some .long)) (by decide) rfl ?_
  intro p e s m args below meth c s₁ B hml hv
  obtain ⟨rfl, hP, hK⟩ := hv
  have hx := B.exec
  have hb := B.bytes
  have hr := B.returns
  have hts := atoms_spec (ws := wsX0_signature) B.pre
  have hown : s.vm.findClass RX0 = some m.cls := findClass_of_methodNamed B.named
  have hlocks := B.notSynchronized
  have hin : ∀ w ∈ wsX00, w ∈ wsX0_signature := fun _ h => List.mem_cons_of_mem _ (List.mem_append_right _ h)
  have hl := lv_entry ([.ref (ad 0), .long k, .int mask, .long ch]) (n := 8) (Nat.le_of_ble_eq_true rfl)
  rw [lg_entry_eq]
  generalize (lg_sl ([.ref (ad 0), .long k, .int mask, .long ch]) ++ List.replicate (8 - (lg_sl ([.ref (ad 0), .long k, .int mask, .long ch])).length) Slot.unset).toArray = ls at hl ⊢
  have hl : lv_has ls 8 [(0, .ref (ad 0)), (1, .long k), (3, .int mask), (4, .long ch)] := hl
  refine lv_lload_n hx hb dX0_signature_0 rfl (lv_at hl 1 rfl) ?_
  refine lv_iconst (v := 3) hx hb dX0_signature_1 (by decide) ?_
  refine vp_callSl (va_Run.run (va_runS (As := [.long k, .int (3 : Int32)]) (rest := []) ⟨hx, hb, hml, hown, hts⟩ (c_X0_macBegin l k (3 : Int32) ) (va_cwS 2 hts gX0_signature_X0_macBegin rfl rfl rfl (by decide +kernel) ⟨Nat.le_of_ble_eq_true rfl, Nat.le_of_ble_eq_true rfl⟩) (xpS_n _) rfl rfl hl.1 rfl (lv_room (Nat.le_of_ble_eq_true rfl)) dX0_signature_2 ⟨Nat.le_of_ble_eq_true rfl, Nat.le_of_ble_eq_true rfl⟩)) (fun r hr9 => ?_)
  subst hr9
  refine lv_lstore (lv' := [(6, .long (mB k (3 : Int32))), (0, .ref (ad 0)), (1, .long k), (3, .int mask), (4, .long ch)]) hx hb dX0_signature_5 hl (by decide) rfl (fun ls hl => ?_)
  refine lv_lload hx hb dX0_signature_7 (lv_at hl 0 rfl) ?_
  refine lv_iload_n hx hb dX0_signature_9 rfl (lv_at hl 3 rfl) ?_
  refine lv_i2l hx hb dX0_signature_10 rfl ?_
  refine vp_callSl (va_Run.run (va_runS (As := [.long (mB k (3 : Int32)), .long mask.toInt64]) (rest := []) ⟨hx, hb, hml, hown, hts⟩ (c_X0_fold l (mB k (3 : Int32)) mask.toInt64 ) (va_cwS 2 hts gX0_signature_X0_fold rfl rfl rfl (by decide +kernel) ⟨Nat.le_of_ble_eq_true rfl, Nat.le_of_ble_eq_true rfl⟩) (xpS_n _) rfl rfl hl.1 rfl (lv_room (Nat.le_of_ble_eq_true rfl)) dX0_signature_11 ⟨Nat.le_of_ble_eq_true rfl, Nat.le_of_ble_eq_true rfl⟩)) (fun r hr9 => ?_)
  subst hr9
  refine lv_lstore (lv' := [(6, .long (fo (mB k (3 : Int32)) mask.toInt64)), (0, .ref (ad 0)), (1, .long k), (3, .int mask), (4, .long ch)]) hx hb dX0_signature_14 hl (by decide) rfl (fun ls hl => ?_)
  refine lv_lload hx hb dX0_signature_16 (lv_at hl 0 rfl) ?_
  refine lv_aload_n hx hb dX0_signature_18 rfl (lv_at hl 1 rfl) ?_
  refine lv_iload_n hx hb dX0_signature_19 rfl (lv_at hl 3 rfl) ?_
  refine vp_callSl (va_Run.run (va_runV (As := [.int mask]) (rest := [.long (fo (mB k (3 : Int32)) mask.toInt64)]) ⟨hx, hb, hml, hown, hts⟩ (c_X0_digestNow l dC dI ad cL cZ cO S mask ) (cwV 1 hts gX0_signature_X0_digestNow rfl rfl rfl (by decide +kernel) ⟨Nat.le_of_ble_eq_true rfl, Nat.le_of_ble_eq_true rfl⟩) (xpV_r [.int mask] hK hP (va_recv hK hP (ci := 0) (q0 := 0) rfl rfl)) rfl rfl hl.1 rfl (lv_room (Nat.le_of_ble_eq_true rfl)) dX0_signature_20 ⟨Nat.le_of_ble_eq_true rfl, Nat.le_of_ble_eq_true rfl⟩)) (fun r hr9 => ?_)
  subst hr9
  refine vp_callSl (va_Run.run (va_runS (As := [.long (fo (mB k (3 : Int32)) mask.toInt64), .long (X_digestNow S mask)]) (rest := []) ⟨hx, hb, hml, hown, hts⟩ (c_X0_fold l (fo (mB k (3 : Int32)) mask.toInt64) (X_digestNow S mask) ) (va_cwS 2 hts gX0_signature_X0_fold rfl rfl rfl (by decide +kernel) ⟨Nat.le_of_ble_eq_true rfl, Nat.le_of_ble_eq_true rfl⟩) (xpS_n _) rfl rfl hl.1 rfl (lv_room (Nat.le_of_ble_eq_true rfl)) dX0_signature_23 ⟨Nat.le_of_ble_eq_true rfl, Nat.le_of_ble_eq_true rfl⟩)) (fun r hr9 => ?_)
  subst hr9
  refine lv_lstore (lv' := [(6, .long (fo (fo (mB k (3 : Int32)) mask.toInt64) (X_digestNow S mask))), (0, .ref (ad 0)), (1, .long k), (3, .int mask), (4, .long ch)]) hx hb dX0_signature_26 hl (by decide) rfl (fun ls hl => ?_)
  refine lv_lload hx hb dX0_signature_28 (lv_at hl 0 rfl) ?_
  refine lv_lload hx hb dX0_signature_30 (lv_at hl 4 rfl) ?_
  refine vp_callSl (va_Run.run (va_runS (As := [.long (fo (fo (mB k (3 : Int32)) mask.toInt64) (X_digestNow S mask)), .long ch]) (rest := []) ⟨hx, hb, hml, hown, hts⟩ (c_X0_fold l (fo (fo (mB k (3 : Int32)) mask.toInt64) (X_digestNow S mask)) ch ) (va_cwS 2 hts gX0_signature_X0_fold rfl rfl rfl (by decide +kernel) ⟨Nat.le_of_ble_eq_true rfl, Nat.le_of_ble_eq_true rfl⟩) (xpS_n _) rfl rfl hl.1 rfl (lv_room (Nat.le_of_ble_eq_true rfl)) dX0_signature_32 ⟨Nat.le_of_ble_eq_true rfl, Nat.le_of_ble_eq_true rfl⟩)) (fun r hr9 => ?_)
  subst hr9
  refine lv_lstore (lv' := [(6, .long (fo (fo (fo (mB k (3 : Int32)) mask.toInt64) (X_digestNow S mask)) ch)), (0, .ref (ad 0)), (1, .long k), (3, .int mask), (4, .long ch)]) hx hb dX0_signature_35 hl (by decide) rfl (fun ls hl => ?_)
  refine lv_lload_n hx hb dX0_signature_37 rfl (lv_at hl 2 rfl) ?_
  refine lv_lload hx hb dX0_signature_38 (lv_at hl 0 rfl) ?_
  refine vp_callSl (va_Run.run (va_runS (As := [.long k, .long (fo (fo (fo (mB k (3 : Int32)) mask.toInt64) (X_digestNow S mask)) ch)]) (rest := []) ⟨hx, hb, hml, hown, hts⟩ (c_X0_macEnd l k (fo (fo (fo (mB k (3 : Int32)) mask.toInt64) (X_digestNow S mask)) ch) ) (va_cwS 2 hts gX0_signature_X0_macEnd rfl rfl rfl (by decide +kernel) ⟨Nat.le_of_ble_eq_true rfl, Nat.le_of_ble_eq_true rfl⟩) (xpS_n _) rfl rfl hl.1 rfl (lv_room (Nat.le_of_ble_eq_true rfl)) dX0_signature_40 ⟨Nat.le_of_ble_eq_true rfl, Nat.le_of_ble_eq_true rfl⟩)) (fun r hr9 => ?_)
  subst hr9
  exact W.lret (v := (mE k (fo (fo (fo (mB k (3 : Int32)) mask.toInt64) (X_digestNow S mask)) ch))) hx hb hr (fun t ht hW => ⟨_, rfl, rfl, ht⟩) (fun _ h => by cases h) dX0_signature_43
set_option maxHeartbeats 4000000 in
set_option maxRecDepth 100000 in
theorem c_X0_digest (l : Launch) (dC : Nat → ClassId) (dI : Nat → Nat → Nat) (ad : Nat → Nat) (cL cZ cO : ClassId) (S : SX) (mask : Int32)  : Met l yX0_digest wsX0_digest ({ frames := 2, cells := 0, slots := 0, locals := 49 }) (va_Pc [.ref (ad 0), .int mask] (fun U => va_P (dC, dI) vwCl (wX ad cL cZ cO S) U.heap ∧ va_K (dC, dI) vwCl (tyX cL cZ cO) U)) (vp_Sl (fun r => r = X_digest S mask)) 0 0 (fun _ => False) := by
  refine Met.ofW (cc := cX0_digest) (maxL := 2) (ret := (some .long)) (by decide) rfl ?_
  intro p e s m args below meth c s₁ B hml hv
  obtain ⟨rfl, hP, hK⟩ := hv
  have hx := B.exec
  have hb := B.bytes
  have hr := B.returns
  have hts := atoms_spec (ws := wsX0_digest) B.pre
  have hown : s.vm.findClass RX0 = some m.cls := findClass_of_methodNamed B.named
  have hlocks := B.notSynchronized
  have hin : ∀ w ∈ wsX00, w ∈ wsX0_digest := fun _ h => List.mem_cons_of_mem _ (List.mem_append_right _ h)
  have hl := lv_entry ([.ref (ad 0), .int mask]) (n := 2) (Nat.le_of_ble_eq_true rfl)
  rw [lg_entry_eq]
  generalize (lg_sl ([.ref (ad 0), .int mask]) ++ List.replicate (2 - (lg_sl ([.ref (ad 0), .int mask])).length) Slot.unset).toArray = ls at hl ⊢
  have hl : lv_has ls 2 [(0, .ref (ad 0)), (1, .int mask)] := hl
  refine lv_iload_n hx hb dX0_digest_0 rfl (lv_at hl 1 rfl) ?_
  refine lv_i2l hx hb dX0_digest_1 rfl ?_
  refine vp_callSi (va_Run.run (va_runS (As := [.long mask.toInt64]) (rest := []) ⟨hx, hb, hml, hown, hts⟩ (c_X0_isMask l mask.toInt64 ) (va_cwS 1 hts gX0_digest_X0_isMask rfl rfl rfl (by decide +kernel) ⟨Nat.le_of_ble_eq_true rfl, Nat.le_of_ble_eq_true rfl⟩) (xpS_n _) rfl rfl hl.1 rfl (lv_room (Nat.le_of_ble_eq_true rfl)) dX0_digest_2 ⟨Nat.le_of_ble_eq_true rfl, Nat.le_of_ble_eq_true rfl⟩)) (fun r hr9 => ?_)
  subst hr9
  refine lv_if_eq (tgt := 16) hx hb dX0_digest_5 (by decide) (fun c5 => ?_) (fun c5 => ?_)
  · skip
    refine lv_lconst (v := 0) hx hb dX0_digest_16 (by decide) ?_
    exact W.lret (v := (0 : Int64)) hx hb hr (fun t ht hW => ⟨_, rfl, (by simp only [X_digest, if_pos c5] <;> rfl), ht⟩) (fun _ h => by cases h) dX0_digest_17
  · skip
    refine lv_aload_n hx hb dX0_digest_8 rfl (lv_at hl 0 rfl) ?_
    refine lv_iload_n hx hb dX0_digest_9 rfl (lv_at hl 1 rfl) ?_
    refine vp_callSl (va_Run.run (va_runV (As := [.int mask]) (rest := []) ⟨hx, hb, hml, hown, hts⟩ (c_X0_digestNow l dC dI ad cL cZ cO S mask ) (cwV 1 hts gX0_digest_X0_digestNow rfl rfl rfl (by decide +kernel) ⟨Nat.le_of_ble_eq_true rfl, Nat.le_of_ble_eq_true rfl⟩) (xpV_r [.int mask] hK hP (va_recv hK hP (ci := 0) (q0 := 0) rfl rfl)) rfl rfl hl.1 rfl (lv_room (Nat.le_of_ble_eq_true rfl)) dX0_digest_10 ⟨Nat.le_of_ble_eq_true rfl, Nat.le_of_ble_eq_true rfl⟩)) (fun r hr9 => ?_)
    subst hr9
    refine lv_goto (tgt := 17) hx hb dX0_digest_13 (by decide) ?_
    exact W.lret (v := (X_digestNow S mask)) hx hb hr (fun t ht hW => ⟨_, rfl, (by simp only [X_digest, if_neg c5] <;> rfl), ht⟩) (fun _ h => by cases h) dX0_digest_17
set_option maxHeartbeats 4000000 in
set_option maxRecDepth 100000 in
theorem lp_X0_reboot_2 {p : Program} {l : Launch} {e : Env} {s : State} {m : MethodId} {args : Array Value} {below : List Frame} {meth : Method} {c : Code} {Q : State → Prop} {dC : Nat → ClassId} {dI : Nat → Nat → Nat} {ad : Nat → Nat} {cL cZ cO : ClassId} {S : SX} {A : Nat → Prop} {H0 : Heap}  (hx : p.tables.exec = Jvm.exec) (hb : c.code = cX0_reboot) (hml : c.maxLocals = 2) (hown : s.vm.findClass RX0 = some m.cls) (hts : ∀ w ∈ wsX0_reboot, w.before args s = true) (hK : va_K (dC, dI) vwCl (tyX cL cZ cO) s) (hA : ∀ q, H0.size ≤ q → A q)
    (kk : ∀ (H : Heap) (locs : List Loc) (ls : Array Slot), va_P (dC, dI) vwCl (wX ad cL cZ cO (xu_rg S (zJ (x_rg S) 8))) H → va_D A (wX ad cL cZ cO (xu_rg S (zJ (x_rg S) 8))) → va_S A H0 H locs → lv_has ls 2 [(1, .int (nI 8)), (0, .ref (ad 0))] → W p l e (headSpec wsX0_reboot ({ frames := 0, cells := 0, slots := 0, locals := 0 })).room s m args below meth c H locs 0 0 Q (F0 m 21 ls [])) :
    ∀ (n i : Nat) (H : Heap) (locs : List Loc) (ls : Array Slot), i ≤ 8 → 8 < i + n → va_P (dC, dI) vwCl (wX ad cL cZ cO (xu_rg S (zJ (x_rg S) i))) H → va_D A (wX ad cL cZ cO (xu_rg S (zJ (x_rg S) i))) → va_S A H0 H locs → lv_has ls 2 [(1, .int (nI i)), (0, .ref (ad 0))] → W p l e (headSpec wsX0_reboot ({ frames := 0, cells := 0, slots := 0, locals := 0 })).room s m args below meth c H locs 0 0 Q (F0 m 2 ls []) := by
  have hin : ∀ w ∈ wsX00, w ∈ wsX0_reboot := fun _ h => List.mem_cons_of_mem _ (List.mem_append_right _ h)
  intro n
  induction n with
  | zero =>
    intro i H locs ls hi hn9
    omega
  | succ n ih =>
    intro i H locs ls hi hn9 hP hD hS hl
    refine lv_iload_n hx hb dX0_reboot_2 rfl (lv_at hl 0 rfl) ?_
    refine lv_bipush (v := 8) hx hb dX0_reboot_3 (by decide) ?_
    refine lv_icmp_ge (tgt := 21) hx hb dX0_reboot_5 (by decide) (fun c5 => ?_) (fun c5 => ?_)
    · skip
      have hi8 := xge (n := 8) (by decide) hi c5
      subst hi8
      exact kk H locs ls hP hD hS (lv_sub hl [0, 1] rfl)
    · skip
      have hlt := xlt (n := 8) (by decide) hi c5
      refine lv_aload_n hx hb dX0_reboot_8 rfl (lv_at hl 1 rfl) ?_
      refine g_x_arg hx hb hts hin hown hK hP (hts (.fieldLink RX0 17 RX0 "registers" "[J") (by decide +kernel)) dX0_reboot_9 ?_
      refine lv_iload_n hx hb dX0_reboot_12 rfl (lv_at hl 0 rfl) ?_
      refine lv_lconst (v := 0) hx hb dX0_reboot_13 (by decide) ?_
      refine s_x_rg hx hb hK hP hD hS (xat_nI hlt (by decide)) dX0_reboot_14 (fun H locs hP hD hS => ?_)
      refine lv_iinc (v := (nI (i + 1))) (lv' := [(1, .int (nI (i + 1))), (0, .ref (ad 0))]) hx hb dX0_reboot_15 hl (k := 0) rfl (nI_1 i) (by decide) rfl (fun ls hl => ?_)
      refine lv_goto (tgt := 2) hx hb dX0_reboot_18 (by decide) ?_
      exact ih (i + 1) _ _ ls (by omega) (by omega) hP hD hS (lv_sub hl [0, 1] rfl)
set_option maxHeartbeats 4000000 in
set_option maxRecDepth 100000 in
theorem lp_X0_reboot_23 {p : Program} {l : Launch} {e : Env} {s : State} {m : MethodId} {args : Array Value} {below : List Frame} {meth : Method} {c : Code} {Q : State → Prop} {dC : Nat → ClassId} {dI : Nat → Nat → Nat} {ad : Nat → Nat} {cL cZ cO : ClassId} {S : SX} {A : Nat → Prop} {H0 : Heap}  (hx : p.tables.exec = Jvm.exec) (hb : c.code = cX0_reboot) (hml : c.maxLocals = 2) (hown : s.vm.findClass RX0 = some m.cls) (hts : ∀ w ∈ wsX0_reboot, w.before args s = true) (hK : va_K (dC, dI) vwCl (tyX cL cZ cO) s) (hA : ∀ q, H0.size ≤ q → A q)
    (kk : ∀ (H : Heap) (locs : List Loc) (ls : Array Slot), va_P (dC, dI) vwCl (wX ad cL cZ cO (xu_st S (zI (x_st S) 4))) H → va_D A (wX ad cL cZ cO (xu_st S (zI (x_st S) 4))) → va_S A H0 H locs → lv_has ls 2 [(1, .int (nI 4)), (0, .ref (ad 0))] → W p l e (headSpec wsX0_reboot ({ frames := 0, cells := 0, slots := 0, locals := 0 })).room s m args below meth c H locs 0 0 Q (F0 m 41 ls [])) :
    ∀ (n i : Nat) (H : Heap) (locs : List Loc) (ls : Array Slot), i ≤ 4 → 4 < i + n → va_P (dC, dI) vwCl (wX ad cL cZ cO (xu_st S (zI (x_st S) i))) H → va_D A (wX ad cL cZ cO (xu_st S (zI (x_st S) i))) → va_S A H0 H locs → lv_has ls 2 [(1, .int (nI i)), (0, .ref (ad 0))] → W p l e (headSpec wsX0_reboot ({ frames := 0, cells := 0, slots := 0, locals := 0 })).room s m args below meth c H locs 0 0 Q (F0 m 23 ls []) := by
  have hin : ∀ w ∈ wsX00, w ∈ wsX0_reboot := fun _ h => List.mem_cons_of_mem _ (List.mem_append_right _ h)
  intro n
  induction n with
  | zero =>
    intro i H locs ls hi hn9
    omega
  | succ n ih =>
    intro i H locs ls hi hn9 hP hD hS hl
    refine lv_iload_n hx hb dX0_reboot_23 rfl (lv_at hl 0 rfl) ?_
    refine lv_iconst (v := 4) hx hb dX0_reboot_24 (by decide) ?_
    refine lv_icmp_ge (tgt := 41) hx hb dX0_reboot_25 (by decide) (fun c25 => ?_) (fun c25 => ?_)
    · skip
      have hi8 := xge (n := 4) (by decide) hi c25
      subst hi8
      exact kk H locs ls hP hD hS (lv_sub hl [0, 1] rfl)
    · skip
      have hlt := xlt (n := 4) (by decide) hi c25
      refine lv_aload_n hx hb dX0_reboot_28 rfl (lv_at hl 1 rfl) ?_
      refine g_x_ast hx hb hts hin hown hK hP (hts (.fieldLink RX0 31 RX0 "sessionThere" "[Z") (by decide +kernel)) dX0_reboot_29 ?_
      refine lv_iload_n hx hb dX0_reboot_32 rfl (lv_at hl 0 rfl) ?_
      refine lv_iconst (v := 0) hx hb dX0_reboot_33 (by decide) ?_
      refine s_x_st hx hb hK hP hD hS rfl (xat_nI hlt (by decide)) dX0_reboot_34 (fun H locs hP hD hS => ?_)
      refine lv_iinc (v := (nI (i + 1))) (lv' := [(1, .int (nI (i + 1))), (0, .ref (ad 0))]) hx hb dX0_reboot_35 hl (k := 0) rfl (nI_1 i) (by decide) rfl (fun ls hl => ?_)
      refine lv_goto (tgt := 23) hx hb dX0_reboot_38 (by decide) ?_
      exact ih (i + 1) _ _ ls (by omega) (by omega) hP hD hS (lv_sub hl [0, 1] rfl)
set_option maxHeartbeats 4000000 in
set_option maxRecDepth 100000 in
theorem c_X0_reboot (l : Launch) (dC : Nat → ClassId) (dI : Nat → Nat → Nat) (ad : Nat → Nat) (cL cZ cO : ClassId) (S : SX) (sz : Nat)   : Met l yX0_reboot wsX0_reboot ({ frames := 0, cells := 0, slots := 0, locals := 0 }) (va_Pc [.ref (ad 0)] (fun U => U.heap.size = sz ∧ va_P (dC, dI) vwCl (wX ad cL cZ cO S) U.heap ∧ va_K (dC, dI) vwCl (tyX cL cZ cO) U ∧ va_D (fun _ => True) (wX ad cL cZ cO S))) (va_Qv (fun u => u = X_reboot S) (xB (dC, dI) (wX ad cL cZ cO) (tyX cL cZ cO) (va_A (wX ad cL cZ cO S) sz)) (va_A (wX ad cL cZ cO S) sz)) 0 0 (va_A (wX ad cL cZ cO S) sz) := by
  refine Met.ofW (cc := cX0_reboot) (maxL := 2) (ret := none) (by decide) rfl ?_
  intro p e s m args below meth c s₁ B hml hv
  obtain ⟨rfl, hsz, hP, hK, hD0⟩ := hv
  have hx := B.exec
  have hb := B.bytes
  have hr := B.returns
  have hts := atoms_spec (ws := wsX0_reboot) B.pre
  have hown : s.vm.findClass RX0 = some m.cls := findClass_of_methodNamed B.named
  have hlocks := B.notSynchronized
  have hin : ∀ w ∈ wsX00, w ∈ wsX0_reboot := fun _ h => List.mem_cons_of_mem _ (List.mem_append_right _ h)
  subst hsz
  have hD := hD0.self (sz := s.heap.size)
  generalize hAe : va_A (wX ad cL cZ cO S) s.heap.size = A at hD ⊢
  have hA : ∀ q : Nat, s.heap.size ≤ q → A q := fun q h => by rw [← hAe]; exact Or.inr h
  have hS : va_S A s.heap s.heap [] := va_S.rf
  have hl := lv_entry ([.ref (ad 0)]) (n := 2) (Nat.le_of_ble_eq_true rfl)
  rw [lg_entry_eq]
  generalize (lg_sl ([.ref (ad 0)]) ++ List.replicate (2 - (lg_sl ([.ref (ad 0)])).length) Slot.unset).toArray = ls at hl ⊢
  have hl : lv_has ls 2 [(0, .ref (ad 0))] := hl
  refine lv_iconst (v := 0) hx hb dX0_reboot_0 (by decide) ?_
  refine lv_istore_n (lv' := [(1, .int (0 : Int32)), (0, .ref (ad 0))]) hx hb dX0_reboot_1 rfl hl (by decide) rfl (fun ls hl => ?_)
  refine lp_X0_reboot_2 (S := S)  hx hb hml hown hts hK hA (fun H locs ls hP hD hS hl => ?_) (8 + 1) 0 _ _ ls (Nat.zero_le _) (by omega) hP hD hS (lv_sub hl [0, 1] rfl)
  refine lv_iconst (v := 0) hx hb dX0_reboot_21 (by decide) ?_
  refine lv_istore_n (lv' := [(1, .int (0 : Int32)), (0, .ref (ad 0))]) hx hb dX0_reboot_22 rfl hl (by decide) rfl (fun ls hl => ?_)
  refine lp_X0_reboot_23 (S := (xu_rg S (zJ (x_rg S) 8)))  hx hb hml hown hts hK hA (fun H locs ls hP hD hS hl => ?_) (4 + 1) 0 _ _ ls (Nat.zero_le _) (by omega) hP hD hS (lv_sub hl [0, 1] rfl)
  refine lv_aload_n hx hb dX0_reboot_41 rfl (lv_at hl 1 rfl) ?_
  refine lv_iconst (v := 0) hx hb dX0_reboot_42 (by decide) ?_
  refine p_x_lo hx hb hts hin hown hK hP hD hS (hts (.fieldLink RX0 45 RX0 "locality" "I") (by decide +kernel)) dX0_reboot_43 (fun H locs hP hD hS => ?_)
  refine lv_aload_n hx hb dX0_reboot_46 rfl (lv_at hl 1 rfl) ?_
  refine lv_iconst (v := 0) hx hb dX0_reboot_47 (by decide) ?_
  refine p_x_fa hx hb hts hin hown hK hP hD hS (hts (.fieldLink RX0 129 RX0 "failures" "I") (by decide +kernel)) dX0_reboot_48 (fun H locs hP hD hS => ?_)
  refine lv_aload_n hx hb dX0_reboot_51 rfl (lv_at hl 1 rfl) ?_
  refine lv_lconst (v := 0) hx hb dX0_reboot_52 (by decide) ?_
  refine p_x_ou hx hb hts hin hown hK hP hD hS (hts (.fieldLink RX0 115 RX0 "output" "J") (by decide +kernel)) dX0_reboot_53 (fun H locs hP hD hS => ?_)
  exact W.vret hx hb hr (fun t ht hW => ⟨⟨(xu_ou (xu_fa (xu_lo (xu_st (xu_rg S (zJ (x_rg S) 8)) (zI (x_st (xu_rg S (zJ (x_rg S) 8))) 4)) (0 : Int32)) (0 : Int32)) (0 : Int64)), rfl, rfl, by rw [ht]; exact hP, va_K.moved hW.alike hK, hD⟩, hS.F ht⟩) hS.2.2 dX0_reboot_56
set_option maxHeartbeats 4000000 in
set_option maxRecDepth 100000 in
theorem c_X0_create (l : Launch) (dC : Nat → ClassId) (dI : Nat → Nat → Nat) (ad : Nat → Nat) (cL cZ cO : ClassId) (S : SX) (sz : Nat) (secret : Int64)  : Met l yX0_create wsX0_create ({ frames := 3, cells := 0, slots := 0, locals := 68 }) (va_Pc [.ref (ad 0), .long secret] (fun U => U.heap.size = sz ∧ va_P (dC, dI) vwCl (wX ad cL cZ cO S) U.heap ∧ va_K (dC, dI) vwCl (tyX cL cZ cO) U ∧ va_D (fun _ => True) (wX ad cL cZ cO S))) (va_Qi (fun r u => r = (X_create S secret).1 ∧ u = (X_create S secret).2) (xB (dC, dI) (wX ad cL cZ cO) (tyX cL cZ cO) (va_A (wX ad cL cZ cO S) sz)) (va_A (wX ad cL cZ cO S) sz)) 0 0 (va_A (wX ad cL cZ cO S) sz) := by
  refine Met.ofW (cc := cX0_create) (maxL := 4) (ret := (some .int)) (by decide) rfl ?_
  intro p e s m args below meth c s₁ B hml hv
  obtain ⟨rfl, hsz, hP, hK, hD0⟩ := hv
  have hx := B.exec
  have hb := B.bytes
  have hr := B.returns
  have hts := atoms_spec (ws := wsX0_create) B.pre
  have hown : s.vm.findClass RX0 = some m.cls := findClass_of_methodNamed B.named
  have hlocks := B.notSynchronized
  have hin : ∀ w ∈ wsX00, w ∈ wsX0_create := fun _ h => List.mem_cons_of_mem _ (List.mem_append_right _ h)
  subst hsz
  have hD := hD0.self (sz := s.heap.size)
  generalize hAe : va_A (wX ad cL cZ cO S) s.heap.size = A at hD ⊢
  have hA : ∀ q : Nat, s.heap.size ≤ q → A q := fun q h => by rw [← hAe]; exact Or.inr h
  have hS : va_S A s.heap s.heap [] := va_S.rf
  have hl := lv_entry ([.ref (ad 0), .long secret]) (n := 4) (Nat.le_of_ble_eq_true rfl)
  rw [lg_entry_eq]
  generalize (lg_sl ([.ref (ad 0), .long secret]) ++ List.replicate (4 - (lg_sl ([.ref (ad 0), .long secret])).length) Slot.unset).toArray = ls at hl ⊢
  have hl : lv_has ls 4 [(0, .ref (ad 0)), (1, .long secret)] := hl
  refine lv_aload_n hx hb dX0_create_0 rfl (lv_at hl 0 rfl) ?_
  refine g_x_akt hx hb hts hin hown hK hP (hts (.fieldLink RX0 21 RX0 "keyThere" "[Z") (by decide +kernel)) dX0_create_1 ?_
  refine vp_callSi (va_Run.run (va_runS (As := [.ref (ad 2)]) (rest := []) ⟨hx, hb, hml, hown, hts⟩ (c_X0_leastFree l dC dI (ad 2) cZ 6 (x_kt S) (by decide) ) (va_cwS 1 hts gX0_create_X0_leastFree rfl rfl rfl (by decide +kernel) ⟨Nat.le_of_ble_eq_true rfl, Nat.le_of_ble_eq_true rfl⟩) (xpS_r [.ref (ad 2)] (hK.sub [1] rfl) (hP.sub [2] rfl)) rfl rfl hl.1 rfl (lv_room (Nat.le_of_ble_eq_true rfl)) dX0_create_4 ⟨Nat.le_of_ble_eq_true rfl, Nat.le_of_ble_eq_true rfl⟩)) (fun r hr9 => ?_)
  subst hr9
  refine lv_istore_n (lv' := [(3, .int (lfN (x_kt S) 0 6)), (0, .ref (ad 0)), (1, .long secret)]) hx hb dX0_create_7 rfl hl (by decide) rfl (fun ls hl => ?_)
  refine lv_iload_n hx hb dX0_create_8 rfl (lv_at hl 0 rfl) ?_
  refine lv_if_ge (tgt := 15) hx hb dX0_create_9 (by decide) (fun c9 => ?_) (fun c9 => ?_)
  · skip
    have hq := lfN_at (n := 6) (by decide) c9
    refine lv_aload_n hx hb dX0_create_15 rfl (lv_at hl 1 rfl) ?_
    refine g_x_akt hx hb hts hin hown hK hP (hts (.fieldLink RX0 21 RX0 "keyThere" "[Z") (by decide +kernel)) dX0_create_16 ?_
    refine lv_iload_n hx hb dX0_create_19 rfl (lv_at hl 0 rfl) ?_
    refine lv_iconst (v := 1) hx hb dX0_create_20 (by decide) ?_
    refine s_x_kt hx hb hK hP hD hS rfl (xat_self hq) dX0_create_21 (fun H locs hP hD hS => ?_)
    refine lv_aload_n hx hb dX0_create_22 rfl (lv_at hl 1 rfl) ?_
    refine g_x_aks hx hb hts hin hown hK hP (hts (.fieldLink RX0 25 RX0 "keySecrets" "[J") (by decide +kernel)) dX0_create_23 ?_
    refine lv_iload_n hx hb dX0_create_26 rfl (lv_at hl 0 rfl) ?_
    refine lv_lload_n hx hb dX0_create_27 rfl (lv_at hl 2 rfl) ?_
    refine s_x_ks hx hb hK hP hD hS (xat_self hq) dX0_create_28 (fun H locs hP hD hS => ?_)
    refine lv_aload_n hx hb dX0_create_29 rfl (lv_at hl 1 rfl) ?_
    refine g_x_akn hx hb hts hin hown hK hP (hts (.fieldLink RX0 28 RX0 "keyNames" "[J") (by decide +kernel)) dX0_create_30 ?_
    refine lv_iload_n hx hb dX0_create_33 rfl (lv_at hl 0 rfl) ?_
    refine lv_lload_n hx hb dX0_create_34 rfl (lv_at hl 2 rfl) ?_
    refine lv_aload_n hx hb dX0_create_35 rfl (lv_at hl 1 rfl) ?_
    refine xcall_l (va_runV (As := []) (rest := [.long secret, .int (lfN (x_kt S) 0 6), .ref (ad 4)]) ⟨hx, hb, hml, hown, hts⟩ (c_X0_draw l dC dI ad cL cZ cO (xu_ks (xu_kt S (upd (x_kt S) ((lfN (x_kt S) 0 6).toNatClampNeg) (1 : Int32))) (vp_updL (x_ks (xu_kt S (upd (x_kt S) ((lfN (x_kt S) 0 6).toNatClampNeg) (1 : Int32)))) ((lfN (x_kt S) 0 6).toNatClampNeg) secret)) H.size  ) (cwV 0 hts gX0_create_X0_draw rfl rfl rfl (by decide +kernel) ⟨Nat.le_of_ble_eq_true rfl, Nat.le_of_ble_eq_true rfl⟩) (xpV_w [] hK hP hD (va_recv hK hP (ci := 0) (q0 := 0) rfl rfl)) rfl rfl hl.1 rfl (lv_room (Nat.le_of_ble_eq_true rfl)) dX0_create_36 ⟨Nat.le_of_ble_eq_true rfl, Nat.le_of_ble_eq_true rfl⟩) hD hS hA (fun r u H locs hw hP hD hS => ?_)
    obtain ⟨rfl, rfl⟩ := hw
    refine vp_callSl (va_Run.run (va_runS (As := [.long secret, .long ((X_draw (xu_ks (xu_kt S (upd (x_kt S) ((lfN (x_kt S) 0 6).toNatClampNeg) (1 : Int32))) (vp_updL (x_ks (xu_kt S (upd (x_kt S) ((lfN (x_kt S) 0 6).toNatClampNeg) (1 : Int32)))) ((lfN (x_kt S) 0 6).toNatClampNeg) secret))).1)]) (rest := [.int (lfN (x_kt S) 0 6), .ref (ad 4)]) ⟨hx, hb, hml, hown, hts⟩ (c_X0_hash2 l secret ((X_draw (xu_ks (xu_kt S (upd (x_kt S) ((lfN (x_kt S) 0 6).toNatClampNeg) (1 : Int32))) (vp_updL (x_ks (xu_kt S (upd (x_kt S) ((lfN (x_kt S) 0 6).toNatClampNeg) (1 : Int32)))) ((lfN (x_kt S) 0 6).toNatClampNeg) secret))).1) ) (va_cwS 2 hts gX0_create_X0_hash2 rfl rfl rfl (by decide +kernel) ⟨Nat.le_of_ble_eq_true rfl, Nat.le_of_ble_eq_true rfl⟩) (xpS_n _) rfl rfl hl.1 rfl (lv_room (Nat.le_of_ble_eq_true rfl)) dX0_create_39 ⟨Nat.le_of_ble_eq_true rfl, Nat.le_of_ble_eq_true rfl⟩)) (fun r hr9 => ?_)
    subst hr9
    refine s_x_kn hx hb hK hP hD hS (xat_self hq) dX0_create_42 (fun H locs hP hD hS => ?_)
    refine lv_iload_n hx hb dX0_create_43 rfl (lv_at hl 0 rfl) ?_
    exact W.iret (v := (lfN (x_kt S) 0 6)) hx hb hr (fun t ht hW => ⟨⟨_, (xu_kn ((X_draw (xu_ks (xu_kt S (upd (x_kt S) ((lfN (x_kt S) 0 6).toNatClampNeg) (1 : Int32))) (vp_updL (x_ks (xu_kt S (upd (x_kt S) ((lfN (x_kt S) 0 6).toNatClampNeg) (1 : Int32)))) ((lfN (x_kt S) 0 6).toNatClampNeg) secret))).2) (vp_updL (x_kn ((X_draw (xu_ks (xu_kt S (upd (x_kt S) ((lfN (x_kt S) 0 6).toNatClampNeg) (1 : Int32))) (vp_updL (x_ks (xu_kt S (upd (x_kt S) ((lfN (x_kt S) 0 6).toNatClampNeg) (1 : Int32)))) ((lfN (x_kt S) 0 6).toNatClampNeg) secret))).2)) ((lfN (x_kt S) 0 6).toNatClampNeg) (h2 secret ((X_draw (xu_ks (xu_kt S (upd (x_kt S) ((lfN (x_kt S) 0 6).toNatClampNeg) (1 : Int32))) (vp_updL (x_ks (xu_kt S (upd (x_kt S) ((lfN (x_kt S) 0 6).toNatClampNeg) (1 : Int32)))) ((lfN (x_kt S) 0 6).toNatClampNeg) secret))).1)))), rfl, ⟨(by simp only [X_create, if_pos c9] <;> rfl), (by simp only [X_create, if_pos c9] <;> rfl)⟩, by rw [ht]; exact hP, va_K.moved hW.alike hK, hD⟩, hS.F ht⟩) hS.2.2 dX0_create_44
  · skip
    refine lv_bipush (v := -5) hx hb dX0_create_12 (by decide) ?_
    exact W.iret (v := (-5 : Int32)) hx hb hr (fun t ht hW => ⟨⟨_, S, rfl, ⟨(by simp only [X_create, if_neg c9] <;> rfl), (by simp only [X_create, if_neg c9] <;> rfl)⟩, by rw [ht]; exact hP, va_K.moved hW.alike hK, hD⟩, hS.F ht⟩) hS.2.2 dX0_create_14
set_option maxHeartbeats 4000000 in
set_option maxRecDepth 100000 in
theorem c_X0_begin (l : Launch) (dC : Nat → ClassId) (dI : Nat → Nat → Nat) (ad : Nat → Nat) (cL cZ cO : ClassId) (S : SX) (sz : Nat) (nonce : Int64)  : Met l yX0_begin wsX0_begin ({ frames := 3, cells := 0, slots := 0, locals := 68 }) (va_Pc [.ref (ad 0), .long nonce] (fun U => U.heap.size = sz ∧ va_P (dC, dI) vwCl (wX ad cL cZ cO S) U.heap ∧ va_K (dC, dI) vwCl (tyX cL cZ cO) U ∧ va_D (fun _ => True) (wX ad cL cZ cO S))) (va_Qi (fun r u => r = (X_begin S nonce).1 ∧ u = (X_begin S nonce).2) (xB (dC, dI) (wX ad cL cZ cO) (tyX cL cZ cO) (va_A (wX ad cL cZ cO S) sz)) (va_A (wX ad cL cZ cO S) sz)) 0 0 (va_A (wX ad cL cZ cO S) sz) := by
  refine Met.ofW (cc := cX0_begin) (maxL := 4) (ret := (some .int)) (by decide) rfl ?_
  intro p e s m args below meth c s₁ B hml hv
  obtain ⟨rfl, hsz, hP, hK, hD0⟩ := hv
  have hx := B.exec
  have hb := B.bytes
  have hr := B.returns
  have hts := atoms_spec (ws := wsX0_begin) B.pre
  have hown : s.vm.findClass RX0 = some m.cls := findClass_of_methodNamed B.named
  have hlocks := B.notSynchronized
  have hin : ∀ w ∈ wsX00, w ∈ wsX0_begin := fun _ h => List.mem_cons_of_mem _ (List.mem_append_right _ h)
  subst hsz
  have hD := hD0.self (sz := s.heap.size)
  generalize hAe : va_A (wX ad cL cZ cO S) s.heap.size = A at hD ⊢
  have hA : ∀ q : Nat, s.heap.size ≤ q → A q := fun q h => by rw [← hAe]; exact Or.inr h
  have hS : va_S A s.heap s.heap [] := va_S.rf
  have hl := lv_entry ([.ref (ad 0), .long nonce]) (n := 4) (Nat.le_of_ble_eq_true rfl)
  rw [lg_entry_eq]
  generalize (lg_sl ([.ref (ad 0), .long nonce]) ++ List.replicate (4 - (lg_sl ([.ref (ad 0), .long nonce])).length) Slot.unset).toArray = ls at hl ⊢
  have hl : lv_has ls 4 [(0, .ref (ad 0)), (1, .long nonce)] := hl
  refine lv_aload_n hx hb dX0_begin_0 rfl (lv_at hl 0 rfl) ?_
  refine g_x_ast hx hb hts hin hown hK hP (hts (.fieldLink RX0 31 RX0 "sessionThere" "[Z") (by decide +kernel)) dX0_begin_1 ?_
  refine vp_callSi (va_Run.run (va_runS (As := [.ref (ad 5)]) (rest := []) ⟨hx, hb, hml, hown, hts⟩ (c_X0_leastFree l dC dI (ad 5) cZ 4 (x_st S) (by decide) ) (va_cwS 1 hts gX0_begin_X0_leastFree rfl rfl rfl (by decide +kernel) ⟨Nat.le_of_ble_eq_true rfl, Nat.le_of_ble_eq_true rfl⟩) (xpS_r [.ref (ad 5)] (hK.sub [1] rfl) (hP.sub [5] rfl)) rfl rfl hl.1 rfl (lv_room (Nat.le_of_ble_eq_true rfl)) dX0_begin_4 ⟨Nat.le_of_ble_eq_true rfl, Nat.le_of_ble_eq_true rfl⟩)) (fun r hr9 => ?_)
  subst hr9
  refine lv_istore_n (lv' := [(3, .int (lfN (x_st S) 0 4)), (0, .ref (ad 0)), (1, .long nonce)]) hx hb dX0_begin_7 rfl hl (by decide) rfl (fun ls hl => ?_)
  refine lv_iload_n hx hb dX0_begin_8 rfl (lv_at hl 0 rfl) ?_
  refine lv_if_ge (tgt := 15) hx hb dX0_begin_9 (by decide) (fun c9 => ?_) (fun c9 => ?_)
  · skip
    have hq := lfN_at (n := 4) (by decide) c9
    refine lv_aload_n hx hb dX0_begin_15 rfl (lv_at hl 1 rfl) ?_
    refine g_x_ast hx hb hts hin hown hK hP (hts (.fieldLink RX0 31 RX0 "sessionThere" "[Z") (by decide +kernel)) dX0_begin_16 ?_
    refine lv_iload_n hx hb dX0_begin_19 rfl (lv_at hl 0 rfl) ?_
    refine lv_iconst (v := 1) hx hb dX0_begin_20 (by decide) ?_
    refine s_x_st hx hb hK hP hD hS rfl (xat_self hq) dX0_begin_21 (fun H locs hP hD hS => ?_)
    refine lv_aload_n hx hb dX0_begin_22 rfl (lv_at hl 1 rfl) ?_
    refine g_x_acn hx hb hts hin hown hK hP (hts (.fieldLink RX0 34 RX0 "callerNonces" "[J") (by decide +kernel)) dX0_begin_23 ?_
    refine lv_iload_n hx hb dX0_begin_26 rfl (lv_at hl 0 rfl) ?_
    refine lv_lload_n hx hb dX0_begin_27 rfl (lv_at hl 2 rfl) ?_
    refine s_x_cn hx hb hK hP hD hS (xat_self hq) dX0_begin_28 (fun H locs hP hD hS => ?_)
    refine lv_aload_n hx hb dX0_begin_29 rfl (lv_at hl 1 rfl) ?_
    refine g_x_amn hx hb hts hin hown hK hP (hts (.fieldLink RX0 37 RX0 "machineNonces" "[J") (by decide +kernel)) dX0_begin_30 ?_
    refine lv_iload_n hx hb dX0_begin_33 rfl (lv_at hl 0 rfl) ?_
    refine lv_aload_n hx hb dX0_begin_34 rfl (lv_at hl 1 rfl) ?_
    refine xcall_l (va_runV (As := []) (rest := [.int (lfN (x_st S) 0 4), .ref (ad 7)]) ⟨hx, hb, hml, hown, hts⟩ (c_X0_draw l dC dI ad cL cZ cO (xu_cn (xu_st S (upd (x_st S) ((lfN (x_st S) 0 4).toNatClampNeg) (1 : Int32))) (vp_updL (x_cn (xu_st S (upd (x_st S) ((lfN (x_st S) 0 4).toNatClampNeg) (1 : Int32)))) ((lfN (x_st S) 0 4).toNatClampNeg) nonce)) H.size  ) (cwV 0 hts gX0_begin_X0_draw rfl rfl rfl (by decide +kernel) ⟨Nat.le_of_ble_eq_true rfl, Nat.le_of_ble_eq_true rfl⟩) (xpV_w [] hK hP hD (va_recv hK hP (ci := 0) (q0 := 0) rfl rfl)) rfl rfl hl.1 rfl (lv_room (Nat.le_of_ble_eq_true rfl)) dX0_begin_35 ⟨Nat.le_of_ble_eq_true rfl, Nat.le_of_ble_eq_true rfl⟩) hD hS hA (fun r u H locs hw hP hD hS => ?_)
    obtain ⟨rfl, rfl⟩ := hw
    refine s_x_mn hx hb hK hP hD hS (xat_self hq) dX0_begin_38 (fun H locs hP hD hS => ?_)
    refine lv_iload_n hx hb dX0_begin_39 rfl (lv_at hl 0 rfl) ?_
    exact W.iret (v := (lfN (x_st S) 0 4)) hx hb hr (fun t ht hW => ⟨⟨_, (xu_mn ((X_draw (xu_cn (xu_st S (upd (x_st S) ((lfN (x_st S) 0 4).toNatClampNeg) (1 : Int32))) (vp_updL (x_cn (xu_st S (upd (x_st S) ((lfN (x_st S) 0 4).toNatClampNeg) (1 : Int32)))) ((lfN (x_st S) 0 4).toNatClampNeg) nonce))).2) (vp_updL (x_mn ((X_draw (xu_cn (xu_st S (upd (x_st S) ((lfN (x_st S) 0 4).toNatClampNeg) (1 : Int32))) (vp_updL (x_cn (xu_st S (upd (x_st S) ((lfN (x_st S) 0 4).toNatClampNeg) (1 : Int32)))) ((lfN (x_st S) 0 4).toNatClampNeg) nonce))).2)) ((lfN (x_st S) 0 4).toNatClampNeg) ((X_draw (xu_cn (xu_st S (upd (x_st S) ((lfN (x_st S) 0 4).toNatClampNeg) (1 : Int32))) (vp_updL (x_cn (xu_st S (upd (x_st S) ((lfN (x_st S) 0 4).toNatClampNeg) (1 : Int32)))) ((lfN (x_st S) 0 4).toNatClampNeg) nonce))).1))), rfl, ⟨(by simp only [X_begin, if_pos c9] <;> rfl), (by simp only [X_begin, if_pos c9] <;> rfl)⟩, by rw [ht]; exact hP, va_K.moved hW.alike hK, hD⟩, hS.F ht⟩) hS.2.2 dX0_begin_40
  · skip
    refine lv_bipush (v := -5) hx hb dX0_begin_12 (by decide) ?_
    exact W.iret (v := (-5 : Int32)) hx hb hr (fun t ht hW => ⟨⟨_, S, rfl, ⟨(by simp only [X_begin, if_neg c9] <;> rfl), (by simp only [X_begin, if_neg c9] <;> rfl)⟩, by rw [ht]; exact hP, va_K.moved hW.alike hK, hD⟩, hS.F ht⟩) hS.2.2 dX0_begin_14
