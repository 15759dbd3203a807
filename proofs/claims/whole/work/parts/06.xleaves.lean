set_option maxHeartbeats 4000000 in
set_option maxRecDepth 100000 in
theorem c_X0_fold (l : Launch)  (h : Int64) (w : Int64)  : Met l yX0_fold wsX0_fold ({ frames := 0, cells := 0, slots := 0, locals := 0 }) (va_Pc [.long h, .long w] (fun _ => True)) (vp_Sl (fun r => r = fo h w)) 0 0 (fun _ => False) := by
  refine Met.ofW (cc := cX0_fold) (maxL := 6) (ret := (some .long)) (by decide) rfl ?_
  intro p e s m args below meth c s₁ B hml hv
  obtain ⟨rfl, -⟩ := hv
  have hx := B.exec
  have hb := B.bytes
  have hr := B.returns
  have hts := atoms_spec (ws := wsX0_fold) B.pre
  have hown : s.vm.findClass RX0 = some m.cls := findClass_of_methodNamed B.named
  have hlocks := B.notSynchronized
  have hl := lv_entry ([.long h, .long w]) (n := 6) (Nat.le_of_ble_eq_true rfl)
  rw [lg_entry_eq]
  generalize (lg_sl ([.long h, .long w]) ++ List.replicate (6 - (lg_sl ([.long h, .long w])).length) Slot.unset).toArray = ls at hl ⊢
  have hl : lv_has ls 6 [(0, .long h), (2, .long w)] := hl
  refine lv_lload_n hx hb dX0_fold_0 rfl (lv_at hl 0 rfl) ?_
  refine lv_lload_n hx hb dX0_fold_1 rfl (lv_at hl 1 rfl) ?_
  refine lv_lxor hx hb dX0_fold_2 ?_
  refine lv_ldc2 (v := 3141592653589793239) hx hb hown (hts (.constantLong RX0 161 (3141592653589793239)) (by decide +kernel)) dX0_fold_3 ?_
  refine lv_lmul hx hb dX0_fold_6 ?_
  refine lv_lstore (lv' := [(4, .long ((h ^^^ w) * (3141592653589793239 : Int64))), (0, .long h), (2, .long w)]) hx hb dX0_fold_7 hl (by decide) rfl (fun ls hl => ?_)
  refine lv_lload hx hb dX0_fold_9 (lv_at hl 0 rfl) ?_
  refine lv_lload hx hb dX0_fold_11 (lv_at hl 0 rfl) ?_
  refine lv_bipush (v := 29) hx hb dX0_fold_13 (by decide) ?_
  refine lv_lushr hx hb dX0_fold_15 rfl ?_
  refine lv_lxor hx hb dX0_fold_16 ?_
  exact W.lret (v := (((h ^^^ w) * (3141592653589793239 : Int64)) ^^^ (((h ^^^ w) * (3141592653589793239 : Int64)).toUInt64 >>> ((29 : Int32).toInt64.toUInt64 &&& Int64.toUInt64 63)).toInt64)) hx hb hr (fun t ht hW => ⟨_, rfl, rfl, ht⟩) (fun _ h => by cases h) dX0_fold_17
set_option maxHeartbeats 4000000 in
set_option maxRecDepth 100000 in
theorem c_X0_hash2 (l : Launch)  (a : Int64) (b : Int64)  : Met l yX0_hash2 wsX0_hash2 ({ frames := 1, cells := 0, slots := 0, locals := 25 }) (va_Pc [.long a, .long b] (fun _ => True)) (vp_Sl (fun r => r = h2 a b)) 0 0 (fun _ => False) := by
  refine Met.ofW (cc := cX0_hash2) (maxL := 4) (ret := (some .long)) (by decide) rfl ?_
  intro p e s m args below meth c s₁ B hml hv
  obtain ⟨rfl, -⟩ := hv
  have hx := B.exec
  have hb := B.bytes
  have hr := B.returns
  have hts := atoms_spec (ws := wsX0_hash2) B.pre
  have hown : s.vm.findClass RX0 = some m.cls := findClass_of_methodNamed B.named
  have hlocks := B.notSynchronized
  have hl := lv_entry ([.long a, .long b]) (n := 4) (Nat.le_of_ble_eq_true rfl)
  rw [lg_entry_eq]
  generalize (lg_sl ([.long a, .long b]) ++ List.replicate (4 - (lg_sl ([.long a, .long b])).length) Slot.unset).toArray = ls at hl ⊢
  have hl : lv_has ls 4 [(0, .long a), (2, .long b)] := hl
  refine lv_ldc2 (v := 2) hx hb hown (hts (.constantLong RX0 159 (2)) (by decide +kernel)) dX0_hash2_0 ?_
  refine lv_lload_n hx hb dX0_hash2_3 rfl (lv_at hl 0 rfl) ?_
  refine vp_callSl (va_Run.run (va_runS (As := [.long (2 : Int64), .long a]) (rest := []) ⟨hx, hb, hml, hown, hts⟩ (c_X0_fold l (2 : Int64) a ) (va_cwS 2 hts gX0_hash2_X0_fold rfl rfl rfl (by decide +kernel) ⟨Nat.le_of_ble_eq_true rfl, Nat.le_of_ble_eq_true rfl⟩) (xpS_n _) rfl rfl hl.1 rfl (lv_room (Nat.le_of_ble_eq_true rfl)) dX0_hash2_4 ⟨Nat.le_of_ble_eq_true rfl, Nat.le_of_ble_eq_true rfl⟩)) (fun r hr9 => ?_)
  subst hr9
  refine lv_lload_n hx hb dX0_hash2_7 rfl (lv_at hl 1 rfl) ?_
  refine vp_callSl (va_Run.run (va_runS (As := [.long (fo (2 : Int64) a), .long b]) (rest := []) ⟨hx, hb, hml, hown, hts⟩ (c_X0_fold l (fo (2 : Int64) a) b ) (va_cwS 2 hts gX0_hash2_X0_fold rfl rfl rfl (by decide +kernel) ⟨Nat.le_of_ble_eq_true rfl, Nat.le_of_ble_eq_true rfl⟩) (xpS_n _) rfl rfl hl.1 rfl (lv_room (Nat.le_of_ble_eq_true rfl)) dX0_hash2_8 ⟨Nat.le_of_ble_eq_true rfl, Nat.le_of_ble_eq_true rfl⟩)) (fun r hr9 => ?_)
  subst hr9
  exact W.lret (v := (fo (fo (2 : Int64) a) b)) hx hb hr (fun t ht hW => ⟨_, rfl, rfl, ht⟩) (fun _ h => by cases h) dX0_hash2_11
set_option maxHeartbeats 4000000 in
set_option maxRecDepth 100000 in
theorem c_X0_macBegin (l : Launch)  (k : Int64) (n : Int32)  : Met l yX0_macBegin wsX0_macBegin ({ frames := 1, cells := 0, slots := 0, locals := 25 }) (va_Pc [.long k, .int n] (fun _ => True)) (vp_Sl (fun r => r = mB k n)) 0 0 (fun _ => False) := by
  refine Met.ofW (cc := cX0_macBegin) (maxL := 3) (ret := (some .long)) (by decide) rfl ?_
  intro p e s m args below meth c s₁ B hml hv
  obtain ⟨rfl, -⟩ := hv
  have hx := B.exec
  have hb := B.bytes
  have hr := B.returns
  have hts := atoms_spec (ws := wsX0_macBegin) B.pre
  have hown : s.vm.findClass RX0 = some m.cls := findClass_of_methodNamed B.named
  have hlocks := B.notSynchronized
  have hl := lv_entry ([.long k, .int n]) (n := 3) (Nat.le_of_ble_eq_true rfl)
  rw [lg_entry_eq]
  generalize (lg_sl ([.long k, .int n]) ++ List.replicate (3 - (lg_sl ([.long k, .int n])).length) Slot.unset).toArray = ls at hl ⊢
  have hl : lv_has ls 3 [(0, .long k), (2, .int n)] := hl
  refine lv_iload_n hx hb dX0_macBegin_0 rfl (lv_at hl 1 rfl) ?_
  refine lv_iconst (v := 1) hx hb dX0_macBegin_1 (by decide) ?_
  refine lv_iadd hx hb dX0_macBegin_2 ?_
  refine lv_i2l hx hb dX0_macBegin_3 rfl ?_
  refine lv_lload_n hx hb dX0_macBegin_4 rfl (lv_at hl 0 rfl) ?_
  refine lv_ldc2 (v := 92) hx hb hown (hts (.constantLong RX0 155 (92)) (by decide +kernel)) dX0_macBegin_5 ?_
  refine lv_lxor hx hb dX0_macBegin_8 ?_
  refine vp_callSl (va_Run.run (va_runS (As := [.long ((n + (1 : Int32)).toInt64), .long (k ^^^ (92 : Int64))]) (rest := []) ⟨hx, hb, hml, hown, hts⟩ (c_X0_fold l ((n + (1 : Int32)).toInt64) (k ^^^ (92 : Int64)) ) (va_cwS 2 hts gX0_macBegin_X0_fold rfl rfl rfl (by decide +kernel) ⟨Nat.le_of_ble_eq_true rfl, Nat.le_of_ble_eq_true rfl⟩) (xpS_n _) rfl rfl hl.1 rfl (lv_room (Nat.le_of_ble_eq_true rfl)) dX0_macBegin_9 ⟨Nat.le_of_ble_eq_true rfl, Nat.le_of_ble_eq_true rfl⟩)) (fun r hr9 => ?_)
  subst hr9
  exact W.lret (v := (fo ((n + (1 : Int32)).toInt64) (k ^^^ (92 : Int64)))) hx hb hr (fun t ht hW => ⟨_, rfl, rfl, ht⟩) (fun _ h => by cases h) dX0_macBegin_12
set_option maxHeartbeats 4000000 in
set_option maxRecDepth 100000 in
theorem c_X0_macEnd (l : Launch)  (k : Int64) (i : Int64)  : Met l yX0_macEnd wsX0_macEnd ({ frames := 2, cells := 0, slots := 0, locals := 48 }) (va_Pc [.long k, .long i] (fun _ => True)) (vp_Sl (fun r => r = mE k i)) 0 0 (fun _ => False) := by
  refine Met.ofW (cc := cX0_macEnd) (maxL := 4) (ret := (some .long)) (by decide) rfl ?_
  intro p e s m args below meth c s₁ B hml hv
  obtain ⟨rfl, -⟩ := hv
  have hx := B.exec
  have hb := B.bytes
  have hr := B.returns
  have hts := atoms_spec (ws := wsX0_macEnd) B.pre
  have hown : s.vm.findClass RX0 = some m.cls := findClass_of_methodNamed B.named
  have hlocks := B.notSynchronized
  have hl := lv_entry ([.long k, .long i]) (n := 4) (Nat.le_of_ble_eq_true rfl)
  rw [lg_entry_eq]
  generalize (lg_sl ([.long k, .long i]) ++ List.replicate (4 - (lg_sl ([.long k, .long i])).length) Slot.unset).toArray = ls at hl ⊢
  have hl : lv_has ls 4 [(0, .long k), (2, .long i)] := hl
  refine lv_lload_n hx hb dX0_macEnd_0 rfl (lv_at hl 0 rfl) ?_
  refine lv_ldc2 (v := 54) hx hb hown (hts (.constantLong RX0 157 (54)) (by decide +kernel)) dX0_macEnd_1 ?_
  refine lv_lxor hx hb dX0_macEnd_4 ?_
  refine lv_lload_n hx hb dX0_macEnd_5 rfl (lv_at hl 1 rfl) ?_
  refine vp_callSl (va_Run.run (va_runS (As := [.long (k ^^^ (54 : Int64)), .long i]) (rest := []) ⟨hx, hb, hml, hown, hts⟩ (c_X0_hash2 l (k ^^^ (54 : Int64)) i ) (va_cwS 2 hts gX0_macEnd_X0_hash2 rfl rfl rfl (by decide +kernel) ⟨Nat.le_of_ble_eq_true rfl, Nat.le_of_ble_eq_true rfl⟩) (xpS_n _) rfl rfl hl.1 rfl (lv_room (Nat.le_of_ble_eq_true rfl)) dX0_macEnd_6 ⟨Nat.le_of_ble_eq_true rfl, Nat.le_of_ble_eq_true rfl⟩)) (fun r hr9 => ?_)
  subst hr9
  exact W.lret (v := (h2 (k ^^^ (54 : Int64)) i)) hx hb hr (fun t ht hW => ⟨_, rfl, rfl, ht⟩) (fun _ h => by cases h) dX0_macEnd_9
set_option maxHeartbeats 4000000 in
set_option maxRecDepth 100000 in
theorem c_X0_isRegister (l : Launch)  (q : Int32)  : Met l yX0_isRegister wsX0_isRegister ({ frames := 0, cells := 0, slots := 0, locals := 0 }) (va_Pc [.int q] (fun _ => True)) (vp_Si (fun r => r = X_isRegister q)) 0 0 (fun _ => False) := by
  refine Met.ofW (cc := cX0_isRegister) (maxL := 1) (ret := (some .boolean)) (by decide) rfl ?_
  intro p e s m args below meth c s₁ B hml hv
  obtain ⟨rfl, -⟩ := hv
  have hx := B.exec
  have hb := B.bytes
  have hr := B.returns
  have hts := atoms_spec (ws := wsX0_isRegister) B.pre
  have hown : s.vm.findClass RX0 = some m.cls := findClass_of_methodNamed B.named
  have hlocks := B.notSynchronized
  have hl := lv_entry ([.int q]) (n := 1) (Nat.le_of_ble_eq_true rfl)
  rw [lg_entry_eq]
  generalize (lg_sl ([.int q]) ++ List.replicate (1 - (lg_sl ([.int q])).length) Slot.unset).toArray = ls at hl ⊢
  have hl : lv_has ls 1 [(0, .int q)] := hl
  refine lv_iload_n hx hb dX0_isRegister_0 rfl (lv_at hl 0 rfl) ?_
  refine lv_if_lt (tgt := 14) hx hb dX0_isRegister_1 (by decide) (fun c1 => ?_) (fun c1 => ?_)
  · skip
    refine lv_iconst (v := 0) hx hb dX0_isRegister_14 (by decide) ?_
    exact W.zret (v := (0 : Int32)) hx hb hr rfl (fun t ht hW => ⟨_, rfl, (by simp only [X_isRegister, if_pos c1] <;> rfl), ht⟩) (fun _ h => by cases h) dX0_isRegister_15
  · skip
    refine lv_iload_n hx hb dX0_isRegister_4 rfl (lv_at hl 0 rfl) ?_
    refine lv_bipush (v := 8) hx hb dX0_isRegister_5 (by decide) ?_
    refine lv_icmp_ge (tgt := 14) hx hb dX0_isRegister_7 (by decide) (fun c7 => ?_) (fun c7 => ?_)
    · skip
      refine lv_iconst (v := 0) hx hb dX0_isRegister_14 (by decide) ?_
      exact W.zret (v := (0 : Int32)) hx hb hr rfl (fun t ht hW => ⟨_, rfl, (by simp only [X_isRegister, if_neg c1, if_pos c7] <;> rfl), ht⟩) (fun _ h => by cases h) dX0_isRegister_15
    · skip
      refine lv_iconst (v := 1) hx hb dX0_isRegister_10 (by decide) ?_
      refine lv_goto (tgt := 15) hx hb dX0_isRegister_11 (by decide) ?_
      exact W.zret (v := (1 : Int32)) hx hb hr rfl (fun t ht hW => ⟨_, rfl, (by simp only [X_isRegister, if_neg c1, if_neg c7] <;> rfl), ht⟩) (fun _ h => by cases h) dX0_isRegister_15
set_option maxHeartbeats 4000000 in
set_option maxRecDepth 100000 in
theorem c_X0_isMask (l : Launch)  (q : Int64)  : Met l yX0_isMask wsX0_isMask ({ frames := 0, cells := 0, slots := 0, locals := 0 }) (va_Pc [.long q] (fun _ => True)) (vp_Si (fun r => r = X_isMask q)) 0 0 (fun _ => False) := by
  refine Met.ofW (cc := cX0_isMask) (maxL := 2) (ret := (some .boolean)) (by decide) rfl ?_
  intro p e s m args below meth c s₁ B hml hv
  obtain ⟨rfl, -⟩ := hv
  have hx := B.exec
  have hb := B.bytes
  have hr := B.returns
  have hts := atoms_spec (ws := wsX0_isMask) B.pre
  have hown : s.vm.findClass RX0 = some m.cls := findClass_of_methodNamed B.named
  have hlocks := B.notSynchronized
  have hl := lv_entry ([.long q]) (n := 2) (Nat.le_of_ble_eq_true rfl)
  rw [lg_entry_eq]
  generalize (lg_sl ([.long q]) ++ List.replicate (2 - (lg_sl ([.long q])).length) Slot.unset).toArray = ls at hl ⊢
  have hl : lv_has ls 2 [(0, .long q)] := hl
  refine lv_lload_n hx hb dX0_isMask_0 rfl (lv_at hl 0 rfl) ?_
  refine lv_lconst (v := 0) hx hb dX0_isMask_1 (by decide) ?_
  refine W.lcmp hx hb dX0_isMask_2 ?_
  refine lv_if_lt (tgt := 18) hx hb dX0_isMask_3 (by decide) (fun c3 => ?_) (fun c3 => ?_)
  · skip
    refine lv_iconst (v := 0) hx hb dX0_isMask_18 (by decide) ?_
    exact W.zret (v := (0 : Int32)) hx hb hr rfl (fun t ht hW => ⟨_, rfl, (by simp only [X_isMask, if_pos c3] <;> rfl), ht⟩) (fun _ h => by cases h) dX0_isMask_19
  · skip
    refine lv_lload_n hx hb dX0_isMask_6 rfl (lv_at hl 0 rfl) ?_
    refine lv_ldc2 (v := 255) hx hb hown (hts (.constantLong RX0 132 (255)) (by decide +kernel)) dX0_isMask_7 ?_
    refine W.lcmp hx hb dX0_isMask_10 ?_
    refine lv_if_gt (tgt := 18) hx hb dX0_isMask_11 (by decide) (fun c11 => ?_) (fun c11 => ?_)
    · skip
      refine lv_iconst (v := 0) hx hb dX0_isMask_18 (by decide) ?_
      exact W.zret (v := (0 : Int32)) hx hb hr rfl (fun t ht hW => ⟨_, rfl, (by simp only [X_isMask, if_neg c3, if_pos c11] <;> rfl), ht⟩) (fun _ h => by cases h) dX0_isMask_19
    · skip
      refine lv_iconst (v := 1) hx hb dX0_isMask_14 (by decide) ?_
      refine lv_goto (tgt := 19) hx hb dX0_isMask_15 (by decide) ?_
      exact W.zret (v := (1 : Int32)) hx hb hr rfl (fun t ht hW => ⟨_, rfl, (by simp only [X_isMask, if_neg c3, if_neg c11] <;> rfl), ht⟩) (fun _ h => by cases h) dX0_isMask_19
set_option maxHeartbeats 4000000 in
set_option maxRecDepth 100000 in
theorem c_J6_bitCount_0f7a4 (l : Launch)  (q : Int32) : Met l yJ6_bitCount_0f7a4 wsJ6_bitCount_0f7a4 ({ frames := 0, cells := 0, slots := 0, locals := 0 }) (va_Pc [.int q] (fun _ => True)) (vp_Si (fun r => r = bc32 q)) 0 0 (fun _ => False) := by
  refine Met.ofW (cc := cJ6_bitCount_0f7a4) (maxL := 1) (ret := (some .int)) (by decide) rfl ?_
  intro p e s m args below meth c s₁ B hml hv
  obtain ⟨rfl, -⟩ := hv
  have hx := B.exec
  have hb := B.bytes
  have hr := B.returns
  have hts := atoms_spec (ws := wsJ6_bitCount_0f7a4) B.pre
  have hown : s.vm.findClass RJ6 = some m.cls := findClass_of_methodNamed B.named
  have hlocks := B.notSynchronized
  have hl := lv_entry ([.int q]) (n := 1) (Nat.le_of_ble_eq_true rfl)
  rw [lg_entry_eq]
  generalize (lg_sl ([.int q]) ++ List.replicate (1 - (lg_sl ([.int q])).length) Slot.unset).toArray = ls at hl ⊢
  have hl : lv_has ls 1 [(0, .int q)] := hl
  refine lv_iload_n hx hb dJ6_bitCount_0f7a4_0 rfl (lv_at hl 0 rfl) ?_
  refine lv_iload_n hx hb dJ6_bitCount_0f7a4_1 rfl (lv_at hl 0 rfl) ?_
  refine lv_iconst (v := 1) hx hb dJ6_bitCount_0f7a4_2 (by decide) ?_
  refine lv_iushr hx hb dJ6_bitCount_0f7a4_3 rfl ?_
  refine lv_ldcw (v := 1431655765) hx hb hown (hts (.constant RJ6 265 (1431655765)) (by decide +kernel)) dJ6_bitCount_0f7a4_4 ?_
  refine lv_iand hx hb dJ6_bitCount_0f7a4_7 ?_
  refine lv_isub hx hb dJ6_bitCount_0f7a4_8 ?_
  refine lv_istore_n (lv' := [(0, .int (bcA q))]) hx hb dJ6_bitCount_0f7a4_9 rfl hl (by decide) rfl (fun ls hl => ?_)
  refine lv_iload_n hx hb dJ6_bitCount_0f7a4_10 rfl (lv_at hl 0 rfl) ?_
  refine lv_ldcw (v := 858993459) hx hb hown (hts (.constant RJ6 266 (858993459)) (by decide +kernel)) dJ6_bitCount_0f7a4_11 ?_
  refine lv_iand hx hb dJ6_bitCount_0f7a4_14 ?_
  refine lv_iload_n hx hb dJ6_bitCount_0f7a4_15 rfl (lv_at hl 0 rfl) ?_
  refine lv_iconst (v := 2) hx hb dJ6_bitCount_0f7a4_16 (by decide) ?_
  refine lv_iushr hx hb dJ6_bitCount_0f7a4_17 rfl ?_
  refine lv_ldcw (v := 858993459) hx hb hown (hts (.constant RJ6 266 (858993459)) (by decide +kernel)) dJ6_bitCount_0f7a4_18 ?_
  refine lv_iand hx hb dJ6_bitCount_0f7a4_21 ?_
  refine lv_iadd hx hb dJ6_bitCount_0f7a4_22 ?_
  refine lv_istore_n (lv' := [(0, .int (bcB (bcA q)))]) hx hb dJ6_bitCount_0f7a4_23 rfl hl (by decide) rfl (fun ls hl => ?_)
  refine lv_iload_n hx hb dJ6_bitCount_0f7a4_24 rfl (lv_at hl 0 rfl) ?_
  refine lv_iload_n hx hb dJ6_bitCount_0f7a4_25 rfl (lv_at hl 0 rfl) ?_
  refine lv_iconst (v := 4) hx hb dJ6_bitCount_0f7a4_26 (by decide) ?_
  refine lv_iushr hx hb dJ6_bitCount_0f7a4_27 rfl ?_
  refine lv_iadd hx hb dJ6_bitCount_0f7a4_28 ?_
  refine lv_ldcw (v := 252645135) hx hb hown (hts (.constant RJ6 267 (252645135)) (by decide +kernel)) dJ6_bitCount_0f7a4_29 ?_
  refine lv_iand hx hb dJ6_bitCount_0f7a4_32 ?_
  refine lv_istore_n (lv' := [(0, .int (bcC (bcB (bcA q))))]) hx hb dJ6_bitCount_0f7a4_33 rfl hl (by decide) rfl (fun ls hl => ?_)
  refine lv_iload_n hx hb dJ6_bitCount_0f7a4_34 rfl (lv_at hl 0 rfl) ?_
  refine lv_iload_n hx hb dJ6_bitCount_0f7a4_35 rfl (lv_at hl 0 rfl) ?_
  refine lv_bipush (v := 8) hx hb dJ6_bitCount_0f7a4_36 (by decide) ?_
  refine lv_iushr hx hb dJ6_bitCount_0f7a4_38 rfl ?_
  refine lv_iadd hx hb dJ6_bitCount_0f7a4_39 ?_
  refine lv_istore_n (lv' := [(0, .int (bcD (bcC (bcB (bcA q)))))]) hx hb dJ6_bitCount_0f7a4_40 rfl hl (by decide) rfl (fun ls hl => ?_)
  refine lv_iload_n hx hb dJ6_bitCount_0f7a4_41 rfl (lv_at hl 0 rfl) ?_
  refine lv_iload_n hx hb dJ6_bitCount_0f7a4_42 rfl (lv_at hl 0 rfl) ?_
  refine lv_bipush (v := 16) hx hb dJ6_bitCount_0f7a4_43 (by decide) ?_
  refine lv_iushr hx hb dJ6_bitCount_0f7a4_45 rfl ?_
  refine lv_iadd hx hb dJ6_bitCount_0f7a4_46 ?_
  refine lv_istore_n (lv' := [(0, .int (bcE (bcD (bcC (bcB (bcA q))))))]) hx hb dJ6_bitCount_0f7a4_47 rfl hl (by decide) rfl (fun ls hl => ?_)
  refine lv_iload_n hx hb dJ6_bitCount_0f7a4_48 rfl (lv_at hl 0 rfl) ?_
  refine lv_bipush (v := 63) hx hb dJ6_bitCount_0f7a4_49 (by decide) ?_
  refine lv_iand hx hb dJ6_bitCount_0f7a4_51 ?_
  exact W.iret (v := ((bcE (bcD (bcC (bcB (bcA q))))) &&& (63 : Int32))) hx hb hr (fun t ht hW => ⟨_, rfl, rfl, ht⟩) (fun _ h => by cases h) dJ6_bitCount_0f7a4_52
