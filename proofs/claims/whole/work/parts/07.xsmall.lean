set_option maxHeartbeats 4000000 in
set_option maxRecDepth 100000 in
theorem c_X0_isOpen (l : Launch) (dC : Nat → ClassId) (dI : Nat → Nat → Nat) (ad : Nat → Nat) (cL cZ cO : ClassId) (S : SX) (q : Int32)  : Met l yX0_isOpen wsX0_isOpen ({ frames := 0, cells := 0, slots := 0, locals := 0 }) (va_Pc [.ref (ad 0), .int q] (fun U => va_P (dC, dI) vwCl (wX ad cL cZ cO S) U.heap ∧ va_K (dC, dI) vwCl (tyX cL cZ cO) U)) (vp_Si (fun r => r = X_isOpen S q)) 0 0 (fun _ => False) := by
  refine Met.ofW (cc := cX0_isOpen) (maxL := 2) (ret := (some .boolean)) (by decide) rfl ?_
  intro p e s m args below meth c s₁ B hml hv
  obtain ⟨rfl, hP, hK⟩ := hv
  have hx := B.exec
  have hb := B.bytes
  have hr := B.returns
  have hts := atoms_spec (ws := wsX0_isOpen) B.pre
  have hown : s.vm.findClass RX0 = some m.cls := findClass_of_methodNamed B.named
  have hlocks := B.notSynchronized
  have hin : ∀ w ∈ wsX00, w ∈ wsX0_isOpen := fun _ h => List.mem_cons_of_mem _ (List.mem_append_right _ h)
  have hl := lv_entry ([.ref (ad 0), .int q]) (n := 2) (Nat.le_of_ble_eq_true rfl)
  rw [lg_entry_eq]
  generalize (lg_sl ([.ref (ad 0), .int q]) ++ List.replicate (2 - (lg_sl ([.ref (ad 0), .int q])).length) Slot.unset).toArray = ls at hl ⊢
  have hl : lv_has ls 2 [(0, .ref (ad 0)), (1, .int q)] := hl
  refine lv_aload_n hx hb dX0_isOpen_0 rfl (lv_at hl 0 rfl) ?_
  refine g_x_lo hx hb hts hin hown hK hP (hts (.fieldLink RX0 45 RX0 "locality" "I") (by decide +kernel)) dX0_isOpen_1 ?_
  refine lv_iload_n hx hb dX0_isOpen_4 rfl (lv_at hl 1 rfl) ?_
  refine lv_iconst (v := 2) hx hb dX0_isOpen_5 (by decide) ?_
  refine lv_idiv hx hb dX0_isOpen_6 (by decide) ?_
  refine lv_icmp_lt (tgt := 14) hx hb dX0_isOpen_7 (by decide) (fun c7 => ?_) (fun c7 => ?_)
  · skip
    refine lv_iconst (v := 0) hx hb dX0_isOpen_14 (by decide) ?_
    exact W.zret (v := (0 : Int32)) hx hb hr rfl (fun t ht hW => ⟨_, rfl, (by simp only [X_isOpen, if_pos c7] <;> rfl), ht⟩) (fun _ h => by cases h) dX0_isOpen_15
  · skip
    refine lv_iconst (v := 1) hx hb dX0_isOpen_10 (by decide) ?_
    refine lv_goto (tgt := 15) hx hb dX0_isOpen_11 (by decide) ?_
    exact W.zret (v := (1 : Int32)) hx hb hr rfl (fun t ht hW => ⟨_, rfl, (by simp only [X_isOpen, if_neg c7] <;> rfl), ht⟩) (fun _ h => by cases h) dX0_isOpen_15
set_option maxHeartbeats 4000000 in
set_option maxRecDepth 100000 in
theorem c_X0_isKey (l : Launch) (dC : Nat → ClassId) (dI : Nat → Nat → Nat) (ad : Nat → Nat) (cL cZ cO : ClassId) (S : SX) (q : Int32)  : Met l yX0_isKey wsX0_isKey ({ frames := 0, cells := 0, slots := 0, locals := 0 }) (va_Pc [.ref (ad 0), .int q] (fun U => va_P (dC, dI) vwCl (wX ad cL cZ cO S) U.heap ∧ va_K (dC, dI) vwCl (tyX cL cZ cO) U)) (vp_Si (fun r => r = X_isKey S q)) 0 0 (fun _ => False) := by
  refine Met.ofW (cc := cX0_isKey) (maxL := 2) (ret := (some .boolean)) (by decide) rfl ?_
  intro p e s m args below meth c s₁ B hml hv
  obtain ⟨rfl, hP, hK⟩ := hv
  have hx := B.exec
  have hb := B.bytes
  have hr := B.returns
  have hts := atoms_spec (ws := wsX0_isKey) B.pre
  have hown : s.vm.findClass RX0 = some m.cls := findClass_of_methodNamed B.named
  have hlocks := B.notSynchronized
  have hin : ∀ w ∈ wsX00, w ∈ wsX0_isKey := fun _ h => List.mem_cons_of_mem _ (List.mem_append_right _ h)
  have hl := lv_entry ([.ref (ad 0), .int q]) (n := 2) (Nat.le_of_ble_eq_true rfl)
  rw [lg_entry_eq]
  generalize (lg_sl ([.ref (ad 0), .int q]) ++ List.replicate (2 - (lg_sl ([.ref (ad 0), .int q])).length) Slot.unset).toArray = ls at hl ⊢
  have hl : lv_has ls 2 [(0, .ref (ad 0)), (1, .int q)] := hl
  refine lv_iload_n hx hb dX0_isKey_0 rfl (lv_at hl 1 rfl) ?_
  refine lv_if_lt (tgt := 23) hx hb dX0_isKey_1 (by decide) (fun c1 => ?_) (fun c1 => ?_)
  · skip
    refine lv_iconst (v := 0) hx hb dX0_isKey_23 (by decide) ?_
    exact W.zret (v := (0 : Int32)) hx hb hr rfl (fun t ht hW => ⟨_, rfl, (by simp only [X_isKey, if_pos c1] <;> rfl), ht⟩) (fun _ h => by cases h) dX0_isKey_24
  · skip
    refine lv_iload_n hx hb dX0_isKey_4 rfl (lv_at hl 1 rfl) ?_
    refine lv_bipush (v := 6) hx hb dX0_isKey_5 (by decide) ?_
    refine lv_icmp_ge (tgt := 23) hx hb dX0_isKey_7 (by decide) (fun c7 => ?_) (fun c7 => ?_)
    · skip
      refine lv_iconst (v := 0) hx hb dX0_isKey_23 (by decide) ?_
      exact W.zret (v := (0 : Int32)) hx hb hr rfl (fun t ht hW => ⟨_, rfl, (by simp only [X_isKey, if_neg c1, if_pos c7] <;> rfl), ht⟩) (fun _ h => by cases h) dX0_isKey_24
    · skip
      have hq : vp_in q 6 := xin_of (M := 6) rfl (by decide) c1 c7
      refine lv_aload_n hx hb dX0_isKey_10 rfl (lv_at hl 0 rfl) ?_
      refine g_x_akt hx hb hts hin hown hK hP (hts (.fieldLink RX0 21 RX0 "keyThere" "[Z") (by decide +kernel)) dX0_isKey_11 ?_
      refine lv_iload_n hx hb dX0_isKey_14 rfl (lv_at hl 1 rfl) ?_
      refine l_x_kt hx hb hK hP (xat_self hq) dX0_isKey_15 ?_
      refine lv_if_eq (tgt := 23) hx hb dX0_isKey_16 (by decide) (fun c16 => ?_) (fun c16 => ?_)
      · skip
        refine lv_iconst (v := 0) hx hb dX0_isKey_23 (by decide) ?_
        exact W.zret (v := (0 : Int32)) hx hb hr rfl (fun t ht hW => ⟨_, rfl, (by simp only [X_isKey, if_neg c1, if_neg c7, if_pos c16] <;> rfl), ht⟩) (fun _ h => by cases h) dX0_isKey_24
      · skip
        refine lv_iconst (v := 1) hx hb dX0_isKey_19 (by decide) ?_
        refine lv_goto (tgt := 24) hx hb dX0_isKey_20 (by decide) ?_
        exact W.zret (v := (1 : Int32)) hx hb hr rfl (fun t ht hW => ⟨_, rfl, (by simp only [X_isKey, if_neg c1, if_neg c7, if_neg c16] <;> rfl), ht⟩) (fun _ h => by cases h) dX0_isKey_24
set_option maxHeartbeats 4000000 in
set_option maxRecDepth 100000 in
theorem c_X0_isSession (l : Launch) (dC : Nat → ClassId) (dI : Nat → Nat → Nat) (ad : Nat → Nat) (cL cZ cO : ClassId) (S : SX) (q : Int32)  : Met l yX0_isSession wsX0_isSession ({ frames := 0, cells := 0, slots := 0, locals := 0 }) (va_Pc [.ref (ad 0), .int q] (fun U => va_P (dC, dI) vwCl (wX ad cL cZ cO S) U.heap ∧ va_K (dC, dI) vwCl (tyX cL cZ cO) U)) (vp_Si (fun r => r = X_isSession S q)) 0 0 (fun _ => False) := by
  refine Met.ofW (cc := cX0_isSession) (maxL := 2) (ret := (some .boolean)) (by decide) rfl ?_
  intro p e s m args below meth c s₁ B hml hv
  obtain ⟨rfl, hP, hK⟩ := hv
  have hx := B.exec
  have hb := B.bytes
  have hr := B.returns
  have hts := atoms_spec (ws := wsX0_isSession) B.pre
  have hown : s.vm.findClass RX0 = some m.cls := findClass_of_methodNamed B.named
  have hlocks := B.notSynchronized
  have hin : ∀ w ∈ wsX00, w ∈ wsX0_isSession := fun _ h => List.mem_cons_of_mem _ (List.mem_append_right _ h)
  have hl := lv_entry ([.ref (ad 0), .int q]) (n := 2) (Nat.le_of_ble_eq_true rfl)
  rw [lg_entry_eq]
  generalize (lg_sl ([.ref (ad 0), .int q]) ++ List.replicate (2 - (lg_sl ([.ref (ad 0), .int q])).length) Slot.unset).toArray = ls at hl ⊢
  have hl : lv_has ls 2 [(0, .ref (ad 0)), (1, .int q)] := hl
  refine lv_iload_n hx hb dX0_isSession_0 rfl (lv_at hl 1 rfl) ?_
  refine lv_if_lt (tgt := 22) hx hb dX0_isSession_1 (by decide) (fun c1 => ?_) (fun c1 => ?_)
  · skip
    refine lv_iconst (v := 0) hx hb dX0_isSession_22 (by decide) ?_
    exact W.zret (v := (0 : Int32)) hx hb hr rfl (fun t ht hW => ⟨_, rfl, (by simp only [X_isSession, if_pos c1] <;> rfl), ht⟩) (fun _ h => by cases h) dX0_isSession_23
  · skip
    refine lv_iload_n hx hb dX0_isSession_4 rfl (lv_at hl 1 rfl) ?_
    refine lv_iconst (v := 4) hx hb dX0_isSession_5 (by decide) ?_
    refine lv_icmp_ge (tgt := 22) hx hb dX0_isSession_6 (by decide) (fun c6 => ?_) (fun c6 => ?_)
    · skip
      refine lv_iconst (v := 0) hx hb dX0_isSession_22 (by decide) ?_
      exact W.zret (v := (0 : Int32)) hx hb hr rfl (fun t ht hW => ⟨_, rfl, (by simp only [X_isSession, if_neg c1, if_pos c6] <;> rfl), ht⟩) (fun _ h => by cases h) dX0_isSession_23
    · skip
      have hq : vp_in q 4 := xin_of (M := 4) rfl (by decide) c1 c6
      refine lv_aload_n hx hb dX0_isSession_9 rfl (lv_at hl 0 rfl) ?_
      refine g_x_ast hx hb hts hin hown hK hP (hts (.fieldLink RX0 31 RX0 "sessionThere" "[Z") (by decide +kernel)) dX0_isSession_10 ?_
      refine lv_iload_n hx hb dX0_isSession_13 rfl (lv_at hl 1 rfl) ?_
      refine l_x_st hx hb hK hP (xat_self hq) dX0_isSession_14 ?_
      refine lv_if_eq (tgt := 22) hx hb dX0_isSession_15 (by decide) (fun c15 => ?_) (fun c15 => ?_)
      · skip
        refine lv_iconst (v := 0) hx hb dX0_isSession_22 (by decide) ?_
        exact W.zret (v := (0 : Int32)) hx hb hr rfl (fun t ht hW => ⟨_, rfl, (by simp only [X_isSession, if_neg c1, if_neg c6, if_pos c15] <;> rfl), ht⟩) (fun _ h => by cases h) dX0_isSession_23
      · skip
        refine lv_iconst (v := 1) hx hb dX0_isSession_18 (by decide) ?_
        refine lv_goto (tgt := 23) hx hb dX0_isSession_19 (by decide) ?_
        exact W.zret (v := (1 : Int32)) hx hb hr rfl (fun t ht hW => ⟨_, rfl, (by simp only [X_isSession, if_neg c1, if_neg c6, if_neg c15] <;> rfl), ht⟩) (fun _ h => by cases h) dX0_isSession_23
set_option maxHeartbeats 4000000 in
set_option maxRecDepth 100000 in
theorem c_X0_isBlob (l : Launch) (dC : Nat → ClassId) (dI : Nat → Nat → Nat) (ad : Nat → Nat) (cL cZ cO : ClassId) (S : SX) (q : Int32)  : Met l yX0_isBlob wsX0_isBlob ({ frames := 0, cells := 0, slots := 0, locals := 0 }) (va_Pc [.ref (ad 0), .int q] (fun U => va_P (dC, dI) vwCl (wX ad cL cZ cO S) U.heap ∧ va_K (dC, dI) vwCl (tyX cL cZ cO) U)) (vp_Si (fun r => r = X_isBlob S q)) 0 0 (fun _ => False) := by
  refine Met.ofW (cc := cX0_isBlob) (maxL := 2) (ret := (some .boolean)) (by decide) rfl ?_
  intro p e s m args below meth c s₁ B hml hv
  obtain ⟨rfl, hP, hK⟩ := hv
  have hx := B.exec
  have hb := B.bytes
  have hr := B.returns
  have hts := atoms_spec (ws := wsX0_isBlob) B.pre
  have hown : s.vm.findClass RX0 = some m.cls := findClass_of_methodNamed B.named
  have hlocks := B.notSynchronized
  have hin : ∀ w ∈ wsX00, w ∈ wsX0_isBlob := fun _ h => List.mem_cons_of_mem _ (List.mem_append_right _ h)
  have hl := lv_entry ([.ref (ad 0), .int q]) (n := 2) (Nat.le_of_ble_eq_true rfl)
  rw [lg_entry_eq]
  generalize (lg_sl ([.ref (ad 0), .int q]) ++ List.replicate (2 - (lg_sl ([.ref (ad 0), .int q])).length) Slot.unset).toArray = ls at hl ⊢
  have hl : lv_has ls 2 [(0, .ref (ad 0)), (1, .int q)] := hl
  refine lv_iload_n hx hb dX0_isBlob_0 rfl (lv_at hl 1 rfl) ?_
  refine lv_if_lt (tgt := 16) hx hb dX0_isBlob_1 (by decide) (fun c1 => ?_) (fun c1 => ?_)
  · skip
    refine lv_iconst (v := 0) hx hb dX0_isBlob_16 (by decide) ?_
    exact W.zret (v := (0 : Int32)) hx hb hr rfl (fun t ht hW => ⟨_, rfl, (by simp only [X_isBlob, if_pos c1] <;> rfl), ht⟩) (fun _ h => by cases h) dX0_isBlob_17
  · skip
    refine lv_iload_n hx hb dX0_isBlob_4 rfl (lv_at hl 1 rfl) ?_
    refine lv_aload_n hx hb dX0_isBlob_5 rfl (lv_at hl 0 rfl) ?_
    refine g_x_bc hx hb hts hin hown hK hP (hts (.fieldLink RX0 92 RX0 "blobCount" "I") (by decide +kernel)) dX0_isBlob_6 ?_
    refine lv_icmp_ge (tgt := 16) hx hb dX0_isBlob_9 (by decide) (fun c9 => ?_) (fun c9 => ?_)
    · skip
      refine lv_iconst (v := 0) hx hb dX0_isBlob_16 (by decide) ?_
      exact W.zret (v := (0 : Int32)) hx hb hr rfl (fun t ht hW => ⟨_, rfl, (by simp only [X_isBlob, if_neg c1, if_pos c9] <;> rfl), ht⟩) (fun _ h => by cases h) dX0_isBlob_17
    · skip
      refine lv_iconst (v := 1) hx hb dX0_isBlob_12 (by decide) ?_
      refine lv_goto (tgt := 17) hx hb dX0_isBlob_13 (by decide) ?_
      exact W.zret (v := (1 : Int32)) hx hb hr rfl (fun t ht hW => ⟨_, rfl, (by simp only [X_isBlob, if_neg c1, if_neg c9] <;> rfl), ht⟩) (fun _ h => by cases h) dX0_isBlob_17
set_option maxHeartbeats 4000000 in
set_option maxRecDepth 100000 in
theorem c_X0_isBlobWord (l : Launch) (dC : Nat → ClassId) (dI : Nat → Nat → Nat) (ad : Nat → Nat) (cL cZ cO : ClassId) (S : SX) (q : Int32) (i : Int32)  : Met l yX0_isBlobWord wsX0_isBlobWord ({ frames := 1, cells := 0, slots := 0, locals := 21 }) (va_Pc [.ref (ad 0), .int q, .int i] (fun U => va_P (dC, dI) vwCl (wX ad cL cZ cO S) U.heap ∧ va_K (dC, dI) vwCl (tyX cL cZ cO) U)) (vp_Si (fun r => r = X_isBlobWord S q i)) 0 0 (fun _ => False) := by
  refine Met.ofW (cc := cX0_isBlobWord) (maxL := 3) (ret := (some .boolean)) (by decide) rfl ?_
  intro p e s m args below meth c s₁ B hml hv
  obtain ⟨rfl, hP, hK⟩ := hv
  have hx := B.exec
  have hb := B.bytes
  have hr := B.returns
  have hts := atoms_spec (ws := wsX0_isBlobWord) B.pre
  have hown : s.vm.findClass RX0 = some m.cls := findClass_of_methodNamed B.named
  have hlocks := B.notSynchronized
  have hin : ∀ w ∈ wsX00, w ∈ wsX0_isBlobWord := fun _ h => List.mem_cons_of_mem _ (List.mem_append_right _ h)
  have hl := lv_entry ([.ref (ad 0), .int q, .int i]) (n := 3) (Nat.le_of_ble_eq_true rfl)
  rw [lg_entry_eq]
  generalize (lg_sl ([.ref (ad 0), .int q, .int i]) ++ List.replicate (3 - (lg_sl ([.ref (ad 0), .int q, .int i])).length) Slot.unset).toArray = ls at hl ⊢
  have hl : lv_has ls 3 [(0, .ref (ad 0)), (1, .int q), (2, .int i)] := hl
  refine lv_aload_n hx hb dX0_isBlobWord_0 rfl (lv_at hl 0 rfl) ?_
  refine lv_iload_n hx hb dX0_isBlobWord_1 rfl (lv_at hl 1 rfl) ?_
  refine vp_callSi (va_Run.run (va_runV (As := [.int q]) (rest := []) ⟨hx, hb, hml, hown, hts⟩ (c_X0_isBlob l dC dI ad cL cZ cO S q ) (cwV 1 hts gX0_isBlobWord_X0_isBlob rfl rfl rfl (by decide +kernel) ⟨Nat.le_of_ble_eq_true rfl, Nat.le_of_ble_eq_true rfl⟩) (xpV_r [.int q] hK hP (va_recv hK hP (ci := 0) (q0 := 0) rfl rfl)) rfl rfl hl.1 rfl (lv_room (Nat.le_of_ble_eq_true rfl)) dX0_isBlobWord_2 ⟨Nat.le_of_ble_eq_true rfl, Nat.le_of_ble_eq_true rfl⟩)) (fun r hr9 => ?_)
  subst hr9
  refine lv_if_eq (tgt := 22) hx hb dX0_isBlobWord_5 (by decide) (fun c5 => ?_) (fun c5 => ?_)
  · skip
    refine lv_iconst (v := 0) hx hb dX0_isBlobWord_22 (by decide) ?_
    exact W.zret (v := (0 : Int32)) hx hb hr rfl (fun t ht hW => ⟨_, rfl, (by simp only [X_isBlobWord, if_pos c5] <;> rfl), ht⟩) (fun _ h => by cases h) dX0_isBlobWord_23
  · skip
    refine lv_iload_n hx hb dX0_isBlobWord_8 rfl (lv_at hl 2 rfl) ?_
    refine lv_if_lt (tgt := 22) hx hb dX0_isBlobWord_9 (by decide) (fun c9 => ?_) (fun c9 => ?_)
    · skip
      refine lv_iconst (v := 0) hx hb dX0_isBlobWord_22 (by decide) ?_
      exact W.zret (v := (0 : Int32)) hx hb hr rfl (fun t ht hW => ⟨_, rfl, (by simp only [X_isBlobWord, if_neg c5, if_pos c9] <;> rfl), ht⟩) (fun _ h => by cases h) dX0_isBlobWord_23
    · skip
      refine lv_iload_n hx hb dX0_isBlobWord_12 rfl (lv_at hl 2 rfl) ?_
      refine lv_bipush (v := 6) hx hb dX0_isBlobWord_13 (by decide) ?_
      refine lv_icmp_ge (tgt := 22) hx hb dX0_isBlobWord_15 (by decide) (fun c15 => ?_) (fun c15 => ?_)
      · skip
        refine lv_iconst (v := 0) hx hb dX0_isBlobWord_22 (by decide) ?_
        exact W.zret (v := (0 : Int32)) hx hb hr rfl (fun t ht hW => ⟨_, rfl, (by simp only [X_isBlobWord, if_neg c5, if_neg c9, if_pos c15] <;> rfl), ht⟩) (fun _ h => by cases h) dX0_isBlobWord_23
      · skip
        refine lv_iconst (v := 1) hx hb dX0_isBlobWord_18 (by decide) ?_
        refine lv_goto (tgt := 23) hx hb dX0_isBlobWord_19 (by decide) ?_
        exact W.zret (v := (1 : Int32)) hx hb hr rfl (fun t ht hW => ⟨_, rfl, (by simp only [X_isBlobWord, if_neg c5, if_neg c9, if_neg c15] <;> rfl), ht⟩) (fun _ h => by cases h) dX0_isBlobWord_23
set_option maxHeartbeats 4000000 in
set_option maxRecDepth 100000 in
theorem c_X0_isLocked (l : Launch) (dC : Nat → ClassId) (dI : Nat → Nat → Nat) (ad : Nat → Nat) (cL cZ cO : ClassId) (S : SX)   : Met l yX0_isLocked wsX0_isLocked ({ frames := 0, cells := 0, slots := 0, locals := 0 }) (va_Pc [.ref (ad 0)] (fun U => va_P (dC, dI) vwCl (wX ad cL cZ cO S) U.heap ∧ va_K (dC, dI) vwCl (tyX cL cZ cO) U)) (vp_Si (fun r => r = X_isLocked S )) 0 0 (fun _ => False) := by
  refine Met.ofW (cc := cX0_isLocked) (maxL := 1) (ret := (some .boolean)) (by decide) rfl ?_
  intro p e s m args below meth c s₁ B hml hv
  obtain ⟨rfl, hP, hK⟩ := hv
  have hx := B.exec
  have hb := B.bytes
  have hr := B.returns
  have hts := atoms_spec (ws := wsX0_isLocked) B.pre
  have hown : s.vm.findClass RX0 = some m.cls := findClass_of_methodNamed B.named
  have hlocks := B.notSynchronized
  have hin : ∀ w ∈ wsX00, w ∈ wsX0_isLocked := fun _ h => List.mem_cons_of_mem _ (List.mem_append_right _ h)
  have hl := lv_entry ([.ref (ad 0)]) (n := 1) (Nat.le_of_ble_eq_true rfl)
  rw [lg_entry_eq]
  generalize (lg_sl ([.ref (ad 0)]) ++ List.replicate (1 - (lg_sl ([.ref (ad 0)])).length) Slot.unset).toArray = ls at hl ⊢
  have hl : lv_has ls 1 [(0, .ref (ad 0))] := hl
  refine lv_aload_n hx hb dX0_isLocked_0 rfl (lv_at hl 0 rfl) ?_
  refine g_x_fa hx hb hts hin hown hK hP (hts (.fieldLink RX0 129 RX0 "failures" "I") (by decide +kernel)) dX0_isLocked_1 ?_
  refine lv_iconst (v := 3) hx hb dX0_isLocked_4 (by decide) ?_
  refine lv_icmp_lt (tgt := 12) hx hb dX0_isLocked_5 (by decide) (fun c5 => ?_) (fun c5 => ?_)
  · skip
    refine lv_iconst (v := 0) hx hb dX0_isLocked_12 (by decide) ?_
    exact W.zret (v := (0 : Int32)) hx hb hr rfl (fun t ht hW => ⟨_, rfl, (by simp only [X_isLocked, if_pos c5] <;> rfl), ht⟩) (fun _ h => by cases h) dX0_isLocked_13
  · skip
    refine lv_iconst (v := 1) hx hb dX0_isLocked_8 (by decide) ?_
    refine lv_goto (tgt := 13) hx hb dX0_isLocked_9 (by decide) ?_
    exact W.zret (v := (1 : Int32)) hx hb hr rfl (fun t ht hW => ⟨_, rfl, (by simp only [X_isLocked, if_neg c5] <;> rfl), ht⟩) (fun _ h => by cases h) dX0_isLocked_13
set_option maxHeartbeats 4000000 in
set_option maxRecDepth 100000 in
theorem c_X0_output (l : Launch) (dC : Nat → ClassId) (dI : Nat → Nat → Nat) (ad : Nat → Nat) (cL cZ cO : ClassId) (S : SX)   : Met l yX0_output wsX0_output ({ frames := 0, cells := 0, slots := 0, locals := 0 }) (va_Pc [.ref (ad 0)] (fun U => va_P (dC, dI) vwCl (wX ad cL cZ cO S) U.heap ∧ va_K (dC, dI) vwCl (tyX cL cZ cO) U)) (vp_Sl (fun r => r = x_ou S )) 0 0 (fun _ => False) := by
  refine Met.ofW (cc := cX0_output) (maxL := 1) (ret := (some .long)) (by decide) rfl ?_
  intro p e s m args below meth c s₁ B hml hv
  obtain ⟨rfl, hP, hK⟩ := hv
  have hx := B.exec
  have hb := B.bytes
  have hr := B.returns
  have hts := atoms_spec (ws := wsX0_output) B.pre
  have hown : s.vm.findClass RX0 = some m.cls := findClass_of_methodNamed B.named
  have hlocks := B.notSynchronized
  have hin : ∀ w ∈ wsX00, w ∈ wsX0_output := fun _ h => List.mem_cons_of_mem _ (List.mem_append_right _ h)
  have hl := lv_entry ([.ref (ad 0)]) (n := 1) (Nat.le_of_ble_eq_true rfl)
  rw [lg_entry_eq]
  generalize (lg_sl ([.ref (ad 0)]) ++ List.replicate (1 - (lg_sl ([.ref (ad 0)])).length) Slot.unset).toArray = ls at hl ⊢
  have hl : lv_has ls 1 [(0, .ref (ad 0))] := hl
  refine lv_aload_n hx hb dX0_output_0 rfl (lv_at hl 0 rfl) ?_
  refine g_x_ou hx hb hts hin hown hK hP (hts (.fieldLink RX0 115 RX0 "output" "J") (by decide +kernel)) dX0_output_1 ?_
  exact W.lret (v := (x_ou S)) hx hb hr (fun t ht hW => ⟨_, rfl, rfl, ht⟩) (fun _ h => by cases h) dX0_output_4
set_option maxHeartbeats 4000000 in
set_option maxRecDepth 100000 in
theorem c_X0_failures (l : Launch) (dC : Nat → ClassId) (dI : Nat → Nat → Nat) (ad : Nat → Nat) (cL cZ cO : ClassId) (S : SX)   : Met l yX0_failures wsX0_failures ({ frames := 0, cells := 0, slots := 0, locals := 0 }) (va_Pc [.ref (ad 0)] (fun U => va_P (dC, dI) vwCl (wX ad cL cZ cO S) U.heap ∧ va_K (dC, dI) vwCl (tyX cL cZ cO) U)) (vp_Si (fun r => r = x_fa S )) 0 0 (fun _ => False) := by
  refine Met.ofW (cc := cX0_failures) (maxL := 1) (ret := (some .int)) (by decide) rfl ?_
  intro p e s m args below meth c s₁ B hml hv
  obtain ⟨rfl, hP, hK⟩ := hv
  have hx := B.exec
  have hb := B.bytes
  have hr := B.returns
  have hts := atoms_spec (ws := wsX0_failures) B.pre
  have hown : s.vm.findClass RX0 = some m.cls := findClass_of_methodNamed B.named
  have hlocks := B.notSynchronized
  have hin : ∀ w ∈ wsX00, w ∈ wsX0_failures := fun _ h => List.mem_cons_of_mem _ (List.mem_append_right _ h)
  have hl := lv_entry ([.ref (ad 0)]) (n := 1) (Nat.le_of_ble_eq_true rfl)
  rw [lg_entry_eq]
  generalize (lg_sl ([.ref (ad 0)]) ++ List.replicate (1 - (lg_sl ([.ref (ad 0)])).length) Slot.unset).toArray = ls at hl ⊢
  have hl : lv_has ls 1 [(0, .ref (ad 0))] := hl
  refine lv_aload_n hx hb dX0_failures_0 rfl (lv_at hl 0 rfl) ?_
  refine g_x_fa hx hb hts hin hown hK hP (hts (.fieldLink RX0 129 RX0 "failures" "I") (by decide +kernel)) dX0_failures_1 ?_
  exact W.iret (v := (x_fa S)) hx hb hr (fun t ht hW => ⟨_, rfl, rfl, ht⟩) (fun _ h => by cases h) dX0_failures_4
set_option maxHeartbeats 4000000 in
set_option maxRecDepth 100000 in
theorem c_X0_register (l : Launch) (dC : Nat → ClassId) (dI : Nat → Nat → Nat) (ad : Nat → Nat) (cL cZ cO : ClassId) (S : SX) (q : Int32)  : Met l yX0_register wsX0_register ({ frames := 1, cells := 0, slots := 0, locals := 20 }) (va_Pc [.ref (ad 0), .int q] (fun U => va_P (dC, dI) vwCl (wX ad cL cZ cO S) U.heap ∧ va_K (dC, dI) vwCl (tyX cL cZ cO) U)) (vp_Sl (fun r => r = X_register S q)) 0 0 (fun _ => False) := by
  refine Met.ofW (cc := cX0_register) (maxL := 2) (ret := (some .long)) (by decide) rfl ?_
  intro p e s m args below meth c s₁ B hml hv
  obtain ⟨rfl, hP, hK⟩ := hv
  have hx := B.exec
  have hb := B.bytes
  have hr := B.returns
  have hts := atoms_spec (ws := wsX0_register) B.pre
  have hown : s.vm.findClass RX0 = some m.cls := findClass_of_methodNamed B.named
  have hlocks := B.notSynchronized
  have hin : ∀ w ∈ wsX00, w ∈ wsX0_register := fun _ h => List.mem_cons_of_mem _ (List.mem_append_right _ h)
  have hl := lv_entry ([.ref (ad 0), .int q]) (n := 2) (Nat.le_of_ble_eq_true rfl)
  rw [lg_entry_eq]
  generalize (lg_sl ([.ref (ad 0), .int q]) ++ List.replicate (2 - (lg_sl ([.ref (ad 0), .int q])).length) Slot.unset).toArray = ls at hl ⊢
  have hl : lv_has ls 2 [(0, .ref (ad 0)), (1, .int q)] := hl
  refine lv_iload_n hx hb dX0_register_0 rfl (lv_at hl 1 rfl) ?_
  refine vp_callSi (va_Run.run (va_runS (As := [.int q]) (rest := []) ⟨hx, hb, hml, hown, hts⟩ (c_X0_isRegister l q ) (va_cwS 1 hts gX0_register_X0_isRegister rfl rfl rfl (by decide +kernel) ⟨Nat.le_of_ble_eq_true rfl, Nat.le_of_ble_eq_true rfl⟩) (xpS_n _) rfl rfl hl.1 rfl (lv_room (Nat.le_of_ble_eq_true rfl)) dX0_register_1 ⟨Nat.le_of_ble_eq_true rfl, Nat.le_of_ble_eq_true rfl⟩)) (fun r hr9 => ?_)
  subst hr9
  refine lv_if_eq (tgt := 16) hx hb dX0_register_4 (by decide) (fun c4 => ?_) (fun c4 => ?_)
  · skip
    refine lv_lconst (v := 0) hx hb dX0_register_16 (by decide) ?_
    exact W.lret (v := (0 : Int64)) hx hb hr (fun t ht hW => ⟨_, rfl, (by simp only [X_register, if_pos c4] <;> rfl), ht⟩) (fun _ h => by cases h) dX0_register_17
  · skip
    have hq := X_isRegister_in c4
    refine lv_aload_n hx hb dX0_register_7 rfl (lv_at hl 0 rfl) ?_
    refine g_x_arg hx hb hts hin hown hK hP (hts (.fieldLink RX0 17 RX0 "registers" "[J") (by decide +kernel)) dX0_register_8 ?_
    refine lv_iload_n hx hb dX0_register_11 rfl (lv_at hl 1 rfl) ?_
    refine l_x_rg hx hb hK hP (xat_self hq) dX0_register_12 ?_
    refine lv_goto (tgt := 17) hx hb dX0_register_13 (by decide) ?_
    exact W.lret (v := (x_rg S q.toNatClampNeg)) hx hb hr (fun t ht hW => ⟨_, rfl, (by simp only [X_register, if_neg c4] <;> rfl), ht⟩) (fun _ h => by cases h) dX0_register_17
set_option maxHeartbeats 4000000 in
set_option maxRecDepth 100000 in
theorem c_X0_name (l : Launch) (dC : Nat → ClassId) (dI : Nat → Nat → Nat) (ad : Nat → Nat) (cL cZ cO : ClassId) (S : SX) (q : Int32)  : Met l yX0_name wsX0_name ({ frames := 1, cells := 0, slots := 0, locals := 21 }) (va_Pc [.ref (ad 0), .int q] (fun U => va_P (dC, dI) vwCl (wX ad cL cZ cO S) U.heap ∧ va_K (dC, dI) vwCl (tyX cL cZ cO) U)) (vp_Sl (fun r => r = X_name S q)) 0 0 (fun _ => False) := by
  refine Met.ofW (cc := cX0_name) (maxL := 2) (ret := (some .long)) (by decide) rfl ?_
  intro p e s m args below meth c s₁ B hml hv
  obtain ⟨rfl, hP, hK⟩ := hv
  have hx := B.exec
  have hb := B.bytes
  have hr := B.returns
  have hts := atoms_spec (ws := wsX0_name) B.pre
  have hown : s.vm.findClass RX0 = some m.cls := findClass_of_methodNamed B.named
  have hlocks := B.notSynchronized
  have hin : ∀ w ∈ wsX00, w ∈ wsX0_name := fun _ h => List.mem_cons_of_mem _ (List.mem_append_right _ h)
  have hl := lv_entry ([.ref (ad 0), .int q]) (n := 2) (Nat.le_of_ble_eq_true rfl)
  rw [lg_entry_eq]
  generalize (lg_sl ([.ref (ad 0), .int q]) ++ List.replicate (2 - (lg_sl ([.ref (ad 0), .int q])).length) Slot.unset).toArray = ls at hl ⊢
  have hl : lv_has ls 2 [(0, .ref (ad 0)), (1, .int q)] := hl
  refine lv_aload_n hx hb dX0_name_0 rfl (lv_at hl 0 rfl) ?_
  refine lv_iload_n hx hb dX0_name_1 rfl (lv_at hl 1 rfl) ?_
  refine vp_callSi (va_Run.run (va_runV (As := [.int q]) (rest := []) ⟨hx, hb, hml, hown, hts⟩ (c_X0_isKey l dC dI ad cL cZ cO S q ) (cwV 1 hts gX0_name_X0_isKey rfl rfl rfl (by decide +kernel) ⟨Nat.le_of_ble_eq_true rfl, Nat.le_of_ble_eq_true rfl⟩) (xpV_r [.int q] hK hP (va_recv hK hP (ci := 0) (q0 := 0) rfl rfl)) rfl rfl hl.1 rfl (lv_room (Nat.le_of_ble_eq_true rfl)) dX0_name_2 ⟨Nat.le_of_ble_eq_true rfl, Nat.le_of_ble_eq_true rfl⟩)) (fun r hr9 => ?_)
  subst hr9
  refine lv_if_eq (tgt := 17) hx hb dX0_name_5 (by decide) (fun c5 => ?_) (fun c5 => ?_)
  · skip
    refine lv_lconst (v := 0) hx hb dX0_name_17 (by decide) ?_
    exact W.lret (v := (0 : Int64)) hx hb hr (fun t ht hW => ⟨_, rfl, (by simp only [X_name, if_pos c5] <;> rfl), ht⟩) (fun _ h => by cases h) dX0_name_18
  · skip
    have hq := X_isKey_in c5
    refine lv_aload_n hx hb dX0_name_8 rfl (lv_at hl 0 rfl) ?_
    refine g_x_akn hx hb hts hin hown hK hP (hts (.fieldLink RX0 28 RX0 "keyNames" "[J") (by decide +kernel)) dX0_name_9 ?_
    refine lv_iload_n hx hb dX0_name_12 rfl (lv_at hl 1 rfl) ?_
    refine l_x_kn hx hb hK hP (xat_self hq) dX0_name_13 ?_
    refine lv_goto (tgt := 18) hx hb dX0_name_14 (by decide) ?_
    exact W.lret (v := (x_kn S q.toNatClampNeg)) hx hb hr (fun t ht hW => ⟨_, rfl, (by simp only [X_name, if_neg c5] <;> rfl), ht⟩) (fun _ h => by cases h) dX0_name_18
set_option maxHeartbeats 4000000 in
set_option maxRecDepth 100000 in
theorem c_X0_nonce (l : Launch) (dC : Nat → ClassId) (dI : Nat → Nat → Nat) (ad : Nat → Nat) (cL cZ cO : ClassId) (S : SX) (q : Int32)  : Met l yX0_nonce wsX0_nonce ({ frames := 1, cells := 0, slots := 0, locals := 21 }) (va_Pc [.ref (ad 0), .int q] (fun U => va_P (dC, dI) vwCl (wX ad cL cZ cO S) U.heap ∧ va_K (dC, dI) vwCl (tyX cL cZ cO) U)) (vp_Sl (fun r => r = X_nonce S q)) 0 0 (fun _ => False) := by
  refine Met.ofW (cc := cX0_nonce) (maxL := 2) (ret := (some .long)) (by decide) rfl ?_
  intro p e s m args below meth c s₁ B hml hv
  obtain ⟨rfl, hP, hK⟩ := hv
  have hx := B.exec
  have hb := B.bytes
  have hr := B.returns
  have hts := atoms_spec (ws := wsX0_nonce) B.pre
  have hown : s.vm.findClass RX0 = some m.cls := findClass_of_methodNamed B.named
  have hlocks := B.notSynchronized
  have hin : ∀ w ∈ wsX00, w ∈ wsX0_nonce := fun _ h => List.mem_cons_of_mem _ (List.mem_append_right _ h)
  have hl := lv_entry ([.ref (ad 0), .int q]) (n := 2) (Nat.le_of_ble_eq_true rfl)
  rw [lg_entry_eq]
  generalize (lg_sl ([.ref (ad 0), .int q]) ++ List.replicate (2 - (lg_sl ([.ref (ad 0), .int q])).length) Slot.unset).toArray = ls at hl ⊢
  have hl : lv_has ls 2 [(0, .ref (ad 0)), (1, .int q)] := hl
  refine lv_aload_n hx hb dX0_nonce_0 rfl (lv_at hl 0 rfl) ?_
  refine lv_iload_n hx hb dX0_nonce_1 rfl (lv_at hl 1 rfl) ?_
  refine vp_callSi (va_Run.run (va_runV (As := [.int q]) (rest := []) ⟨hx, hb, hml, hown, hts⟩ (c_X0_isSession l dC dI ad cL cZ cO S q ) (cwV 1 hts gX0_nonce_X0_isSession rfl rfl rfl (by decide +kernel) ⟨Nat.le_of_ble_eq_true rfl, Nat.le_of_ble_eq_true rfl⟩) (xpV_r [.int q] hK hP (va_recv hK hP (ci := 0) (q0 := 0) rfl rfl)) rfl rfl hl.1 rfl (lv_room (Nat.le_of_ble_eq_true rfl)) dX0_nonce_2 ⟨Nat.le_of_ble_eq_true rfl, Nat.le_of_ble_eq_true rfl⟩)) (fun r hr9 => ?_)
  subst hr9
  refine lv_if_eq (tgt := 17) hx hb dX0_nonce_5 (by decide) (fun c5 => ?_) (fun c5 => ?_)
  · skip
    refine lv_lconst (v := 0) hx hb dX0_nonce_17 (by decide) ?_
    exact W.lret (v := (0 : Int64)) hx hb hr (fun t ht hW => ⟨_, rfl, (by simp only [X_nonce, if_pos c5] <;> rfl), ht⟩) (fun _ h => by cases h) dX0_nonce_18
  · skip
    have hq := X_isSession_in c5
    refine lv_aload_n hx hb dX0_nonce_8 rfl (lv_at hl 0 rfl) ?_
    refine g_x_amn hx hb hts hin hown hK hP (hts (.fieldLink RX0 37 RX0 "machineNonces" "[J") (by decide +kernel)) dX0_nonce_9 ?_
    refine lv_iload_n hx hb dX0_nonce_12 rfl (lv_at hl 1 rfl) ?_
    refine l_x_mn hx hb hK hP (xat_self hq) dX0_nonce_13 ?_
    refine lv_goto (tgt := 18) hx hb dX0_nonce_14 (by decide) ?_
    exact W.lret (v := (x_mn S q.toNatClampNeg)) hx hb hr (fun t ht hW => ⟨_, rfl, (by simp only [X_nonce, if_neg c5] <;> rfl), ht⟩) (fun _ h => by cases h) dX0_nonce_18
set_option maxHeartbeats 4000000 in
set_option maxRecDepth 100000 in
theorem c_X0_cover (l : Launch) (dC : Nat → ClassId) (dI : Nat → Nat → Nat) (ad : Nat → Nat) (cL cZ cO : ClassId) (S : SX) (sa : Int64) (dg : Int64)  : Met l yX0_cover wsX0_cover ({ frames := 1, cells := 0, slots := 0, locals := 25 }) (va_Pc [.ref (ad 0), .long sa, .long dg] (fun U => va_P (dC, dI) vwCl (wX ad cL cZ cO S) U.heap ∧ va_K (dC, dI) vwCl (tyX cL cZ cO) U)) (vp_Sl (fun r => r = X_cover S sa dg)) 0 0 (fun _ => False) := by
  refine Met.ofW (cc := cX0_cover) (maxL := 5) (ret := (some .long)) (by decide) rfl ?_
  intro p e s m args below meth c s₁ B hml hv
  obtain ⟨rfl, hP, hK⟩ := hv
  have hx := B.exec
  have hb := B.bytes
  have hr := B.returns
  have hts := atoms_spec (ws := wsX0_cover) B.pre
  have hown : s.vm.findClass RX0 = some m.cls := findClass_of_methodNamed B.named
  have hlocks := B.notSynchronized
  have hin : ∀ w ∈ wsX00, w ∈ wsX0_cover := fun _ h => List.mem_cons_of_mem _ (List.mem_append_right _ h)
  have hl := lv_entry ([.ref (ad 0), .long sa, .long dg]) (n := 5) (Nat.le_of_ble_eq_true rfl)
  rw [lg_entry_eq]
  generalize (lg_sl ([.ref (ad 0), .long sa, .long dg]) ++ List.replicate (5 - (lg_sl ([.ref (ad 0), .long sa, .long dg])).length) Slot.unset).toArray = ls at hl ⊢
  have hl : lv_has ls 5 [(0, .ref (ad 0)), (1, .long sa), (3, .long dg)] := hl
  refine lv_ldc2 (v := 3) hx hb hown (hts (.constantLong RX0 153 (3)) (by decide +kernel)) dX0_cover_0 ?_
  refine lv_aload_n hx hb dX0_cover_3 rfl (lv_at hl 0 rfl) ?_
  refine g_x_m hx hb hts hin hown hK hP (hts (.fieldLink RX0 13 RX0 "machineSecret" "J") (by decide +kernel)) dX0_cover_4 ?_
  refine vp_callSl (va_Run.run (va_runS (As := [.long (3 : Int64), .long (x_m S)]) (rest := []) ⟨hx, hb, hml, hown, hts⟩ (c_X0_fold l (3 : Int64) (x_m S) ) (va_cwS 2 hts gX0_cover_X0_fold rfl rfl rfl (by decide +kernel) ⟨Nat.le_of_ble_eq_true rfl, Nat.le_of_ble_eq_true rfl⟩) (xpS_n _) rfl rfl hl.1 rfl (lv_room (Nat.le_of_ble_eq_true rfl)) dX0_cover_7 ⟨Nat.le_of_ble_eq_true rfl, Nat.le_of_ble_eq_true rfl⟩)) (fun r hr9 => ?_)
  subst hr9
  refine lv_lload_n hx hb dX0_cover_10 rfl (lv_at hl 1 rfl) ?_
  refine vp_callSl (va_Run.run (va_runS (As := [.long (fo (3 : Int64) (x_m S)), .long sa]) (rest := []) ⟨hx, hb, hml, hown, hts⟩ (c_X0_fold l (fo (3 : Int64) (x_m S)) sa ) (va_cwS 2 hts gX0_cover_X0_fold rfl rfl rfl (by decide +kernel) ⟨Nat.le_of_ble_eq_true rfl, Nat.le_of_ble_eq_true rfl⟩) (xpS_n _) rfl rfl hl.1 rfl (lv_room (Nat.le_of_ble_eq_true rfl)) dX0_cover_11 ⟨Nat.le_of_ble_eq_true rfl, Nat.le_of_ble_eq_true rfl⟩)) (fun r hr9 => ?_)
  subst hr9
  refine lv_lload_n hx hb dX0_cover_14 rfl (lv_at hl 2 rfl) ?_
  refine vp_callSl (va_Run.run (va_runS (As := [.long (fo (fo (3 : Int64) (x_m S)) sa), .long dg]) (rest := []) ⟨hx, hb, hml, hown, hts⟩ (c_X0_fold l (fo (fo (3 : Int64) (x_m S)) sa) dg ) (va_cwS 2 hts gX0_cover_X0_fold rfl rfl rfl (by decide +kernel) ⟨Nat.le_of_ble_eq_true rfl, Nat.le_of_ble_eq_true rfl⟩) (xpS_n _) rfl rfl hl.1 rfl (lv_room (Nat.le_of_ble_eq_true rfl)) dX0_cover_15 ⟨Nat.le_of_ble_eq_true rfl, Nat.le_of_ble_eq_true rfl⟩)) (fun r hr9 => ?_)
  subst hr9
  exact W.lret (v := (fo (fo (fo (3 : Int64) (x_m S)) sa) dg)) hx hb hr (fun t ht hW => ⟨_, rfl, rfl, ht⟩) (fun _ h => by cases h) dX0_cover_18
set_option maxHeartbeats 4000000 in
set_option maxRecDepth 100000 in
theorem c_X0_rightProof (l : Launch) (dC : Nat → ClassId) (dI : Nat → Nat → Nat) (ad : Nat → Nat) (cL cZ cO : ClassId) (S : SX) (k : Int64) (q : Int32) (cm : Int32) (pa : Int64) (hq : vp_in q 4) : Met l yX0_rightProof wsX0_rightProof ({ frames := 3, cells := 0, slots := 0, locals := 71 }) (va_Pc [.ref (ad 0), .long k, .int q, .int cm, .long pa] (fun U => va_P (dC, dI) vwCl (wX ad cL cZ cO S) U.heap ∧ va_K (dC, dI) vwCl (tyX cL cZ cO) U)) (vp_Sl (fun r => r = X_rightProof S k q cm pa)) 0 0 (fun _ => False) := by
  refine Met.ofW (cc := cX0_rightProof) (maxL := 9) (ret := (some .long)) (by decide) rfl ?_
  intro p e s m args below meth c s₁ B hml hv
  obtain ⟨rfl, hP, hK⟩ := hv
  have hx := B.exec
  have hb := B.bytes
  have hr := B.returns
  have hts := atoms_spec (ws := wsX0_rightProof) B.pre
  have hown : s.vm.findClass RX0 = some m.cls := findClass_of_methodNamed B.named
  have hlocks := B.notSynchronized
  have hin : ∀ w ∈ wsX00, w ∈ wsX0_rightProof := fun _ h => List.mem_cons_of_mem _ (List.mem_append_right _ h)
  have hl := lv_entry ([.ref (ad 0), .long k, .int q, .int cm, .long pa]) (n := 9) (Nat.le_of_ble_eq_true rfl)
  rw [lg_entry_eq]
  generalize (lg_sl ([.ref (ad 0), .long k, .int q, .int cm, .long pa]) ++ List.replicate (9 - (lg_sl ([.ref (ad 0), .long k, .int q, .int cm, .long pa])).length) Slot.unset).toArray = ls at hl ⊢
  have hl : lv_has ls 9 [(0, .ref (ad 0)), (1, .long k), (3, .int q), (4, .int cm), (5, .long pa)] := hl
  refine lv_lload_n hx hb dX0_rightProof_0 rfl (lv_at hl 1 rfl) ?_
  refine lv_iconst (v := 4) hx hb dX0_rightProof_1 (by decide) ?_
  refine vp_callSl (va_Run.run (va_runS (As := [.long k, .int (4 : Int32)]) (rest := []) ⟨hx, hb, hml, hown, hts⟩ (c_X0_macBegin l k (4 : Int32) ) (va_cwS 2 hts gX0_rightProof_X0_macBegin rfl rfl rfl (by decide +kernel) ⟨Nat.le_of_ble_eq_true rfl, Nat.le_of_ble_eq_true rfl⟩) (xpS_n _) rfl rfl hl.1 rfl (lv_room (Nat.le_of_ble_eq_true rfl)) dX0_rightProof_2 ⟨Nat.le_of_ble_eq_true rfl, Nat.le_of_ble_eq_true rfl⟩)) (fun r hr9 => ?_)
  subst hr9
  refine lv_lstore (lv' := [(7, .long (mB k (4 : Int32))), (0, .ref (ad 0)), (1, .long k), (3, .int q), (4, .int cm), (5, .long pa)]) hx hb dX0_rightProof_5 hl (by decide) rfl (fun ls hl => ?_)
  refine lv_lload hx hb dX0_rightProof_7 (lv_at hl 0 rfl) ?_
  refine lv_aload_n hx hb dX0_rightProof_9 rfl (lv_at hl 1 rfl) ?_
  refine g_x_amn hx hb hts hin hown hK hP (hts (.fieldLink RX0 37 RX0 "machineNonces" "[J") (by decide +kernel)) dX0_rightProof_10 ?_
  refine lv_iload_n hx hb dX0_rightProof_13 rfl (lv_at hl 3 rfl) ?_
  refine l_x_mn hx hb hK hP (xat_self hq) dX0_rightProof_14 ?_
  refine vp_callSl (va_Run.run (va_runS (As := [.long (mB k (4 : Int32)), .long (x_mn S q.toNatClampNeg)]) (rest := []) ⟨hx, hb, hml, hown, hts⟩ (c_X0_fold l (mB k (4 : Int32)) (x_mn S q.toNatClampNeg) ) (va_cwS 2 hts gX0_rightProof_X0_fold rfl rfl rfl (by decide +kernel) ⟨Nat.le_of_ble_eq_true rfl, Nat.le_of_ble_eq_true rfl⟩) (xpS_n _) rfl rfl hl.1 rfl (lv_room (Nat.le_of_ble_eq_true rfl)) dX0_rightProof_15 ⟨Nat.le_of_ble_eq_true rfl, Nat.le_of_ble_eq_true rfl⟩)) (fun r hr9 => ?_)
  subst hr9
  refine lv_lstore (lv' := [(7, .long (fo (mB k (4 : Int32)) (x_mn S q.toNatClampNeg))), (0, .ref (ad 0)), (1, .long k), (3, .int q), (4, .int cm), (5, .long pa)]) hx hb dX0_rightProof_18 hl (by decide) rfl (fun ls hl => ?_)
  refine lv_lload hx hb dX0_rightProof_20 (lv_at hl 0 rfl) ?_
  refine lv_aload_n hx hb dX0_rightProof_22 rfl (lv_at hl 1 rfl) ?_
  refine g_x_acn hx hb hts hin hown hK hP (hts (.fieldLink RX0 34 RX0 "callerNonces" "[J") (by decide +kernel)) dX0_rightProof_23 ?_
  refine lv_iload_n hx hb dX0_rightProof_26 rfl (lv_at hl 3 rfl) ?_
  refine l_x_cn hx hb hK hP (xat_self hq) dX0_rightProof_27 ?_
  refine vp_callSl (va_Run.run (va_runS (As := [.long (fo (mB k (4 : Int32)) (x_mn S q.toNatClampNeg)), .long (x_cn S q.toNatClampNeg)]) (rest := []) ⟨hx, hb, hml, hown, hts⟩ (c_X0_fold l (fo (mB k (4 : Int32)) (x_mn S q.toNatClampNeg)) (x_cn S q.toNatClampNeg) ) (va_cwS 2 hts gX0_rightProof_X0_fold rfl rfl rfl (by decide +kernel) ⟨Nat.le_of_ble_eq_true rfl, Nat.le_of_ble_eq_true rfl⟩) (xpS_n _) rfl rfl hl.1 rfl (lv_room (Nat.le_of_ble_eq_true rfl)) dX0_rightProof_28 ⟨Nat.le_of_ble_eq_true rfl, Nat.le_of_ble_eq_true rfl⟩)) (fun r hr9 => ?_)
  subst hr9
  refine lv_lstore (lv' := [(7, .long (fo (fo (mB k (4 : Int32)) (x_mn S q.toNatClampNeg)) (x_cn S q.toNatClampNeg))), (0, .ref (ad 0)), (1, .long k), (3, .int q), (4, .int cm), (5, .long pa)]) hx hb dX0_rightProof_31 hl (by decide) rfl (fun ls hl => ?_)
  refine lv_lload hx hb dX0_rightProof_33 (lv_at hl 0 rfl) ?_
  refine lv_iload hx hb dX0_rightProof_35 (lv_at hl 4 rfl) ?_
  refine lv_i2l hx hb dX0_rightProof_37 rfl ?_
  refine vp_callSl (va_Run.run (va_runS (As := [.long (fo (fo (mB k (4 : Int32)) (x_mn S q.toNatClampNeg)) (x_cn S q.toNatClampNeg)), .long cm.toInt64]) (rest := []) ⟨hx, hb, hml, hown, hts⟩ (c_X0_fold l (fo (fo (mB k (4 : Int32)) (x_mn S q.toNatClampNeg)) (x_cn S q.toNatClampNeg)) cm.toInt64 ) (va_cwS 2 hts gX0_rightProof_X0_fold rfl rfl rfl (by decide +kernel) ⟨Nat.le_of_ble_eq_true rfl, Nat.le_of_ble_eq_true rfl⟩) (xpS_n _) rfl rfl hl.1 rfl (lv_room (Nat.le_of_ble_eq_true rfl)) dX0_rightProof_38 ⟨Nat.le_of_ble_eq_true rfl, Nat.le_of_ble_eq_true rfl⟩)) (fun r hr9 => ?_)
  subst hr9
  refine lv_lstore (lv' := [(7, .long (fo (fo (fo (mB k (4 : Int32)) (x_mn S q.toNatClampNeg)) (x_cn S q.toNatClampNeg)) cm.toInt64)), (0, .ref (ad 0)), (1, .long k), (3, .int q), (4, .int cm), (5, .long pa)]) hx hb dX0_rightProof_41 hl (by decide) rfl (fun ls hl => ?_)
  refine lv_lload hx hb dX0_rightProof_43 (lv_at hl 0 rfl) ?_
  refine lv_lload hx hb dX0_rightProof_45 (lv_at hl 5 rfl) ?_
  refine vp_callSl (va_Run.run (va_runS (As := [.long (fo (fo (fo (mB k (4 : Int32)) (x_mn S q.toNatClampNeg)) (x_cn S q.toNatClampNeg)) cm.toInt64), .long pa]) (rest := []) ⟨hx, hb, hml, hown, hts⟩ (c_X0_fold l (fo (fo (fo (mB k (4 : Int32)) (x_mn S q.toNatClampNeg)) (x_cn S q.toNatClampNeg)) cm.toInt64) pa ) (va_cwS 2 hts gX0_rightProof_X0_fold rfl rfl rfl (by decide +kernel) ⟨Nat.le_of_ble_eq_true rfl, Nat.le_of_ble_eq_true rfl⟩) (xpS_n _) rfl rfl hl.1 rfl (lv_room (Nat.le_of_ble_eq_true rfl)) dX0_rightProof_47 ⟨Nat.le_of_ble_eq_true rfl, Nat.le_of_ble_eq_true rfl⟩)) (fun r hr9 => ?_)
  subst hr9
  refine lv_lstore (lv' := [(7, .long (fo (fo (fo (fo (mB k (4 : Int32)) (x_mn S q.toNatClampNeg)) (x_cn S q.toNatClampNeg)) cm.toInt64) pa)), (0, .ref (ad 0)), (1, .long k), (3, .int q), (4, .int cm), (5, .long pa)]) hx hb dX0_rightProof_50 hl (by decide) rfl (fun ls hl => ?_)
  refine lv_lload_n hx hb dX0_rightProof_52 rfl (lv_at hl 2 rfl) ?_
  refine lv_lload hx hb dX0_rightProof_53 (lv_at hl 0 rfl) ?_
  refine vp_callSl (va_Run.run (va_runS (As := [.long k, .long (fo (fo (fo (fo (mB k (4 : Int32)) (x_mn S q.toNatClampNeg)) (x_cn S q.toNatClampNeg)) cm.toInt64) pa)]) (rest := []) ⟨hx, hb, hml, hown, hts⟩ (c_X0_macEnd l k (fo (fo (fo (fo (mB k (4 : Int32)) (x_mn S q.toNatClampNeg)) (x_cn S q.toNatClampNeg)) cm.toInt64) pa) ) (va_cwS 2 hts gX0_rightProof_X0_macEnd rfl rfl rfl (by decide +kernel) ⟨Nat.le_of_ble_eq_true rfl, Nat.le_of_ble_eq_true rfl⟩) (xpS_n _) rfl rfl hl.1 rfl (lv_room (Nat.le_of_ble_eq_true rfl)) dX0_rightProof_55 ⟨Nat.le_of_ble_eq_true rfl, Nat.le_of_ble_eq_true rfl⟩)) (fun r hr9 => ?_)
  subst hr9
  exact W.lret (v := (mE k (fo (fo (fo (fo (mB k (4 : Int32)) (x_mn S q.toNatClampNeg)) (x_cn S q.toNatClampNeg)) cm.toInt64) pa))) hx hb hr (fun t ht hW => ⟨_, rfl, rfl, ht⟩) (fun _ h => by cases h) dX0_rightProof_58
set_option maxHeartbeats 4000000 in
set_option maxRecDepth 100000 in
theorem c_X0_draw (l : Launch) (dC : Nat → ClassId) (dI : Nat → Nat → Nat) (ad : Nat → Nat) (cL cZ cO : ClassId) (S : SX) (sz : Nat)   : Met l yX0_draw wsX0_draw ({ frames := 2, cells := 0, slots := 0, locals := 48 }) (va_Pc [.ref (ad 0)] (fun U => U.heap.size = sz ∧ va_P (dC, dI) vwCl (wX ad cL cZ cO S) U.heap ∧ va_K (dC, dI) vwCl (tyX cL cZ cO) U ∧ va_D (fun _ => True) (wX ad cL cZ cO S))) (va_Ql (fun r u => r = (X_draw S).1 ∧ u = (X_draw S).2) (xB (dC, dI) (wX ad cL cZ cO) (tyX cL cZ cO) (va_A (wX ad cL cZ cO S) sz)) (va_A (wX ad cL cZ cO S) sz)) 0 0 (va_A (wX ad cL cZ cO S) sz) := by
  refine Met.ofW (cc := cX0_draw) (maxL := 1) (ret := (some .long)) (by decide) rfl ?_
  intro p e s m args below meth c s₁ B hml hv
  obtain ⟨rfl, hsz, hP, hK, hD0⟩ := hv
  have hx := B.exec
  have hb := B.bytes
  have hr := B.returns
  have hts := atoms_spec (ws := wsX0_draw) B.pre
  have hown : s.vm.findClass RX0 = some m.cls := findClass_of_methodNamed B.named
  have hlocks := B.notSynchronized
  have hin : ∀ w ∈ wsX00, w ∈ wsX0_draw := fun _ h => List.mem_cons_of_mem _ (List.mem_append_right _ h)
  subst hsz
  have hD := hD0.self (sz := s.heap.size)
  generalize hAe : va_A (wX ad cL cZ cO S) s.heap.size = A at hD ⊢
  have hA : ∀ q : Nat, s.heap.size ≤ q → A q := fun q h => by rw [← hAe]; exact Or.inr h
  have hS : va_S A s.heap s.heap [] := va_S.rf
  have hl := lv_entry ([.ref (ad 0)]) (n := 1) (Nat.le_of_ble_eq_true rfl)
  rw [lg_entry_eq]
  generalize (lg_sl ([.ref (ad 0)]) ++ List.replicate (1 - (lg_sl ([.ref (ad 0)])).length) Slot.unset).toArray = ls at hl ⊢
  have hl : lv_has ls 1 [(0, .ref (ad 0))] := hl
  refine lv_aload_n hx hb dX0_draw_0 rfl (lv_at hl 0 rfl) ?_
  refine lv_dup hx hb dX0_draw_1 rfl ?_
  refine g_x_dr hx hb hts hin hown hK hP (hts (.fieldLink RX0 134 RX0 "drawn" "J") (by decide +kernel)) dX0_draw_2 ?_
  refine lv_lconst (v := 1) hx hb dX0_draw_5 (by decide) ?_
  refine lv_ladd hx hb dX0_draw_6 ?_
  refine p_x_dr hx hb hts hin hown hK hP hD hS (hts (.fieldLink RX0 134 RX0 "drawn" "J") (by decide +kernel)) dX0_draw_7 (fun H locs hP hD hS => ?_)
  have hP : va_P (dC, dI) vwCl (wX ad cL cZ cO ((X_draw S).2)) H := hP
  have hD : va_D A (wX ad cL cZ cO ((X_draw S).2)) := hD
  refine lv_aload_n hx hb dX0_draw_10 rfl (lv_at hl 0 rfl) ?_
  refine g_x_m hx hb hts hin hown hK hP (hts (.fieldLink RX0 13 RX0 "machineSecret" "J") (by decide +kernel)) dX0_draw_11 ?_
  refine lv_aload_n hx hb dX0_draw_14 rfl (lv_at hl 0 rfl) ?_
  refine g_x_dr hx hb hts hin hown hK hP (hts (.fieldLink RX0 134 RX0 "drawn" "J") (by decide +kernel)) dX0_draw_15 ?_
  refine vp_callSl (va_Run.run (va_runS (As := [.long (x_m ((X_draw S).2)), .long (x_dr ((X_draw S).2))]) (rest := []) ⟨hx, hb, hml, hown, hts⟩ (c_X0_hash2 l (x_m ((X_draw S).2)) (x_dr ((X_draw S).2)) ) (va_cwS 2 hts gX0_draw_X0_hash2 rfl rfl rfl (by decide +kernel) ⟨Nat.le_of_ble_eq_true rfl, Nat.le_of_ble_eq_true rfl⟩) (xpS_n _) rfl rfl hl.1 rfl (lv_room (Nat.le_of_ble_eq_true rfl)) dX0_draw_18 ⟨Nat.le_of_ble_eq_true rfl, Nat.le_of_ble_eq_true rfl⟩)) (fun r hr9 => ?_)
  subst hr9
  exact W.lret (v := (h2 (x_m ((X_draw S).2)) (x_dr ((X_draw S).2)))) hx hb hr (fun t ht hW => ⟨⟨_, (X_draw S).2, rfl, ⟨rfl, rfl⟩, by rw [ht]; exact hP, va_K.moved hW.alike hK, hD⟩, hS.F ht⟩) hS.2.2 dX0_draw_21
