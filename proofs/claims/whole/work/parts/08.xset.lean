set_option maxHeartbeats 4000000 in
set_option maxRecDepth 100000 in
theorem c_X0_locality (l : Launch) (dC : Nat → ClassId) (dI : Nat → Nat → Nat) (ad : Nat → Nat) (cL cZ cO : ClassId) (S : SX) (sz : Nat) (q : Int32)  : Met l yX0_locality wsX0_locality ({ frames := 0, cells := 0, slots := 0, locals := 0 }) (va_Pc [.ref (ad 0), .int q] (fun U => U.heap.size = sz ∧ va_P (dC, dI) vwCl (wX ad cL cZ cO S) U.heap ∧ va_K (dC, dI) vwCl (tyX cL cZ cO) U ∧ va_D (fun _ => True) (wX ad cL cZ cO S))) (va_Qi (fun r u => r = (X_locality S q).1 ∧ u = (X_locality S q).2) (xB (dC, dI) (wX ad cL cZ cO) (tyX cL cZ cO) (va_A (wX ad cL cZ cO S) sz)) (va_A (wX ad cL cZ cO S) sz)) 0 0 (va_A (wX ad cL cZ cO S) sz) := by
  refine Met.ofW (cc := cX0_locality) (maxL := 2) (ret := (some .boolean)) (by decide) rfl ?_
  intro p e s m args below meth c s₁ B hml hv
  obtain ⟨rfl, hsz, hP, hK, hD0⟩ := hv
  have hx := B.exec
  have hb := B.bytes
  have hr := B.returns
  have hts := atoms_spec (ws := wsX0_locality) B.pre
  have hown : s.vm.findClass RX0 = some m.cls := findClass_of_methodNamed B.named
  have hlocks := B.notSynchronized
  have hin : ∀ w ∈ wsX00, w ∈ wsX0_locality := fun _ h => List.mem_cons_of_mem _ (List.mem_append_right _ h)
  subst hsz
  have hD := hD0.self (sz := s.heap.size)
  generalize hAe : va_A (wX ad cL cZ cO S) s.heap.size = A at hD ⊢
  have hA : ∀ q : Nat, s.heap.size ≤ q → A q := fun q h => by rw [← hAe]; exact Or.inr h
  have hS : va_S A s.heap s.heap [] := va_S.rf
  have hl := lv_entry ([.ref (ad 0), .int q]) (n := 2) (Nat.le_of_ble_eq_true rfl)
  rw [lg_entry_eq]
  generalize (lg_sl ([.ref (ad 0), .int q]) ++ List.replicate (2 - (lg_sl ([.ref (ad 0), .int q])).length) Slot.unset).toArray = ls at hl ⊢
  have hl : lv_has ls 2 [(0, .ref (ad 0)), (1, .int q)] := hl
  refine lv_iload_n hx hb dX0_locality_0 rfl (lv_at hl 1 rfl) ?_
  refine lv_if_lt (tgt := 9) hx hb dX0_locality_1 (by decide) (fun c1 => ?_) (fun c1 => ?_)
  · skip
    refine lv_iconst (v := 0) hx hb dX0_locality_9 (by decide) ?_
    exact W.zret (v := (0 : Int32)) hx hb hr rfl (fun t ht hW => ⟨⟨_, S, rfl, ⟨(by simp only [X_locality, if_pos c1] <;> rfl), (by simp only [X_locality, if_pos c1] <;> rfl)⟩, by rw [ht]; exact hP, va_K.moved hW.alike hK, hD⟩, hS.F ht⟩) hS.2.2 dX0_locality_10
  · skip
    refine lv_iload_n hx hb dX0_locality_4 rfl (lv_at hl 1 rfl) ?_
    refine lv_iconst (v := 3) hx hb dX0_locality_5 (by decide) ?_
    refine lv_icmp_le (tgt := 11) hx hb dX0_locality_6 (by decide) (fun c6 => ?_) (fun c6 => ?_)
    · skip
      refine lv_aload_n hx hb dX0_locality_11 rfl (lv_at hl 0 rfl) ?_
      refine lv_iload_n hx hb dX0_locality_12 rfl (lv_at hl 1 rfl) ?_
      refine p_x_lo hx hb hts hin hown hK hP hD hS (hts (.fieldLink RX0 45 RX0 "locality" "I") (by decide +kernel)) dX0_locality_13 (fun H locs hP hD hS => ?_)
      refine lv_iconst (v := 1) hx hb dX0_locality_16 (by decide) ?_
      exact W.zret (v := (1 : Int32)) hx hb hr rfl (fun t ht hW => ⟨⟨_, (xu_lo S q), rfl, ⟨(by simp only [X_locality, if_neg c1, if_pos c6] <;> rfl), (by simp only [X_locality, if_neg c1, if_pos c6] <;> rfl)⟩, by rw [ht]; exact hP, va_K.moved hW.alike hK, hD⟩, hS.F ht⟩) hS.2.2 dX0_locality_17
    · skip
      refine lv_iconst (v := 0) hx hb dX0_locality_9 (by decide) ?_
      exact W.zret (v := (0 : Int32)) hx hb hr rfl (fun t ht hW => ⟨⟨_, S, rfl, ⟨(by simp only [X_locality, if_neg c1, if_neg c6] <;> rfl), (by simp only [X_locality, if_neg c1, if_neg c6] <;> rfl)⟩, by rw [ht]; exact hP, va_K.moved hW.alike hK, hD⟩, hS.F ht⟩) hS.2.2 dX0_locality_10
set_option maxHeartbeats 4000000 in
set_option maxRecDepth 100000 in
theorem c_X0_present (l : Launch) (dC : Nat → ClassId) (dI : Nat → Nat → Nat) (ad : Nat → Nat) (cL cZ cO : ClassId) (S : SX) (sz : Nat) (v : Int64)  : Met l yX0_present wsX0_present ({ frames := 0, cells := 0, slots := 0, locals := 0 }) (va_Pc [.ref (ad 0), .long v] (fun U => U.heap.size = sz ∧ va_P (dC, dI) vwCl (wX ad cL cZ cO S) U.heap ∧ va_K (dC, dI) vwCl (tyX cL cZ cO) U ∧ va_D (fun _ => True) (wX ad cL cZ cO S))) (va_Qv (fun u => u = xu_pr S v) (xB (dC, dI) (wX ad cL cZ cO) (tyX cL cZ cO) (va_A (wX ad cL cZ cO S) sz)) (va_A (wX ad cL cZ cO S) sz)) 0 0 (va_A (wX ad cL cZ cO S) sz) := by
  refine Met.ofW (cc := cX0_present) (maxL := 3) (ret := none) (by decide) rfl ?_
  intro p e s m args below meth c s₁ B hml hv
  obtain ⟨rfl, hsz, hP, hK, hD0⟩ := hv
  have hx := B.exec
  have hb := B.bytes
  have hr := B.returns
  have hts := atoms_spec (ws := wsX0_present) B.pre
  have hown : s.vm.findClass RX0 = some m.cls := findClass_of_methodNamed B.named
  have hlocks := B.notSynchronized
  have hin : ∀ w ∈ wsX00, w ∈ wsX0_present := fun _ h => List.mem_cons_of_mem _ (List.mem_append_right _ h)
  subst hsz
  have hD := hD0.self (sz := s.heap.size)
  generalize hAe : va_A (wX ad cL cZ cO S) s.heap.size = A at hD ⊢
  have hA : ∀ q : Nat, s.heap.size ≤ q → A q := fun q h => by rw [← hAe]; exact Or.inr h
  have hS : va_S A s.heap s.heap [] := va_S.rf
  have hl := lv_entry ([.ref (ad 0), .long v]) (n := 3) (Nat.le_of_ble_eq_true rfl)
  rw [lg_entry_eq]
  generalize (lg_sl ([.ref (ad 0), .long v]) ++ List.replicate (3 - (lg_sl ([.ref (ad 0), .long v])).length) Slot.unset).toArray = ls at hl ⊢
  have hl : lv_has ls 3 [(0, .ref (ad 0)), (1, .long v)] := hl
  refine lv_aload_n hx hb dX0_present_0 rfl (lv_at hl 0 rfl) ?_
  refine lv_lload_n hx hb dX0_present_1 rfl (lv_at hl 1 rfl) ?_
  refine p_x_pr hx hb hts hin hown hK hP hD hS (hts (.fieldLink RX0 85 RX0 "proof" "J") (by decide +kernel)) dX0_present_2 (fun H locs hP hD hS => ?_)
  exact W.vret hx hb hr (fun t ht hW => ⟨⟨(xu_pr S v), rfl, rfl, by rw [ht]; exact hP, va_K.moved hW.alike hK, hD⟩, hS.F ht⟩) hS.2.2 dX0_present_5
set_option maxHeartbeats 4000000 in
set_option maxRecDepth 100000 in
theorem c_X0_extend (l : Launch) (dC : Nat → ClassId) (dI : Nat → Nat → Nat) (ad : Nat → Nat) (cL cZ cO : ClassId) (S : SX) (sz : Nat) (q : Int32) (v : Int64)  : Met l yX0_extend wsX0_extend ({ frames := 2, cells := 0, slots := 0, locals := 48 }) (va_Pc [.ref (ad 0), .int q, .long v] (fun U => U.heap.size = sz ∧ va_P (dC, dI) vwCl (wX ad cL cZ cO S) U.heap ∧ va_K (dC, dI) vwCl (tyX cL cZ cO) U ∧ va_D (fun _ => True) (wX ad cL cZ cO S))) (va_Qi (fun r u => r = (X_extend S q v).1 ∧ u = (X_extend S q v).2) (xB (dC, dI) (wX ad cL cZ cO) (tyX cL cZ cO) (va_A (wX ad cL cZ cO S) sz)) (va_A (wX ad cL cZ cO S) sz)) 0 0 (va_A (wX ad cL cZ cO S) sz) := by
  refine Met.ofW (cc := cX0_extend) (maxL := 4) (ret := (some .boolean)) (by decide) rfl ?_
  intro p e s m args below meth c s₁ B hml hv
  obtain ⟨rfl, hsz, hP, hK, hD0⟩ := hv
  have hx := B.exec
  have hb := B.bytes
  have hr := B.returns
  have hts := atoms_spec (ws := wsX0_extend) B.pre
  have hown : s.vm.findClass RX0 = some m.cls := findClass_of_methodNamed B.named
  have hlocks := B.notSynchronized
  have hin : ∀ w ∈ wsX00, w ∈ wsX0_extend := fun _ h => List.mem_cons_of_mem _ (List.mem_append_right _ h)
  subst hsz
  have hD := hD0.self (sz := s.heap.size)
  generalize hAe : va_A (wX ad cL cZ cO S) s.heap.size = A at hD ⊢
  have hA : ∀ q : Nat, s.heap.size ≤ q → A q := fun q h => by rw [← hAe]; exact Or.inr h
  have hS : va_S A s.heap s.heap [] := va_S.rf
  have hl := lv_entry ([.ref (ad 0), .int q, .long v]) (n := 4) (Nat.le_of_ble_eq_true rfl)
  rw [lg_entry_eq]
  generalize (lg_sl ([.ref (ad 0), .int q, .long v]) ++ List.replicate (4 - (lg_sl ([.ref (ad 0), .int q, .long v])).length) Slot.unset).toArray = ls at hl ⊢
  have hl : lv_has ls 4 [(0, .ref (ad 0)), (1, .int q), (2, .long v)] := hl
  refine lv_iload_n hx hb dX0_extend_0 rfl (lv_at hl 1 rfl) ?_
  refine vp_callSi (va_Run.run (va_runS (As := [.int q]) (rest := []) ⟨hx, hb, hml, hown, hts⟩ (c_X0_isRegister l q ) (va_cwS 1 hts gX0_extend_X0_isRegister rfl rfl rfl (by decide +kernel) ⟨Nat.le_of_ble_eq_true rfl, Nat.le_of_ble_eq_true rfl⟩) (xpS_n _) rfl rfl hl.1 rfl (lv_room (Nat.le_of_ble_eq_true rfl)) dX0_extend_1 ⟨Nat.le_of_ble_eq_true rfl, Nat.le_of_ble_eq_true rfl⟩)) (fun r hr9 => ?_)
  subst hr9
  refine lv_if_eq (tgt := 15) hx hb dX0_extend_4 (by decide) (fun c4 => ?_) (fun c4 => ?_)
  · skip
    refine lv_iconst (v := 0) hx hb dX0_extend_15 (by decide) ?_
    exact W.zret (v := (0 : Int32)) hx hb hr rfl (fun t ht hW => ⟨⟨_, S, rfl, ⟨(by simp only [X_extend, if_pos c4] <;> rfl), (by simp only [X_extend, if_pos c4] <;> rfl)⟩, by rw [ht]; exact hP, va_K.moved hW.alike hK, hD⟩, hS.F ht⟩) hS.2.2 dX0_extend_16
  · skip
    have hq := X_isRegister_in c4
    refine lv_aload_n hx hb dX0_extend_7 rfl (lv_at hl 0 rfl) ?_
    refine lv_iload_n hx hb dX0_extend_8 rfl (lv_at hl 1 rfl) ?_
    refine vp_callSi (va_Run.run (va_runV (As := [.int q]) (rest := []) ⟨hx, hb, hml, hown, hts⟩ (c_X0_isOpen l dC dI ad cL cZ cO S q ) (cwV 1 hts gX0_extend_X0_isOpen rfl rfl rfl (by decide +kernel) ⟨Nat.le_of_ble_eq_true rfl, Nat.le_of_ble_eq_true rfl⟩) (xpV_r [.int q] hK hP (va_recv hK hP (ci := 0) (q0 := 0) rfl rfl)) rfl rfl hl.1 rfl (lv_room (Nat.le_of_ble_eq_true rfl)) dX0_extend_9 ⟨Nat.le_of_ble_eq_true rfl, Nat.le_of_ble_eq_true rfl⟩)) (fun r hr9 => ?_)
    subst hr9
    refine lv_if_ne (tgt := 17) hx hb dX0_extend_12 (by decide) (fun c12 => ?_) (fun c12 => ?_)
    · skip
      refine lv_aload_n hx hb dX0_extend_17 rfl (lv_at hl 0 rfl) ?_
      refine g_x_arg hx hb hts hin hown hK hP (hts (.fieldLink RX0 17 RX0 "registers" "[J") (by decide +kernel)) dX0_extend_18 ?_
      refine lv_iload_n hx hb dX0_extend_21 rfl (lv_at hl 1 rfl) ?_
      refine lv_aload_n hx hb dX0_extend_22 rfl (lv_at hl 0 rfl) ?_
      refine g_x_arg hx hb hts hin hown hK hP (hts (.fieldLink RX0 17 RX0 "registers" "[J") (by decide +kernel)) dX0_extend_23 ?_
      refine lv_iload_n hx hb dX0_extend_26 rfl (lv_at hl 1 rfl) ?_
      refine l_x_rg hx hb hK hP (xat_self hq) dX0_extend_27 ?_
      refine lv_lload_n hx hb dX0_extend_28 rfl (lv_at hl 2 rfl) ?_
      refine vp_callSl (va_Run.run (va_runS (As := [.long (x_rg S q.toNatClampNeg), .long v]) (rest := [.int q, .ref (ad 1)]) ⟨hx, hb, hml, hown, hts⟩ (c_X0_hash2 l (x_rg S q.toNatClampNeg) v ) (va_cwS 2 hts gX0_extend_X0_hash2 rfl rfl rfl (by decide +kernel) ⟨Nat.le_of_ble_eq_true rfl, Nat.le_of_ble_eq_true rfl⟩) (xpS_n _) rfl rfl hl.1 rfl (lv_room (Nat.le_of_ble_eq_true rfl)) dX0_extend_29 ⟨Nat.le_of_ble_eq_true rfl, Nat.le_of_ble_eq_true rfl⟩)) (fun r hr9 => ?_)
      subst hr9
      refine s_x_rg hx hb hK hP hD hS (xat_self hq) dX0_extend_32 (fun H locs hP hD hS => ?_)
      refine lv_iconst (v := 1) hx hb dX0_extend_33 (by decide) ?_
      exact W.zret (v := (1 : Int32)) hx hb hr rfl (fun t ht hW => ⟨⟨_, (xu_rg S (vp_updL (x_rg S) q.toNatClampNeg (h2 (x_rg S q.toNatClampNeg) v))), rfl, ⟨(by simp only [X_extend, if_neg c4, if_neg c12] <;> rfl), (by simp only [X_extend, if_neg c4, if_neg c12] <;> rfl)⟩, by rw [ht]; exact hP, va_K.moved hW.alike hK, hD⟩, hS.F ht⟩) hS.2.2 dX0_extend_34
    · skip
      refine lv_iconst (v := 0) hx hb dX0_extend_15 (by decide) ?_
      exact W.zret (v := (0 : Int32)) hx hb hr rfl (fun t ht hW => ⟨⟨_, S, rfl, ⟨(by simp only [X_extend, if_neg c4, if_pos c12] <;> rfl), (by simp only [X_extend, if_neg c4, if_pos c12] <;> rfl)⟩, by rw [ht]; exact hP, va_K.moved hW.alike hK, hD⟩, hS.F ht⟩) hS.2.2 dX0_extend_16
set_option maxHeartbeats 4000000 in
set_option maxRecDepth 100000 in
theorem c_X0_reset (l : Launch) (dC : Nat → ClassId) (dI : Nat → Nat → Nat) (ad : Nat → Nat) (cL cZ cO : ClassId) (S : SX) (sz : Nat) (q : Int32)  : Met l yX0_reset wsX0_reset ({ frames := 1, cells := 0, slots := 0, locals := 21 }) (va_Pc [.ref (ad 0), .int q] (fun U => U.heap.size = sz ∧ va_P (dC, dI) vwCl (wX ad cL cZ cO S) U.heap ∧ va_K (dC, dI) vwCl (tyX cL cZ cO) U ∧ va_D (fun _ => True) (wX ad cL cZ cO S))) (va_Qi (fun r u => r = (X_reset S q).1 ∧ u = (X_reset S q).2) (xB (dC, dI) (wX ad cL cZ cO) (tyX cL cZ cO) (va_A (wX ad cL cZ cO S) sz)) (va_A (wX ad cL cZ cO S) sz)) 0 0 (va_A (wX ad cL cZ cO S) sz) := by
  refine Met.ofW (cc := cX0_reset) (maxL := 2) (ret := (some .boolean)) (by decide) rfl ?_
  intro p e s m args below meth c s₁ B hml hv
  obtain ⟨rfl, hsz, hP, hK, hD0⟩ := hv
  have hx := B.exec
  have hb := B.bytes
  have hr := B.returns
  have hts := atoms_spec (ws := wsX0_reset) B.pre
  have hown : s.vm.findClass RX0 = some m.cls := findClass_of_methodNamed B.named
  have hlocks := B.notSynchronized
  have hin : ∀ w ∈ wsX00, w ∈ wsX0_reset := fun _ h => List.mem_cons_of_mem _ (List.mem_append_right _ h)
  subst hsz
  have hD := hD0.self (sz := s.heap.size)
  generalize hAe : va_A (wX ad cL cZ cO S) s.heap.size = A at hD ⊢
  have hA : ∀ q : Nat, s.heap.size ≤ q → A q := fun q h => by rw [← hAe]; exact Or.inr h
  have hS : va_S A s.heap s.heap [] := va_S.rf
  have hl := lv_entry ([.ref (ad 0), .int q]) (n := 2) (Nat.le_of_ble_eq_true rfl)
  rw [lg_entry_eq]
  generalize (lg_sl ([.ref (ad 0), .int q]) ++ List.replicate (2 - (lg_sl ([.ref (ad 0), .int q])).length) Slot.unset).toArray = ls at hl ⊢
  have hl : lv_has ls 2 [(0, .ref (ad 0)), (1, .int q)] := hl
  refine lv_iload_n hx hb dX0_reset_0 rfl (lv_at hl 1 rfl) ?_
  refine vp_callSi (va_Run.run (va_runS (As := [.int q]) (rest := []) ⟨hx, hb, hml, hown, hts⟩ (c_X0_isRegister l q ) (va_cwS 1 hts gX0_reset_X0_isRegister rfl rfl rfl (by decide +kernel) ⟨Nat.le_of_ble_eq_true rfl, Nat.le_of_ble_eq_true rfl⟩) (xpS_n _) rfl rfl hl.1 rfl (lv_room (Nat.le_of_ble_eq_true rfl)) dX0_reset_1 ⟨Nat.le_of_ble_eq_true rfl, Nat.le_of_ble_eq_true rfl⟩)) (fun r hr9 => ?_)
  subst hr9
  refine lv_if_eq (tgt := 20) hx hb dX0_reset_4 (by decide) (fun c4 => ?_) (fun c4 => ?_)
  · skip
    refine lv_iconst (v := 0) hx hb dX0_reset_20 (by decide) ?_
    exact W.zret (v := (0 : Int32)) hx hb hr rfl (fun t ht hW => ⟨⟨_, S, rfl, ⟨(by simp only [X_reset, if_pos c4] <;> rfl), (by simp only [X_reset, if_pos c4] <;> rfl)⟩, by rw [ht]; exact hP, va_K.moved hW.alike hK, hD⟩, hS.F ht⟩) hS.2.2 dX0_reset_21
  · skip
    have hq := X_isRegister_in c4
    refine lv_iload_n hx hb dX0_reset_7 rfl (lv_at hl 1 rfl) ?_
    refine lv_iconst (v := 4) hx hb dX0_reset_8 (by decide) ?_
    refine lv_icmp_lt (tgt := 20) hx hb dX0_reset_9 (by decide) (fun c9 => ?_) (fun c9 => ?_)
    · skip
      refine lv_iconst (v := 0) hx hb dX0_reset_20 (by decide) ?_
      exact W.zret (v := (0 : Int32)) hx hb hr rfl (fun t ht hW => ⟨⟨_, S, rfl, ⟨(by simp only [X_reset, if_neg c4, if_pos c9] <;> rfl), (by simp only [X_reset, if_neg c4, if_pos c9] <;> rfl)⟩, by rw [ht]; exact hP, va_K.moved hW.alike hK, hD⟩, hS.F ht⟩) hS.2.2 dX0_reset_21
    · skip
      refine lv_aload_n hx hb dX0_reset_12 rfl (lv_at hl 0 rfl) ?_
      refine lv_iload_n hx hb dX0_reset_13 rfl (lv_at hl 1 rfl) ?_
      refine vp_callSi (va_Run.run (va_runV (As := [.int q]) (rest := []) ⟨hx, hb, hml, hown, hts⟩ (c_X0_isOpen l dC dI ad cL cZ cO S q ) (cwV 1 hts gX0_reset_X0_isOpen rfl rfl rfl (by decide +kernel) ⟨Nat.le_of_ble_eq_true rfl, Nat.le_of_ble_eq_true rfl⟩) (xpV_r [.int q] hK hP (va_recv hK hP (ci := 0) (q0 := 0) rfl rfl)) rfl rfl hl.1 rfl (lv_room (Nat.le_of_ble_eq_true rfl)) dX0_reset_14 ⟨Nat.le_of_ble_eq_true rfl, Nat.le_of_ble_eq_true rfl⟩)) (fun r hr9 => ?_)
      subst hr9
      refine lv_if_ne (tgt := 22) hx hb dX0_reset_17 (by decide) (fun c17 => ?_) (fun c17 => ?_)
      · skip
        refine lv_aload_n hx hb dX0_reset_22 rfl (lv_at hl 0 rfl) ?_
        refine g_x_arg hx hb hts hin hown hK hP (hts (.fieldLink RX0 17 RX0 "registers" "[J") (by decide +kernel)) dX0_reset_23 ?_
        refine lv_iload_n hx hb dX0_reset_26 rfl (lv_at hl 1 rfl) ?_
        refine lv_lconst (v := 0) hx hb dX0_reset_27 (by decide) ?_
        refine s_x_rg hx hb hK hP hD hS (xat_self hq) dX0_reset_28 (fun H locs hP hD hS => ?_)
        refine lv_iconst (v := 1) hx hb dX0_reset_29 (by decide) ?_
        exact W.zret (v := (1 : Int32)) hx hb hr rfl (fun t ht hW => ⟨⟨_, (xu_rg S (vp_updL (x_rg S) q.toNatClampNeg (0 : Int64))), rfl, ⟨(by simp only [X_reset, if_neg c4, if_neg c9, if_neg c17] <;> rfl), (by simp only [X_reset, if_neg c4, if_neg c9, if_neg c17] <;> rfl)⟩, by rw [ht]; exact hP, va_K.moved hW.alike hK, hD⟩, hS.F ht⟩) hS.2.2 dX0_reset_30
      · skip
        refine lv_iconst (v := 0) hx hb dX0_reset_20 (by decide) ?_
        exact W.zret (v := (0 : Int32)) hx hb hr rfl (fun t ht hW => ⟨⟨_, S, rfl, ⟨(by simp only [X_reset, if_neg c4, if_neg c9, if_pos c17] <;> rfl), (by simp only [X_reset, if_neg c4, if_neg c9, if_pos c17] <;> rfl)⟩, by rw [ht]; exact hP, va_K.moved hW.alike hK, hD⟩, hS.F ht⟩) hS.2.2 dX0_reset_21
set_option maxHeartbeats 4000000 in
set_option maxRecDepth 100000 in
theorem c_X0_destroy (l : Launch) (dC : Nat → ClassId) (dI : Nat → Nat → Nat) (ad : Nat → Nat) (cL cZ cO : ClassId) (S : SX) (sz : Nat) (q : Int32)  : Met l yX0_destroy wsX0_destroy ({ frames := 1, cells := 0, slots := 0, locals := 21 }) (va_Pc [.ref (ad 0), .int q] (fun U => U.heap.size = sz ∧ va_P (dC, dI) vwCl (wX ad cL cZ cO S) U.heap ∧ va_K (dC, dI) vwCl (tyX cL cZ cO) U ∧ va_D (fun _ => True) (wX ad cL cZ cO S))) (va_Qi (fun r u => r = (X_destroy S q).1 ∧ u = (X_destroy S q).2) (xB (dC, dI) (wX ad cL cZ cO) (tyX cL cZ cO) (va_A (wX ad cL cZ cO S) sz)) (va_A (wX ad cL cZ cO S) sz)) 0 0 (va_A (wX ad cL cZ cO S) sz) := by
  refine Met.ofW (cc := cX0_destroy) (maxL := 2) (ret := (some .boolean)) (by decide) rfl ?_
  intro p e s m args below meth c s₁ B hml hv
  obtain ⟨rfl, hsz, hP, hK, hD0⟩ := hv
  have hx := B.exec
  have hb := B.bytes
  have hr := B.returns
  have hts := atoms_spec (ws := wsX0_destroy) B.pre
  have hown : s.vm.findClass RX0 = some m.cls := findClass_of_methodNamed B.named
  have hlocks := B.notSynchronized
  have hin : ∀ w ∈ wsX00, w ∈ wsX0_destroy := fun _ h => List.mem_cons_of_mem _ (List.mem_append_right _ h)
  subst hsz
  have hD := hD0.self (sz := s.heap.size)
  generalize hAe : va_A (wX ad cL cZ cO S) s.heap.size = A at hD ⊢
  have hA : ∀ q : Nat, s.heap.size ≤ q → A q := fun q h => by rw [← hAe]; exact Or.inr h
  have hS : va_S A s.heap s.heap [] := va_S.rf
  have hl := lv_entry ([.ref (ad 0), .int q]) (n := 2) (Nat.le_of_ble_eq_true rfl)
  rw [lg_entry_eq]
  generalize (lg_sl ([.ref (ad 0), .int q]) ++ List.replicate (2 - (lg_sl ([.ref (ad 0), .int q])).length) Slot.unset).toArray = ls at hl ⊢
  have hl : lv_has ls 2 [(0, .ref (ad 0)), (1, .int q)] := hl
  refine lv_aload_n hx hb dX0_destroy_0 rfl (lv_at hl 0 rfl) ?_
  refine lv_iload_n hx hb dX0_destroy_1 rfl (lv_at hl 1 rfl) ?_
  refine vp_callSi (va_Run.run (va_runV (As := [.int q]) (rest := []) ⟨hx, hb, hml, hown, hts⟩ (c_X0_isKey l dC dI ad cL cZ cO S q ) (cwV 1 hts gX0_destroy_X0_isKey rfl rfl rfl (by decide +kernel) ⟨Nat.le_of_ble_eq_true rfl, Nat.le_of_ble_eq_true rfl⟩) (xpV_r [.int q] hK hP (va_recv hK hP (ci := 0) (q0 := 0) rfl rfl)) rfl rfl hl.1 rfl (lv_room (Nat.le_of_ble_eq_true rfl)) dX0_destroy_2 ⟨Nat.le_of_ble_eq_true rfl, Nat.le_of_ble_eq_true rfl⟩)) (fun r hr9 => ?_)
  subst hr9
  refine lv_if_ne (tgt := 10) hx hb dX0_destroy_5 (by decide) (fun c5 => ?_) (fun c5 => ?_)
  · skip
    have hq := X_isKey_in c5
    refine lv_aload_n hx hb dX0_destroy_10 rfl (lv_at hl 0 rfl) ?_
    refine g_x_akt hx hb hts hin hown hK hP (hts (.fieldLink RX0 21 RX0 "keyThere" "[Z") (by decide +kernel)) dX0_destroy_11 ?_
    refine lv_iload_n hx hb dX0_destroy_14 rfl (lv_at hl 1 rfl) ?_
    refine lv_iconst (v := 0) hx hb dX0_destroy_15 (by decide) ?_
    refine s_x_kt hx hb hK hP hD hS rfl (xat_self hq) dX0_destroy_16 (fun H locs hP hD hS => ?_)
    refine lv_iconst (v := 1) hx hb dX0_destroy_17 (by decide) ?_
    exact W.zret (v := (1 : Int32)) hx hb hr rfl (fun t ht hW => ⟨⟨_, (xu_kt S (upd (x_kt S) q.toNatClampNeg (0 : Int32))), rfl, ⟨(by simp only [X_destroy, if_neg c5] <;> rfl), (by simp only [X_destroy, if_neg c5] <;> rfl)⟩, by rw [ht]; exact hP, va_K.moved hW.alike hK, hD⟩, hS.F ht⟩) hS.2.2 dX0_destroy_18
  · skip
    refine lv_iconst (v := 0) hx hb dX0_destroy_8 (by decide) ?_
    exact W.zret (v := (0 : Int32)) hx hb hr rfl (fun t ht hW => ⟨⟨_, S, rfl, ⟨(by simp only [X_destroy, if_pos c5] <;> rfl), (by simp only [X_destroy, if_pos c5] <;> rfl)⟩, by rw [ht]; exact hP, va_K.moved hW.alike hK, hD⟩, hS.F ht⟩) hS.2.2 dX0_destroy_9
set_option maxHeartbeats 4000000 in
set_option maxRecDepth 100000 in
theorem c_X0_end (l : Launch) (dC : Nat → ClassId) (dI : Nat → Nat → Nat) (ad : Nat → Nat) (cL cZ cO : ClassId) (S : SX) (sz : Nat) (q : Int32)  : Met l yX0_end wsX0_end ({ frames := 1, cells := 0, slots := 0, locals := 21 }) (va_Pc [.ref (ad 0), .int q] (fun U => U.heap.size = sz ∧ va_P (dC, dI) vwCl (wX ad cL cZ cO S) U.heap ∧ va_K (dC, dI) vwCl (tyX cL cZ cO) U ∧ va_D (fun _ => True) (wX ad cL cZ cO S))) (va_Qi (fun r u => r = (X_end S q).1 ∧ u = (X_end S q).2) (xB (dC, dI) (wX ad cL cZ cO) (tyX cL cZ cO) (va_A (wX ad cL cZ cO S) sz)) (va_A (wX ad cL cZ cO S) sz)) 0 0 (va_A (wX ad cL cZ cO S) sz) := by
  refine Met.ofW (cc := cX0_end) (maxL := 2) (ret := (some .boolean)) (by decide) rfl ?_
  intro p e s m args below meth c s₁ B hml hv
  obtain ⟨rfl, hsz, hP, hK, hD0⟩ := hv
  have hx := B.exec
  have hb := B.bytes
  have hr := B.returns
  have hts := atoms_spec (ws := wsX0_end) B.pre
  have hown : s.vm.findClass RX0 = some m.cls := findClass_of_methodNamed B.named
  have hlocks := B.notSynchronized
  have hin : ∀ w ∈ wsX00, w ∈ wsX0_end := fun _ h => List.mem_cons_of_mem _ (List.mem_append_right _ h)
  subst hsz
  have hD := hD0.self (sz := s.heap.size)
  generalize hAe : va_A (wX ad cL cZ cO S) s.heap.size = A at hD ⊢
  have hA : ∀ q : Nat, s.heap.size ≤ q → A q := fun q h => by rw [← hAe]; exact Or.inr h
  have hS : va_S A s.heap s.heap [] := va_S.rf
  have hl := lv_entry ([.ref (ad 0), .int q]) (n := 2) (Nat.le_of_ble_eq_true rfl)
  rw [lg_entry_eq]
  generalize (lg_sl ([.ref (ad 0), .int q]) ++ List.replicate (2 - (lg_sl ([.ref (ad 0), .int q])).length) Slot.unset).toArray = ls at hl ⊢
  have hl : lv_has ls 2 [(0, .ref (ad 0)), (1, .int q)] := hl
  refine lv_aload_n hx hb dX0_end_0 rfl (lv_at hl 0 rfl) ?_
  refine lv_iload_n hx hb dX0_end_1 rfl (lv_at hl 1 rfl) ?_
  refine vp_callSi (va_Run.run (va_runV (As := [.int q]) (rest := []) ⟨hx, hb, hml, hown, hts⟩ (c_X0_isSession l dC dI ad cL cZ cO S q ) (cwV 1 hts gX0_end_X0_isSession rfl rfl rfl (by decide +kernel) ⟨Nat.le_of_ble_eq_true rfl, Nat.le_of_ble_eq_true rfl⟩) (xpV_r [.int q] hK hP (va_recv hK hP (ci := 0) (q0 := 0) rfl rfl)) rfl rfl hl.1 rfl (lv_room (Nat.le_of_ble_eq_true rfl)) dX0_end_2 ⟨Nat.le_of_ble_eq_true rfl, Nat.le_of_ble_eq_true rfl⟩)) (fun r hr9 => ?_)
  subst hr9
  refine lv_if_ne (tgt := 10) hx hb dX0_end_5 (by decide) (fun c5 => ?_) (fun c5 => ?_)
  · skip
    have hq := X_isSession_in c5
    refine lv_aload_n hx hb dX0_end_10 rfl (lv_at hl 0 rfl) ?_
    refine g_x_ast hx hb hts hin hown hK hP (hts (.fieldLink RX0 31 RX0 "sessionThere" "[Z") (by decide +kernel)) dX0_end_11 ?_
    refine lv_iload_n hx hb dX0_end_14 rfl (lv_at hl 1 rfl) ?_
    refine lv_iconst (v := 0) hx hb dX0_end_15 (by decide) ?_
    refine s_x_st hx hb hK hP hD hS rfl (xat_self hq) dX0_end_16 (fun H locs hP hD hS => ?_)
    refine lv_iconst (v := 1) hx hb dX0_end_17 (by decide) ?_
    exact W.zret (v := (1 : Int32)) hx hb hr rfl (fun t ht hW => ⟨⟨_, (xu_st S (upd (x_st S) q.toNatClampNeg (0 : Int32))), rfl, ⟨(by simp only [X_end, if_neg c5] <;> rfl), (by simp only [X_end, if_neg c5] <;> rfl)⟩, by rw [ht]; exact hP, va_K.moved hW.alike hK, hD⟩, hS.F ht⟩) hS.2.2 dX0_end_18
  · skip
    refine lv_iconst (v := 0) hx hb dX0_end_8 (by decide) ?_
    exact W.zret (v := (0 : Int32)) hx hb hr rfl (fun t ht hW => ⟨⟨_, S, rfl, ⟨(by simp only [X_end, if_pos c5] <;> rfl), (by simp only [X_end, if_pos c5] <;> rfl)⟩, by rw [ht]; exact hP, va_K.moved hW.alike hK, hD⟩, hS.F ht⟩) hS.2.2 dX0_end_9
set_option maxHeartbeats 4000000 in
set_option maxRecDepth 100000 in
theorem c_X0_passesProving (l : Launch) (dC : Nat → ClassId) (dI : Nat → Nat → Nat) (ad : Nat → Nat) (cL cZ cO : ClassId) (S : SX) (sz : Nat) (k : Int64) (q : Int32) (cm : Int32) (pa : Int64) (hq : vp_in q 4) : Met l yX0_passesProving wsX0_passesProving ({ frames := 4, cells := 0, slots := 0, locals := 99 }) (va_Pc [.ref (ad 0), .long k, .int q, .int cm, .long pa] (fun U => U.heap.size = sz ∧ va_P (dC, dI) vwCl (wX ad cL cZ cO S) U.heap ∧ va_K (dC, dI) vwCl (tyX cL cZ cO) U ∧ va_D (fun _ => True) (wX ad cL cZ cO S))) (va_Qi (fun r u => r = (X_passesProving S k q cm pa).1 ∧ u = (X_passesProving S k q cm pa).2) (xB (dC, dI) (wX ad cL cZ cO) (tyX cL cZ cO) (va_A (wX ad cL cZ cO S) sz)) (va_A (wX ad cL cZ cO S) sz)) 0 0 (va_A (wX ad cL cZ cO S) sz) := by
  refine Met.ofW (cc := cX0_passesProving) (maxL := 8) (ret := (some .boolean)) (by decide) rfl ?_
  intro p e s m args below meth c s₁ B hml hv
  obtain ⟨rfl, hsz, hP, hK, hD0⟩ := hv
  have hx := B.exec
  have hb := B.bytes
  have hr := B.returns
  have hts := atoms_spec (ws := wsX0_passesProving) B.pre
  have hown : s.vm.findClass RX0 = some m.cls := findClass_of_methodNamed B.named
  have hlocks := B.notSynchronized
  have hin : ∀ w ∈ wsX00, w ∈ wsX0_passesProving := fun _ h => List.mem_cons_of_mem _ (List.mem_append_right _ h)
  subst hsz
  have hD := hD0.self (sz := s.heap.size)
  generalize hAe : va_A (wX ad cL cZ cO S) s.heap.size = A at hD ⊢
  have hA : ∀ q : Nat, s.heap.size ≤ q → A q := fun q h => by rw [← hAe]; exact Or.inr h
  have hS : va_S A s.heap s.heap [] := va_S.rf
  have hl := lv_entry ([.ref (ad 0), .long k, .int q, .int cm, .long pa]) (n := 8) (Nat.le_of_ble_eq_true rfl)
  rw [lg_entry_eq]
  generalize (lg_sl ([.ref (ad 0), .long k, .int q, .int cm, .long pa]) ++ List.replicate (8 - (lg_sl ([.ref (ad 0), .long k, .int q, .int cm, .long pa])).length) Slot.unset).toArray = ls at hl ⊢
  have hl : lv_has ls 8 [(0, .ref (ad 0)), (1, .long k), (3, .int q), (4, .int cm), (5, .long pa)] := hl
  refine lv_aload_n hx hb dX0_passesProving_0 rfl (lv_at hl 0 rfl) ?_
  refine g_x_pr hx hb hts hin hown hK hP (hts (.fieldLink RX0 85 RX0 "proof" "J") (by decide +kernel)) dX0_passesProving_1 ?_
  refine lv_aload_n hx hb dX0_passesProving_4 rfl (lv_at hl 0 rfl) ?_
  refine lv_lload_n hx hb dX0_passesProving_5 rfl (lv_at hl 1 rfl) ?_
  refine lv_iload_n hx hb dX0_passesProving_6 rfl (lv_at hl 2 rfl) ?_
  refine lv_iload hx hb dX0_passesProving_7 (lv_at hl 3 rfl) ?_
  refine lv_lload hx hb dX0_passesProving_9 (lv_at hl 4 rfl) ?_
  refine vp_callSl (va_Run.run (va_runV (As := [.long k, .int q, .int cm, .long pa]) (rest := [.long (x_pr S)]) ⟨hx, hb, hml, hown, hts⟩ (c_X0_rightProof l dC dI ad cL cZ cO S k q cm pa hq) (cwV 4 hts gX0_passesProving_X0_rightProof rfl rfl rfl (by decide +kernel) ⟨Nat.le_of_ble_eq_true rfl, Nat.le_of_ble_eq_true rfl⟩) (xpV_r [.long k, .int q, .int cm, .long pa] hK hP (va_recv hK hP (ci := 0) (q0 := 0) rfl rfl)) rfl rfl hl.1 rfl (lv_room (Nat.le_of_ble_eq_true rfl)) dX0_passesProving_11 ⟨Nat.le_of_ble_eq_true rfl, Nat.le_of_ble_eq_true rfl⟩)) (fun r hr9 => ?_)
  subst hr9
  refine W.lcmp hx hb dX0_passesProving_14 ?_
  refine lv_if_ne (tgt := 22) hx hb dX0_passesProving_15 (by decide) (fun c15 => ?_) (fun c15 => ?_)
  · skip
    refine lv_iconst (v := 0) hx hb dX0_passesProving_22 (by decide) ?_
    refine lv_istore (lv' := [(7, .int (0 : Int32)), (0, .ref (ad 0)), (1, .long k), (3, .int q), (4, .int cm), (5, .long pa)]) hx hb dX0_passesProving_23 hl (by decide) rfl (fun ls hl => ?_)
    refine lv_aload_n hx hb dX0_passesProving_25 rfl (lv_at hl 1 rfl) ?_
    refine g_x_amn hx hb hts hin hown hK hP (hts (.fieldLink RX0 37 RX0 "machineNonces" "[J") (by decide +kernel)) dX0_passesProving_26 ?_
    refine lv_iload_n hx hb dX0_passesProving_29 rfl (lv_at hl 3 rfl) ?_
    refine lv_aload_n hx hb dX0_passesProving_30 rfl (lv_at hl 1 rfl) ?_
    refine xcall_l (va_runV (As := []) (rest := [.int q, .ref (ad 7)]) ⟨hx, hb, hml, hown, hts⟩ (c_X0_draw l dC dI ad cL cZ cO S s.heap.size  ) (cwV 0 hts gX0_passesProving_X0_draw rfl rfl rfl (by decide +kernel) ⟨Nat.le_of_ble_eq_true rfl, Nat.le_of_ble_eq_true rfl⟩) (xpV_w [] hK hP hD (va_recv hK hP (ci := 0) (q0 := 0) rfl rfl)) rfl rfl hl.1 rfl (lv_room (Nat.le_of_ble_eq_true rfl)) dX0_passesProving_31 ⟨Nat.le_of_ble_eq_true rfl, Nat.le_of_ble_eq_true rfl⟩) hD hS hA (fun r u H locs hw hP hD hS => ?_)
    obtain ⟨rfl, rfl⟩ := hw
    refine s_x_mn hx hb hK hP hD hS (xat_self hq) dX0_passesProving_34 (fun H locs hP hD hS => ?_)
    have hP : va_P (dC, dI) vwCl (wX ad cL cZ cO (X_anew S q)) H := hP
    have hD : va_D A (wX ad cL cZ cO (X_anew S q)) := hD
    refine lv_iload hx hb dX0_passesProving_35 (lv_at hl 0 rfl) ?_
    refine lv_if_eq (tgt := 48) hx hb dX0_passesProving_37 (by decide) (fun c37 => ?_) (fun c37 => ?_)
    · skip
      refine lv_aload_n hx hb dX0_passesProving_48 rfl (lv_at hl 1 rfl) ?_
      refine lv_dup hx hb dX0_passesProving_49 rfl ?_
      refine g_x_fa hx hb hts hin hown hK hP (hts (.fieldLink RX0 129 RX0 "failures" "I") (by decide +kernel)) dX0_passesProving_50 ?_
      refine lv_iconst (v := 1) hx hb dX0_passesProving_53 (by decide) ?_
      refine lv_iadd hx hb dX0_passesProving_54 ?_
      refine p_x_fa hx hb hts hin hown hK hP hD hS (hts (.fieldLink RX0 129 RX0 "failures" "I") (by decide +kernel)) dX0_passesProving_55 (fun H locs hP hD hS => ?_)
      refine lv_aload_n hx hb dX0_passesProving_58 rfl (lv_at hl 1 rfl) ?_
      refine lv_lconst (v := 0) hx hb dX0_passesProving_59 (by decide) ?_
      refine p_x_ou hx hb hts hin hown hK hP hD hS (hts (.fieldLink RX0 115 RX0 "output" "J") (by decide +kernel)) dX0_passesProving_60 (fun H locs hP hD hS => ?_)
      refine lv_iload hx hb dX0_passesProving_63 (lv_at hl 0 rfl) ?_
      exact W.zret (v := (0 : Int32)) hx hb hr rfl (fun t ht hW => ⟨⟨_, (xu_ou (xu_fa (X_anew S q) ((x_fa (X_anew S q)) + (1 : Int32))) (0 : Int64)), rfl, ⟨(by simp only [X_passesProving, if_neg c15, if_pos c37] <;> rfl), (by simp only [X_passesProving, if_neg c15, if_pos c37] <;> rfl)⟩, by rw [ht]; exact hP, va_K.moved hW.alike hK, hD⟩, hS.F ht⟩) hS.2.2 dX0_passesProving_65
    · skip
      exact absurd c37 (by decide)
  · skip
    refine lv_iconst (v := 1) hx hb dX0_passesProving_18 (by decide) ?_
    refine lv_goto (tgt := 23) hx hb dX0_passesProving_19 (by decide) ?_
    refine lv_istore (lv' := [(7, .int (1 : Int32)), (0, .ref (ad 0)), (1, .long k), (3, .int q), (4, .int cm), (5, .long pa)]) hx hb dX0_passesProving_23 hl (by decide) rfl (fun ls hl => ?_)
    refine lv_aload_n hx hb dX0_passesProving_25 rfl (lv_at hl 1 rfl) ?_
    refine g_x_amn hx hb hts hin hown hK hP (hts (.fieldLink RX0 37 RX0 "machineNonces" "[J") (by decide +kernel)) dX0_passesProving_26 ?_
    refine lv_iload_n hx hb dX0_passesProving_29 rfl (lv_at hl 3 rfl) ?_
    refine lv_aload_n hx hb dX0_passesProving_30 rfl (lv_at hl 1 rfl) ?_
    refine xcall_l (va_runV (As := []) (rest := [.int q, .ref (ad 7)]) ⟨hx, hb, hml, hown, hts⟩ (c_X0_draw l dC dI ad cL cZ cO S s.heap.size  ) (cwV 0 hts gX0_passesProving_X0_draw rfl rfl rfl (by decide +kernel) ⟨Nat.le_of_ble_eq_true rfl, Nat.le_of_ble_eq_true rfl⟩) (xpV_w [] hK hP hD (va_recv hK hP (ci := 0) (q0 := 0) rfl rfl)) rfl rfl hl.1 rfl (lv_room (Nat.le_of_ble_eq_true rfl)) dX0_passesProving_31 ⟨Nat.le_of_ble_eq_true rfl, Nat.le_of_ble_eq_true rfl⟩) hD hS hA (fun r u H locs hw hP hD hS => ?_)
    obtain ⟨rfl, rfl⟩ := hw
    refine s_x_mn hx hb hK hP hD hS (xat_self hq) dX0_passesProving_34 (fun H locs hP hD hS => ?_)
    have hP : va_P (dC, dI) vwCl (wX ad cL cZ cO (X_anew S q)) H := hP
    have hD : va_D A (wX ad cL cZ cO (X_anew S q)) := hD
    refine lv_iload hx hb dX0_passesProving_35 (lv_at hl 0 rfl) ?_
    refine lv_if_eq (tgt := 48) hx hb dX0_passesProving_37 (by decide) (fun c37 => ?_) (fun c37 => ?_)
    · skip
      exact absurd c37 (by decide)
    · skip
      refine lv_aload_n hx hb dX0_passesProving_40 rfl (lv_at hl 1 rfl) ?_
      refine lv_iconst (v := 0) hx hb dX0_passesProving_41 (by decide) ?_
      refine p_x_fa hx hb hts hin hown hK hP hD hS (hts (.fieldLink RX0 129 RX0 "failures" "I") (by decide +kernel)) dX0_passesProving_42 (fun H locs hP hD hS => ?_)
      refine lv_goto (tgt := 63) hx hb dX0_passesProving_45 (by decide) ?_
      refine lv_iload hx hb dX0_passesProving_63 (lv_at hl 0 rfl) ?_
      exact W.zret (v := (1 : Int32)) hx hb hr rfl (fun t ht hW => ⟨⟨_, (xu_fa (X_anew S q) (0 : Int32)), rfl, ⟨(by simp only [X_passesProving, if_pos c15, if_neg c37] <;> rfl), (by simp only [X_passesProving, if_pos c15, if_neg c37] <;> rfl)⟩, by rw [ht]; exact hP, va_K.moved hW.alike hK, hD⟩, hS.F ht⟩) hS.2.2 dX0_passesProving_65
set_option maxHeartbeats 4000000 in
set_option maxRecDepth 100000 in
theorem c_X0_blob (l : Launch) (dC : Nat → ClassId) (dI : Nat → Nat → Nat) (ad : Nat → Nat) (cL cZ cO : ClassId) (S : SX) (q : Int32) (i : Int32) (hB : okB (x_bc S)) : Met l yX0_blob wsX0_blob ({ frames := 2, cells := 0, slots := 0, locals := 43 }) (va_Pc [.ref (ad 0), .int q, .int i] (fun U => va_P (dC, dI) vwCl (wX ad cL cZ cO S) U.heap ∧ va_K (dC, dI) vwCl (tyX cL cZ cO) U)) (vp_Sl (fun r => r = X_blob S q i)) 0 0 (fun _ => False) := by
  refine Met.ofW (cc := cX0_blob) (maxL := 3) (ret := (some .long)) (by decide) rfl ?_
  intro p e s m args below meth c s₁ B hml hv
  obtain ⟨rfl, hP, hK⟩ := hv
  have hx := B.exec
  have hb := B.bytes
  have hr := B.returns
  have hts := atoms_spec (ws := wsX0_blob) B.pre
  have hown : s.vm.findClass RX0 = some m.cls := findClass_of_methodNamed B.named
  have hlocks := B.notSynchronized
  have hin : ∀ w ∈ wsX00, w ∈ wsX0_blob := fun _ h => List.mem_cons_of_mem _ (List.mem_append_right _ h)
  have hl := lv_entry ([.ref (ad 0), .int q, .int i]) (n := 3) (Nat.le_of_ble_eq_true rfl)
  rw [lg_entry_eq]
  generalize (lg_sl ([.ref (ad 0), .int q, .int i]) ++ List.replicate (3 - (lg_sl ([.ref (ad 0), .int q, .int i])).length) Slot.unset).toArray = ls at hl ⊢
  have hl : lv_has ls 3 [(0, .ref (ad 0)), (1, .int q), (2, .int i)] := hl
  refine lv_aload_n hx hb dX0_blob_0 rfl (lv_at hl 0 rfl) ?_
  refine lv_iload_n hx hb dX0_blob_1 rfl (lv_at hl 1 rfl) ?_
  refine lv_iload_n hx hb dX0_blob_2 rfl (lv_at hl 2 rfl) ?_
  refine vp_callSi (va_Run.run (va_runV (As := [.int q, .int i]) (rest := []) ⟨hx, hb, hml, hown, hts⟩ (c_X0_isBlobWord l dC dI ad cL cZ cO S q i ) (cwV 2 hts gX0_blob_X0_isBlobWord rfl rfl rfl (by decide +kernel) ⟨Nat.le_of_ble_eq_true rfl, Nat.le_of_ble_eq_true rfl⟩) (xpV_r [.int q, .int i] hK hP (va_recv hK hP (ci := 0) (q0 := 0) rfl rfl)) rfl rfl hl.1 rfl (lv_room (Nat.le_of_ble_eq_true rfl)) dX0_blob_3 ⟨Nat.le_of_ble_eq_true rfl, Nat.le_of_ble_eq_true rfl⟩)) (fun r hr9 => ?_)
  subst hr9
  refine lv_if_eq (tgt := 20) hx hb dX0_blob_6 (by decide) (fun c6 => ?_) (fun c6 => ?_)
  · skip
    refine lv_lconst (v := 0) hx hb dX0_blob_20 (by decide) ?_
    exact W.lret (v := (0 : Int64)) hx hb hr (fun t ht hW => ⟨_, rfl, (by simp only [X_blob, if_pos c6] <;> rfl), ht⟩) (fun _ h => by cases h) dX0_blob_21
  · skip
    have hq := X_isBlobWord_in hB c6
    refine lv_aload_n hx hb dX0_blob_9 rfl (lv_at hl 0 rfl) ?_
    refine g_x_abl hx hb hts hin hown hK hP (hts (.fieldLink RX0 42 RX0 "blobs" "[[J") (by decide +kernel)) dX0_blob_10 ?_
    refine lv_iload_n hx hb dX0_blob_13 rfl (lv_at hl 1 rfl) ?_
    refine l_x_bl hx hb hK hP (xat_self hq.1) dX0_blob_14 ?_
    refine lv_iload_n hx hb dX0_blob_15 rfl (lv_at hl 2 rfl) ?_
    refine l_x_row hx hb hK hP (xat_lt (xat_self hq.1)) (xat_self hq.2) dX0_blob_16 ?_
    refine lv_goto (tgt := 21) hx hb dX0_blob_17 (by decide) ?_
    exact W.lret (v := (x_bl S q.toNatClampNeg i.toNatClampNeg)) hx hb hr (fun t ht hW => ⟨_, rfl, (by simp only [X_blob, if_neg c6] <;> rfl), ht⟩) (fun _ h => by cases h) dX0_blob_21
set_option maxHeartbeats 4000000 in
set_option maxRecDepth 100000 in
theorem c_X0_change (l : Launch) (dC : Nat → ClassId) (dI : Nat → Nat → Nat) (ad : Nat → Nat) (cL cZ cO : ClassId) (S : SX) (sz : Nat) (q : Int32) (i : Int32) (v : Int64) (hB : okB (x_bc S)) : Met l yX0_change wsX0_change ({ frames := 2, cells := 0, slots := 0, locals := 43 }) (va_Pc [.ref (ad 0), .int q, .int i, .long v] (fun U => U.heap.size = sz ∧ va_P (dC, dI) vwCl (wX ad cL cZ cO S) U.heap ∧ va_K (dC, dI) vwCl (tyX cL cZ cO) U ∧ va_D (fun _ => True) (wX ad cL cZ cO S))) (va_Qi (fun r u => r = (X_change S q i v).1 ∧ u = (X_change S q i v).2) (xB (dC, dI) (wX ad cL cZ cO) (tyX cL cZ cO) (va_A (wX ad cL cZ cO S) sz)) (va_A (wX ad cL cZ cO S) sz)) 0 0 (va_A (wX ad cL cZ cO S) sz) := by
  refine Met.ofW (cc := cX0_change) (maxL := 5) (ret := (some .boolean)) (by decide) rfl ?_
  intro p e s m args below meth c s₁ B hml hv
  obtain ⟨rfl, hsz, hP, hK, hD0⟩ := hv
  have hx := B.exec
  have hb := B.bytes
  have hr := B.returns
  have hts := atoms_spec (ws := wsX0_change) B.pre
  have hown : s.vm.findClass RX0 = some m.cls := findClass_of_methodNamed B.named
  have hlocks := B.notSynchronized
  have hin : ∀ w ∈ wsX00, w ∈ wsX0_change := fun _ h => List.mem_cons_of_mem _ (List.mem_append_right _ h)
  subst hsz
  have hD := hD0.self (sz := s.heap.size)
  generalize hAe : va_A (wX ad cL cZ cO S) s.heap.size = A at hD ⊢
  have hA : ∀ q : Nat, s.heap.size ≤ q → A q := fun q h => by rw [← hAe]; exact Or.inr h
  have hS : va_S A s.heap s.heap [] := va_S.rf
  have hl := lv_entry ([.ref (ad 0), .int q, .int i, .long v]) (n := 5) (Nat.le_of_ble_eq_true rfl)
  rw [lg_entry_eq]
  generalize (lg_sl ([.ref (ad 0), .int q, .int i, .long v]) ++ List.replicate (5 - (lg_sl ([.ref (ad 0), .int q, .int i, .long v])).length) Slot.unset).toArray = ls at hl ⊢
  have hl : lv_has ls 5 [(0, .ref (ad 0)), (1, .int q), (2, .int i), (3, .long v)] := hl
  refine lv_aload_n hx hb dX0_change_0 rfl (lv_at hl 0 rfl) ?_
  refine lv_iload_n hx hb dX0_change_1 rfl (lv_at hl 1 rfl) ?_
  refine lv_iload_n hx hb dX0_change_2 rfl (lv_at hl 2 rfl) ?_
  refine vp_callSi (va_Run.run (va_runV (As := [.int q, .int i]) (rest := []) ⟨hx, hb, hml, hown, hts⟩ (c_X0_isBlobWord l dC dI ad cL cZ cO S q i ) (cwV 2 hts gX0_change_X0_isBlobWord rfl rfl rfl (by decide +kernel) ⟨Nat.le_of_ble_eq_true rfl, Nat.le_of_ble_eq_true rfl⟩) (xpV_r [.int q, .int i] hK hP (va_recv hK hP (ci := 0) (q0 := 0) rfl rfl)) rfl rfl hl.1 rfl (lv_room (Nat.le_of_ble_eq_true rfl)) dX0_change_3 ⟨Nat.le_of_ble_eq_true rfl, Nat.le_of_ble_eq_true rfl⟩)) (fun r hr9 => ?_)
  subst hr9
  refine lv_if_ne (tgt := 11) hx hb dX0_change_6 (by decide) (fun c6 => ?_) (fun c6 => ?_)
  · skip
    have hq := X_isBlobWord_in hB c6
    refine lv_aload_n hx hb dX0_change_11 rfl (lv_at hl 0 rfl) ?_
    refine g_x_abl hx hb hts hin hown hK hP (hts (.fieldLink RX0 42 RX0 "blobs" "[[J") (by decide +kernel)) dX0_change_12 ?_
    refine lv_iload_n hx hb dX0_change_15 rfl (lv_at hl 1 rfl) ?_
    refine l_x_bl hx hb hK hP (xat_self hq.1) dX0_change_16 ?_
    refine lv_iload_n hx hb dX0_change_17 rfl (lv_at hl 2 rfl) ?_
    refine lv_lload_n hx hb dX0_change_18 rfl (lv_at hl 3 rfl) ?_
    refine s_x_row hx hb hK hP hD hS (xat_lt (xat_self hq.1)) (xat_self hq.2) dX0_change_19 (fun H locs hP hD hS => ?_)
    have hP : va_P (dC, dI) vwCl (wX ad cL cZ cO (X_put S q.toNatClampNeg i.toNatClampNeg v)) H := hP
    have hD : va_D A (wX ad cL cZ cO (X_put S q.toNatClampNeg i.toNatClampNeg v)) := hD
    refine lv_iconst (v := 1) hx hb dX0_change_20 (by decide) ?_
    exact W.zret (v := (1 : Int32)) hx hb hr rfl (fun t ht hW => ⟨⟨_, (X_put S q.toNatClampNeg i.toNatClampNeg v), rfl, ⟨(by simp only [X_change, if_neg c6] <;> rfl), (by simp only [X_change, if_neg c6] <;> rfl)⟩, by rw [ht]; exact hP, va_K.moved hW.alike hK, hD⟩, hS.F ht⟩) hS.2.2 dX0_change_21
  · skip
    refine lv_iconst (v := 0) hx hb dX0_change_9 (by decide) ?_
    exact W.zret (v := (0 : Int32)) hx hb hr rfl (fun t ht hW => ⟨⟨_, S, rfl, ⟨(by simp only [X_change, if_pos c6] <;> rfl), (by simp only [X_change, if_pos c6] <;> rfl)⟩, by rw [ht]; exact hP, va_K.moved hW.alike hK, hD⟩, hS.F ht⟩) hS.2.2 dX0_change_10
