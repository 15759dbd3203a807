set_option maxHeartbeats 4000000 in
set_option maxRecDepth 100000 in
theorem c_X1_locality (l : Launch) (dC : Nat → ClassId) (dI : Nat → Nat → Nat) (ad : Nat → Nat) (cL cZ cI : ClassId) (S : SM) (ro hd : Nat → Int64) (sz : Nat) (q : Int32)  : Met l yX1_locality wsX1_locality ({ frames := 0, cells := 0, slots := 0, locals := 0 }) (va_Pc [.ref (ad 0), .int q] (fun U => U.heap.size = sz ∧ va_P (dC, dI) vwCl (wM ad cL cZ cI S ro hd) U.heap ∧ va_K (dC, dI) vwCl (tyM cL cZ cI) U ∧ va_D (fun _ => True) (wM ad cL cZ cI S ro hd))) (va_Qi (fun r (u : SMr) => r = (M_locality S q).1 ∧ u.1 = (M_locality S q).2) (xB (dC, dI) (wMr ad cL cZ cI) (tyM cL cZ cI) (va_A (wM ad cL cZ cI S ro hd) sz)) (va_A (wM ad cL cZ cI S ro hd) sz)) 0 0 (va_A (wM ad cL cZ cI S ro hd) sz) := by
  refine Met.ofW (cc := cX1_locality) (maxL := 2) (ret := (some .boolean)) (by decide) rfl ?_
  intro p e s m args below meth c s₁ B hml hv
  obtain ⟨rfl, hsz, hP, hK, hD0⟩ := hv
  have hx := B.exec
  have hb := B.bytes
  have hr := B.returns
  have hts := atoms_spec (ws := wsX1_locality) B.pre
  have hown : s.vm.findClass RX1 = some m.cls := findClass_of_methodNamed B.named
  have hlocks := B.notSynchronized
  have hin : ∀ w ∈ wsX10, w ∈ wsX1_locality := fun _ h => List.mem_cons_of_mem _ (List.mem_append_right _ h)
  subst hsz
  have hD := hD0.self (sz := s.heap.size)
  generalize hAe : va_A (wM ad cL cZ cI S ro hd) s.heap.size = A at hD ⊢
  have hA : ∀ q : Nat, s.heap.size ≤ q → A q := fun q h => by rw [← hAe]; exact Or.inr h
  have hS : va_S A s.heap s.heap [] := va_S.rf
  have hl := lv_entry ([.ref (ad 0), .int q]) (n := 2) (Nat.le_of_ble_eq_true rfl)
  rw [lg_entry_eq]
  generalize (lg_sl ([.ref (ad 0), .int q]) ++ List.replicate (2 - (lg_sl ([.ref (ad 0), .int q])).length) Slot.unset).toArray = ls at hl ⊢
  have hl : lv_has ls 2 [(0, .ref (ad 0)), (1, .int q)] := hl
  refine lv_iload_n hx hb dX1_locality_0 rfl (lv_at hl 1 rfl) ?_
  refine lv_if_lt (tgt := 9) hx hb dX1_locality_1 (by decide) (fun c1 => ?_) (fun c1 => ?_)
  · skip
    refine lv_iconst (v := 0) hx hb dX1_locality_9 (by decide) ?_
    exact W.zret (v := (0 : Int32)) hx hb hr rfl (fun t ht hW => ⟨⟨_, (S, ro, hd), rfl, ⟨(by simp only [M_locality, if_pos c1] <;> rfl), (by simp only [M_locality, if_pos c1] <;> rfl)⟩, by rw [ht]; exact hP, va_K.moved hW.alike hK, hD⟩, hS.F ht⟩) hS.2.2 dX1_locality_10
  · skip
    refine lv_iload_n hx hb dX1_locality_4 rfl (lv_at hl 1 rfl) ?_
    refine lv_iconst (v := 3) hx hb dX1_locality_5 (by decide) ?_
    refine lv_icmp_le (tgt := 11) hx hb dX1_locality_6 (by decide) (fun c6 => ?_) (fun c6 => ?_)
    · skip
      refine lv_aload_n hx hb dX1_locality_11 rfl (lv_at hl 0 rfl) ?_
      refine lv_iload_n hx hb dX1_locality_12 rfl (lv_at hl 1 rfl) ?_
      refine p_m_lo hx hb hts hin hown hK hP hD hS (hts (.fieldLink RX1 74 RX1 "locality" "I") (by decide +kernel)) dX1_locality_13 (fun H locs hP hD hS => ?_)
      refine lv_iconst (v := 1) hx hb dX1_locality_16 (by decide) ?_
      exact W.zret (v := (1 : Int32)) hx hb hr rfl (fun t ht hW => ⟨⟨_, ((mu_lo S q), ro, hd), rfl, ⟨(by simp only [M_locality, if_neg c1, if_pos c6] <;> rfl), (by simp only [M_locality, if_neg c1, if_pos c6] <;> rfl)⟩, by rw [ht]; exact hP, va_K.moved hW.alike hK, hD⟩, hS.F ht⟩) hS.2.2 dX1_locality_17
    · skip
      refine lv_iconst (v := 0) hx hb dX1_locality_9 (by decide) ?_
      exact W.zret (v := (0 : Int32)) hx hb hr rfl (fun t ht hW => ⟨⟨_, (S, ro, hd), rfl, ⟨(by simp only [M_locality, if_neg c1, if_neg c6] <;> rfl), (by simp only [M_locality, if_neg c1, if_neg c6] <;> rfl)⟩, by rw [ht]; exact hP, va_K.moved hW.alike hK, hD⟩, hS.F ht⟩) hS.2.2 dX1_locality_10
set_option maxHeartbeats 4000000 in
set_option maxRecDepth 100000 in
theorem c_X1_note (l : Launch) (dC : Nat → ClassId) (dI : Nat → Nat → Nat) (ad : Nat → Nat) (cL cZ cI : ClassId) (S : SM) (ro hd : Nat → Int64) (sz : Nat) (q : Int32) (kd : Int32) (v : Int64) (hd9 : vp_in (m_dn S) 512) : Met l yX1_note wsX1_note ({ frames := 0, cells := 0, slots := 0, locals := 0 }) (va_Pc [.ref (ad 0), .int q, .int kd, .long v] (fun U => U.heap.size = sz ∧ va_P (dC, dI) vwCl (wM ad cL cZ cI S ro hd) U.heap ∧ va_K (dC, dI) vwCl (tyM cL cZ cI) U ∧ va_D (fun _ => True) (wM ad cL cZ cI S ro hd))) (va_Qi (fun r (u : SMr) => r = (M_note S q kd v).1 ∧ u.1 = (M_note S q kd v).2) (xB (dC, dI) (wMr ad cL cZ cI) (tyM cL cZ cI) (va_A (wM ad cL cZ cI S ro hd) sz)) (va_A (wM ad cL cZ cI S ro hd) sz)) 0 0 (va_A (wM ad cL cZ cI S ro hd) sz) := by
  refine Met.ofW (cc := cX1_note) (maxL := 5) (ret := (some .boolean)) (by decide) rfl ?_
  intro p e s m args below meth c s₁ B hml hv
  obtain ⟨rfl, hsz, hP, hK, hD0⟩ := hv
  have hx := B.exec
  have hb := B.bytes
  have hr := B.returns
  have hts := atoms_spec (ws := wsX1_note) B.pre
  have hown : s.vm.findClass RX1 = some m.cls := findClass_of_methodNamed B.named
  have hlocks := B.notSynchronized
  have hin : ∀ w ∈ wsX10, w ∈ wsX1_note := fun _ h => List.mem_cons_of_mem _ (List.mem_append_right _ h)
  subst hsz
  have hD := hD0.self (sz := s.heap.size)
  generalize hAe : va_A (wM ad cL cZ cI S ro hd) s.heap.size = A at hD ⊢
  have hA : ∀ q : Nat, s.heap.size ≤ q → A q := fun q h => by rw [← hAe]; exact Or.inr h
  have hS : va_S A s.heap s.heap [] := va_S.rf
  have hl := lv_entry ([.ref (ad 0), .int q, .int kd, .long v]) (n := 5) (Nat.le_of_ble_eq_true rfl)
  rw [lg_entry_eq]
  generalize (lg_sl ([.ref (ad 0), .int q, .int kd, .long v]) ++ List.replicate (5 - (lg_sl ([.ref (ad 0), .int q, .int kd, .long v])).length) Slot.unset).toArray = ls at hl ⊢
  have hl : lv_has ls 5 [(0, .ref (ad 0)), (1, .int q), (2, .int kd), (3, .long v)] := hl
  refine lv_iload_n hx hb dX1_note_0 rfl (lv_at hl 1 rfl) ?_
  refine lv_if_lt (tgt := 20) hx hb dX1_note_1 (by decide) (fun c1 => ?_) (fun c1 => ?_)
  · skip
    refine lv_iconst (v := 0) hx hb dX1_note_20 (by decide) ?_
    exact W.zret (v := (0 : Int32)) hx hb hr rfl (fun t ht hW => ⟨⟨_, (S, ro, hd), rfl, ⟨(by simp only [M_note, if_pos c1] <;> rfl), (by simp only [M_note, if_pos c1] <;> rfl)⟩, by rw [ht]; exact hP, va_K.moved hW.alike hK, hD⟩, hS.F ht⟩) hS.2.2 dX1_note_21
  · skip
    refine lv_iload_n hx hb dX1_note_4 rfl (lv_at hl 1 rfl) ?_
    refine lv_bipush (v := 7) hx hb dX1_note_5 (by decide) ?_
    refine lv_icmp_gt (tgt := 20) hx hb dX1_note_7 (by decide) (fun c7 => ?_) (fun c7 => ?_)
    · skip
      refine lv_iconst (v := 0) hx hb dX1_note_20 (by decide) ?_
      exact W.zret (v := (0 : Int32)) hx hb hr rfl (fun t ht hW => ⟨⟨_, (S, ro, hd), rfl, ⟨(by simp only [M_note, if_neg c1, if_pos c7] <;> rfl), (by simp only [M_note, if_neg c1, if_pos c7] <;> rfl)⟩, by rw [ht]; exact hP, va_K.moved hW.alike hK, hD⟩, hS.F ht⟩) hS.2.2 dX1_note_21
    · skip
      refine lv_iload_n hx hb dX1_note_10 rfl (lv_at hl 1 rfl) ?_
      refine lv_iconst (v := 2) hx hb dX1_note_11 (by decide) ?_
      refine lv_idiv hx hb dX1_note_12 (by decide) ?_
      refine lv_aload_n hx hb dX1_note_13 rfl (lv_at hl 0 rfl) ?_
      refine g_m_lo hx hb hts hin hown hK hP (hts (.fieldLink RX1 74 RX1 "locality" "I") (by decide +kernel)) dX1_note_14 ?_
      refine lv_icmp_le (tgt := 22) hx hb dX1_note_17 (by decide) (fun c17 => ?_) (fun c17 => ?_)
      · skip
        refine lv_aload_n hx hb dX1_note_22 rfl (lv_at hl 0 rfl) ?_
        refine g_m_awh hx hb hts hin hown hK hP (hts (.fieldLink RX1 7 RX1 "what" "[I") (by decide +kernel)) dX1_note_23 ?_
        refine lv_aload_n hx hb dX1_note_26 rfl (lv_at hl 0 rfl) ?_
        refine g_m_dn hx hb hts hin hown hK hP (hts (.fieldLink RX1 63 RX1 "done" "I") (by decide +kernel)) dX1_note_27 ?_
        refine lv_iload_n hx hb dX1_note_30 rfl (lv_at hl 2 rfl) ?_
        refine s_m_wh hx hb hK hP hD hS (xat_self hd9) dX1_note_31 (fun H locs hP hD hS => ?_)
        refine lv_aload_n hx hb dX1_note_32 rfl (lv_at hl 0 rfl) ?_
        refine g_m_awi hx hb hts hin hown hK hP (hts (.fieldLink RX1 13 RX1 "with" "[J") (by decide +kernel)) dX1_note_33 ?_
        refine lv_aload_n hx hb dX1_note_36 rfl (lv_at hl 0 rfl) ?_
        refine g_m_dn hx hb hts hin hown hK hP (hts (.fieldLink RX1 63 RX1 "done" "I") (by decide +kernel)) dX1_note_37 ?_
        refine lv_lload_n hx hb dX1_note_40 rfl (lv_at hl 3 rfl) ?_
        refine s_m_wi hx hb hK hP hD hS (xat_self hd9) dX1_note_41 (fun H locs hP hD hS => ?_)
        refine lv_aload_n hx hb dX1_note_42 rfl (lv_at hl 0 rfl) ?_
        refine lv_dup hx hb dX1_note_43 rfl ?_
        refine g_m_dn hx hb hts hin hown hK hP (hts (.fieldLink RX1 63 RX1 "done" "I") (by decide +kernel)) dX1_note_44 ?_
        refine lv_iconst (v := 1) hx hb dX1_note_47 (by decide) ?_
        refine lv_iadd hx hb dX1_note_48 ?_
        refine p_m_dn hx hb hts hin hown hK hP hD hS (hts (.fieldLink RX1 63 RX1 "done" "I") (by decide +kernel)) dX1_note_49 (fun H locs hP hD hS => ?_)
        refine lv_iconst (v := 1) hx hb dX1_note_52 (by decide) ?_
        exact W.zret (v := (1 : Int32)) hx hb hr rfl (fun t ht hW => ⟨⟨_, ((mu_dn (mu_wi (mu_wh S (upd (m_wh S) ((m_dn S).toNatClampNeg) kd)) (vp_updL (m_wi (mu_wh S (upd (m_wh S) ((m_dn S).toNatClampNeg) kd))) ((m_dn S).toNatClampNeg) v)) ((m_dn (mu_wi (mu_wh S (upd (m_wh S) ((m_dn S).toNatClampNeg) kd)) (vp_updL (m_wi (mu_wh S (upd (m_wh S) ((m_dn S).toNatClampNeg) kd))) ((m_dn S).toNatClampNeg) v))) + (1 : Int32))), ro, hd), rfl, ⟨(by simp only [M_note, if_neg c1, if_neg c7, if_pos c17] <;> rfl), (by simp only [M_note, if_neg c1, if_neg c7, if_pos c17] <;> rfl)⟩, by rw [ht]; exact hP, va_K.moved hW.alike hK, hD⟩, hS.F ht⟩) hS.2.2 dX1_note_53
      · skip
        refine lv_iconst (v := 0) hx hb dX1_note_20 (by decide) ?_
        exact W.zret (v := (0 : Int32)) hx hb hr rfl (fun t ht hW => ⟨⟨_, (S, ro, hd), rfl, ⟨(by simp only [M_note, if_neg c1, if_neg c7, if_neg c17] <;> rfl), (by simp only [M_note, if_neg c1, if_neg c7, if_neg c17] <;> rfl)⟩, by rw [ht]; exact hP, va_K.moved hW.alike hK, hD⟩, hS.F ht⟩) hS.2.2 dX1_note_21
set_option maxHeartbeats 4000000 in
set_option maxRecDepth 100000 in
theorem c_X1_extend (l : Launch) (dC : Nat → ClassId) (dI : Nat → Nat → Nat) (ad : Nat → Nat) (cL cZ cI : ClassId) (S : SM) (ro hd : Nat → Int64) (sz : Nat) (q : Int32) (v : Int64) (hd9 : vp_in (m_dn S) 512) : Met l yX1_extend wsX1_extend ({ frames := 1, cells := 0, slots := 0, locals := 24 }) (va_Pc [.ref (ad 0), .int q, .long v] (fun U => U.heap.size = sz ∧ va_P (dC, dI) vwCl (wM ad cL cZ cI S ro hd) U.heap ∧ va_K (dC, dI) vwCl (tyM cL cZ cI) U ∧ va_D (fun _ => True) (wM ad cL cZ cI S ro hd))) (va_Qi (fun r (u : SMr) => r = (M_extend S q v).1 ∧ u.1 = (M_extend S q v).2) (xB (dC, dI) (wMr ad cL cZ cI) (tyM cL cZ cI) (va_A (wM ad cL cZ cI S ro hd) sz)) (va_A (wM ad cL cZ cI S ro hd) sz)) 0 0 (va_A (wM ad cL cZ cI S ro hd) sz) := by
  refine Met.ofW (cc := cX1_extend) (maxL := 4) (ret := (some .boolean)) (by decide) rfl ?_
  intro p e s m args below meth c s₁ B hml hv
  obtain ⟨rfl, hsz, hP, hK, hD0⟩ := hv
  have hx := B.exec
  have hb := B.bytes
  have hr := B.returns
  have hts := atoms_spec (ws := wsX1_extend) B.pre
  have hown : s.vm.findClass RX1 = some m.cls := findClass_of_methodNamed B.named
  have hlocks := B.notSynchronized
  have hin : ∀ w ∈ wsX10, w ∈ wsX1_extend := fun _ h => List.mem_cons_of_mem _ (List.mem_append_right _ h)
  subst hsz
  have hD := hD0.self (sz := s.heap.size)
  generalize hAe : va_A (wM ad cL cZ cI S ro hd) s.heap.size = A at hD ⊢
  have hA : ∀ q : Nat, s.heap.size ≤ q → A q := fun q h => by rw [← hAe]; exact Or.inr h
  have hS : va_S A s.heap s.heap [] := va_S.rf
  have hl := lv_entry ([.ref (ad 0), .int q, .long v]) (n := 4) (Nat.le_of_ble_eq_true rfl)
  rw [lg_entry_eq]
  generalize (lg_sl ([.ref (ad 0), .int q, .long v]) ++ List.replicate (4 - (lg_sl ([.ref (ad 0), .int q, .long v])).length) Slot.unset).toArray = ls at hl ⊢
  have hl : lv_has ls 4 [(0, .ref (ad 0)), (1, .int q), (2, .long v)] := hl
  refine lv_aload_n hx hb dX1_extend_0 rfl (lv_at hl 0 rfl) ?_
  refine lv_iload_n hx hb dX1_extend_1 rfl (lv_at hl 1 rfl) ?_
  refine lv_iload_n hx hb dX1_extend_2 rfl (lv_at hl 1 rfl) ?_
  refine lv_lload_n hx hb dX1_extend_3 rfl (lv_at hl 2 rfl) ?_
  refine xcall_i (va_runV (As := [.int q, .int q, .long v]) (rest := []) ⟨hx, hb, hml, hown, hts⟩ (c_X1_note l dC dI ad cL cZ cI S ro hd s.heap.size q q v hd9 ) (cwV 3 hts gX1_extend_X1_note rfl rfl rfl (by decide +kernel) ⟨Nat.le_of_ble_eq_true rfl, Nat.le_of_ble_eq_true rfl⟩) (xpV_w [.int q, .int q, .long v] hK hP hD (va_recv hK hP (ci := 1) (q0 := 0) rfl rfl)) rfl rfl hl.1 rfl (lv_room (Nat.le_of_ble_eq_true rfl)) dX1_extend_4 ⟨Nat.le_of_ble_eq_true rfl, Nat.le_of_ble_eq_true rfl⟩) hD hS hA (fun r u H locs hw hP hD hS => ?_)
  obtain ⟨u1, rw1, hd1⟩ := u
  obtain ⟨rfl, hu1⟩ := hw
  change u1 = (M_note S q q v).2 at hu1
  change va_P _ vwCl (wM ad cL cZ cI u1 rw1 hd1) _ at hP
  change va_D _ (wM ad cL cZ cI u1 rw1 hd1) at hD
  rw [hu1] at hP hD
  exact W.zret (v := (M_note S q q v).1) hx hb hr (narB (M_note_01 _ _ _ _)) (fun t ht hW => ⟨⟨_, ((M_note S q q v).2, rw1, hd1), rfl, ⟨rfl, rfl⟩, by rw [ht]; exact hP, va_K.moved hW.alike hK, hD⟩, hS.F ht⟩) hS.2.2 dX1_extend_7
set_option maxHeartbeats 4000000 in
set_option maxRecDepth 100000 in
theorem c_X1_reset (l : Launch) (dC : Nat → ClassId) (dI : Nat → Nat → Nat) (ad : Nat → Nat) (cL cZ cI : ClassId) (S : SM) (ro hd : Nat → Int64) (sz : Nat) (q : Int32) (hd9 : vp_in (m_dn S) 512) : Met l yX1_reset wsX1_reset ({ frames := 1, cells := 0, slots := 0, locals := 24 }) (va_Pc [.ref (ad 0), .int q] (fun U => U.heap.size = sz ∧ va_P (dC, dI) vwCl (wM ad cL cZ cI S ro hd) U.heap ∧ va_K (dC, dI) vwCl (tyM cL cZ cI) U ∧ va_D (fun _ => True) (wM ad cL cZ cI S ro hd))) (va_Qi (fun r (u : SMr) => r = (M_reset S q).1 ∧ u.1 = (M_reset S q).2) (xB (dC, dI) (wMr ad cL cZ cI) (tyM cL cZ cI) (va_A (wM ad cL cZ cI S ro hd) sz)) (va_A (wM ad cL cZ cI S ro hd) sz)) 0 0 (va_A (wM ad cL cZ cI S ro hd) sz) := by
  refine Met.ofW (cc := cX1_reset) (maxL := 2) (ret := (some .boolean)) (by decide) rfl ?_
  intro p e s m args below meth c s₁ B hml hv
  obtain ⟨rfl, hsz, hP, hK, hD0⟩ := hv
  have hx := B.exec
  have hb := B.bytes
  have hr := B.returns
  have hts := atoms_spec (ws := wsX1_reset) B.pre
  have hown : s.vm.findClass RX1 = some m.cls := findClass_of_methodNamed B.named
  have hlocks := B.notSynchronized
  have hin : ∀ w ∈ wsX10, w ∈ wsX1_reset := fun _ h => List.mem_cons_of_mem _ (List.mem_append_right _ h)
  subst hsz
  have hD := hD0.self (sz := s.heap.size)
  generalize hAe : va_A (wM ad cL cZ cI S ro hd) s.heap.size = A at hD ⊢
  have hA : ∀ q : Nat, s.heap.size ≤ q → A q := fun q h => by rw [← hAe]; exact Or.inr h
  have hS : va_S A s.heap s.heap [] := va_S.rf
  have hl := lv_entry ([.ref (ad 0), .int q]) (n := 2) (Nat.le_of_ble_eq_true rfl)
  rw [lg_entry_eq]
  generalize (lg_sl ([.ref (ad 0), .int q]) ++ List.replicate (2 - (lg_sl ([.ref (ad 0), .int q])).length) Slot.unset).toArray = ls at hl ⊢
  have hl : lv_has ls 2 [(0, .ref (ad 0)), (1, .int q)] := hl
  refine lv_iload_n hx hb dX1_reset_0 rfl (lv_at hl 1 rfl) ?_
  refine lv_iconst (v := 4) hx hb dX1_reset_1 (by decide) ?_
  refine lv_icmp_lt (tgt := 28) hx hb dX1_reset_2 (by decide) (fun c2 => ?_) (fun c2 => ?_)
  · skip
    refine lv_iconst (v := 0) hx hb dX1_reset_28 (by decide) ?_
    exact W.zret (v := (0 : Int32)) hx hb hr rfl (fun t ht hW => ⟨⟨_, (S, ro, hd), rfl, ⟨(by simp only [M_reset, if_pos c2] <;> rfl), (by simp only [M_reset, if_pos c2] <;> rfl)⟩, by rw [ht]; exact hP, va_K.moved hW.alike hK, hD⟩, hS.F ht⟩) hS.2.2 dX1_reset_29
  · skip
    refine lv_iload_n hx hb dX1_reset_5 rfl (lv_at hl 1 rfl) ?_
    refine lv_bipush (v := 7) hx hb dX1_reset_6 (by decide) ?_
    refine lv_icmp_gt (tgt := 28) hx hb dX1_reset_8 (by decide) (fun c8 => ?_) (fun c8 => ?_)
    · skip
      refine lv_iconst (v := 0) hx hb dX1_reset_28 (by decide) ?_
      exact W.zret (v := (0 : Int32)) hx hb hr rfl (fun t ht hW => ⟨⟨_, (S, ro, hd), rfl, ⟨(by simp only [M_reset, if_neg c2, if_pos c8] <;> rfl), (by simp only [M_reset, if_neg c2, if_pos c8] <;> rfl)⟩, by rw [ht]; exact hP, va_K.moved hW.alike hK, hD⟩, hS.F ht⟩) hS.2.2 dX1_reset_29
    · skip
      refine lv_aload_n hx hb dX1_reset_11 rfl (lv_at hl 0 rfl) ?_
      refine lv_iload_n hx hb dX1_reset_12 rfl (lv_at hl 1 rfl) ?_
      refine lv_iload_n hx hb dX1_reset_13 rfl (lv_at hl 1 rfl) ?_
      refine lv_bipush (v := 8) hx hb dX1_reset_14 (by decide) ?_
      refine lv_iadd hx hb dX1_reset_16 ?_
      refine lv_lconst (v := 0) hx hb dX1_reset_17 (by decide) ?_
      refine xcall_i (va_runV (As := [.int q, .int (q + (8 : Int32)), .long (0 : Int64)]) (rest := []) ⟨hx, hb, hml, hown, hts⟩ (c_X1_note l dC dI ad cL cZ cI S ro hd s.heap.size q (q + (8 : Int32)) (0 : Int64) hd9 ) (cwV 3 hts gX1_reset_X1_note rfl rfl rfl (by decide +kernel) ⟨Nat.le_of_ble_eq_true rfl, Nat.le_of_ble_eq_true rfl⟩) (xpV_w [.int q, .int (q + (8 : Int32)), .long (0 : Int64)] hK hP hD (va_recv hK hP (ci := 1) (q0 := 0) rfl rfl)) rfl rfl hl.1 rfl (lv_room (Nat.le_of_ble_eq_true rfl)) dX1_reset_18 ⟨Nat.le_of_ble_eq_true rfl, Nat.le_of_ble_eq_true rfl⟩) hD hS hA (fun r u H locs hw hP hD hS => ?_)
      obtain ⟨u1, rw1, hd1⟩ := u
      obtain ⟨rfl, hu1⟩ := hw
      change u1 = (M_note S q (q + (8 : Int32)) (0 : Int64)).2 at hu1
      change va_P _ vwCl (wM ad cL cZ cI u1 rw1 hd1) _ at hP
      change va_D _ (wM ad cL cZ cI u1 rw1 hd1) at hD
      rw [hu1] at hP hD
      refine lv_if_eq (tgt := 28) hx hb dX1_reset_21 (by decide) (fun c21 => ?_) (fun c21 => ?_)
      · skip
        refine lv_iconst (v := 0) hx hb dX1_reset_28 (by decide) ?_
        exact W.zret (v := (0 : Int32)) hx hb hr rfl (fun t ht hW => ⟨⟨_, ((M_note S q (q + (8 : Int32)) (0 : Int64)).2, rw1, hd1), rfl, ⟨(by simp only [M_reset, if_neg c2, if_neg c8, if_pos c21] <;> rfl), (by simp only [M_reset, if_neg c2, if_neg c8, if_pos c21] <;> rfl)⟩, by rw [ht]; exact hP, va_K.moved hW.alike hK, hD⟩, hS.F ht⟩) hS.2.2 dX1_reset_29
      · skip
        refine lv_iconst (v := 1) hx hb dX1_reset_24 (by decide) ?_
        refine lv_goto (tgt := 29) hx hb dX1_reset_25 (by decide) ?_
        exact W.zret (v := (1 : Int32)) hx hb hr rfl (fun t ht hW => ⟨⟨_, ((M_note S q (q + (8 : Int32)) (0 : Int64)).2, rw1, hd1), rfl, ⟨(by simp only [M_reset, if_neg c2, if_neg c8, if_neg c21] <;> rfl), (by simp only [M_reset, if_neg c2, if_neg c8, if_neg c21] <;> rfl)⟩, by rw [ht]; exact hP, va_K.moved hW.alike hK, hD⟩, hS.F ht⟩) hS.2.2 dX1_reset_29
set_option maxHeartbeats 4000000 in
set_option maxRecDepth 100000 in
theorem c_X1_register (l : Launch) (dC : Nat → ClassId) (dI : Nat → Nat → Nat) (ad : Nat → Nat) (cL cZ cI : ClassId) (S : SM) (ro hd : Nat → Int64) (sz : Nat) (q : Int32) (hd9 : okD (m_dn S)) : Met l yX1_register wsX1_register ({ frames := 3, cells := 0, slots := 0, locals := 74 }) (va_Pc [.ref (ad 0), .int q] (fun U => U.heap.size = sz ∧ va_P (dC, dI) vwCl (wM ad cL cZ cI S ro hd) U.heap ∧ va_K (dC, dI) vwCl (tyM cL cZ cI) U ∧ va_D (fun _ => True) (wM ad cL cZ cI S ro hd))) (va_Ql (fun r (u : SMr) => r = M_register S q ∧ u.1 = S) (xB (dC, dI) (wMr ad cL cZ cI) (tyM cL cZ cI) (va_A (wM ad cL cZ cI S ro hd) sz)) (va_A (wM ad cL cZ cI S ro hd) sz)) 0 0 (va_A (wM ad cL cZ cI S ro hd) sz) := by
  refine Met.ofW (cc := cX1_register) (maxL := 2) (ret := (some .long)) (by decide) rfl ?_
  intro p e s m args below meth c s₁ B hml hv
  obtain ⟨rfl, hsz, hP, hK, hD0⟩ := hv
  have hx := B.exec
  have hb := B.bytes
  have hr := B.returns
  have hts := atoms_spec (ws := wsX1_register) B.pre
  have hown : s.vm.findClass RX1 = some m.cls := findClass_of_methodNamed B.named
  have hlocks := B.notSynchronized
  have hin : ∀ w ∈ wsX10, w ∈ wsX1_register := fun _ h => List.mem_cons_of_mem _ (List.mem_append_right _ h)
  subst hsz
  have hD := hD0.self (sz := s.heap.size)
  generalize hAe : va_A (wM ad cL cZ cI S ro hd) s.heap.size = A at hD ⊢
  have hA : ∀ q : Nat, s.heap.size ≤ q → A q := fun q h => by rw [← hAe]; exact Or.inr h
  have hS : va_S A s.heap s.heap [] := va_S.rf
  have hl := lv_entry ([.ref (ad 0), .int q]) (n := 2) (Nat.le_of_ble_eq_true rfl)
  rw [lg_entry_eq]
  generalize (lg_sl ([.ref (ad 0), .int q]) ++ List.replicate (2 - (lg_sl ([.ref (ad 0), .int q])).length) Slot.unset).toArray = ls at hl ⊢
  have hl : lv_has ls 2 [(0, .ref (ad 0)), (1, .int q)] := hl
  refine lv_iload_n hx hb dX1_register_0 rfl (lv_at hl 1 rfl) ?_
  refine lv_if_lt (tgt := 10) hx hb dX1_register_1 (by decide) (fun c1 => ?_) (fun c1 => ?_)
  · skip
    refine lv_lconst (v := 0) hx hb dX1_register_10 (by decide) ?_
    refine lv_goto (tgt := 19) hx hb dX1_register_11 (by decide) ?_
    exact W.lret (v := (0 : Int64)) hx hb hr (fun t ht hW => ⟨⟨_, (S, ro, hd), rfl, ⟨(by simp only [M_register, if_pos c1] <;> rfl), (by simp only [M_register, if_pos c1] <;> rfl)⟩, by rw [ht]; exact hP, va_K.moved hW.alike hK, hD⟩, hS.F ht⟩) hS.2.2 dX1_register_19
  · skip
    refine lv_iload_n hx hb dX1_register_4 rfl (lv_at hl 1 rfl) ?_
    refine lv_bipush (v := 7) hx hb dX1_register_5 (by decide) ?_
    refine lv_icmp_le (tgt := 14) hx hb dX1_register_7 (by decide) (fun c7 => ?_) (fun c7 => ?_)
    · skip
      refine lv_aload_n hx hb dX1_register_14 rfl (lv_at hl 0 rfl) ?_
      refine lv_iload_n hx hb dX1_register_15 rfl (lv_at hl 1 rfl) ?_
      refine xcall_l (va_runV (As := [.int q]) (rest := []) ⟨hx, hb, hml, hown, hts⟩ (c_X1_folded l dC dI ad cL cZ cI S ro hd s.heap.size q hd9 ) (cwV 1 hts gX1_register_X1_folded rfl rfl rfl (by decide +kernel) ⟨Nat.le_of_ble_eq_true rfl, Nat.le_of_ble_eq_true rfl⟩) (xpV_w [.int q] hK hP hD (va_recv hK hP (ci := 1) (q0 := 0) rfl rfl)) rfl rfl hl.1 rfl (lv_room (Nat.le_of_ble_eq_true rfl)) dX1_register_16 ⟨Nat.le_of_ble_eq_true rfl, Nat.le_of_ble_eq_true rfl⟩) hD hS hA (fun r u H locs hw hP hD hS => ?_)
      obtain ⟨u1, rw1, hd1⟩ := u
      obtain ⟨rfl, hu1, hh1⟩ := hw
      change hd1 = hd at hh1
      change u1 = S at hu1
      change va_P _ vwCl (wM ad cL cZ cI u1 rw1 hd1) _ at hP
      change va_D _ (wM ad cL cZ cI u1 rw1 hd1) at hD
      rw [hu1, hh1] at hP hD
      exact W.lret (v := (M_folded S q)) hx hb hr (fun t ht hW => ⟨⟨_, (S, rw1, hd), rfl, ⟨(by simp only [M_register, if_neg c1, if_pos c7] <;> rfl), (by simp only [M_register, if_neg c1, if_pos c7] <;> rfl)⟩, by rw [ht]; exact hP, va_K.moved hW.alike hK, hD⟩, hS.F ht⟩) hS.2.2 dX1_register_19
    · skip
      refine lv_lconst (v := 0) hx hb dX1_register_10 (by decide) ?_
      refine lv_goto (tgt := 19) hx hb dX1_register_11 (by decide) ?_
      exact W.lret (v := (0 : Int64)) hx hb hr (fun t ht hW => ⟨⟨_, (S, ro, hd), rfl, ⟨(by simp only [M_register, if_neg c1, if_neg c7] <;> rfl), (by simp only [M_register, if_neg c1, if_neg c7] <;> rfl)⟩, by rw [ht]; exact hP, va_K.moved hW.alike hK, hD⟩, hS.F ht⟩) hS.2.2 dX1_register_19
set_option maxHeartbeats 4000000 in
set_option maxRecDepth 100000 in
theorem c_X1_isMask (l : Launch)  (q : Int64) : Met l yX1_isMask wsX1_isMask ({ frames := 0, cells := 0, slots := 0, locals := 0 }) (va_Pc [.long q] (fun _ => True)) (vp_Si (fun r => r = M_isMask q)) 0 0 (fun _ => False) := by
  refine Met.ofW (cc := cX1_isMask) (maxL := 2) (ret := (some .boolean)) (by decide) rfl ?_
  intro p e s m args below meth c s₁ B hml hv
  obtain ⟨rfl, -⟩ := hv
  have hx := B.exec
  have hb := B.bytes
  have hr := B.returns
  have hts := atoms_spec (ws := wsX1_isMask) B.pre
  have hown : s.vm.findClass RX1 = some m.cls := findClass_of_methodNamed B.named
  have hlocks := B.notSynchronized
  have hl := lv_entry ([.long q]) (n := 2) (Nat.le_of_ble_eq_true rfl)
  rw [lg_entry_eq]
  generalize (lg_sl ([.long q]) ++ List.replicate (2 - (lg_sl ([.long q])).length) Slot.unset).toArray = ls at hl ⊢
  have hl : lv_has ls 2 [(0, .long q)] := hl
  refine lv_lload_n hx hb dX1_isMask_0 rfl (lv_at hl 0 rfl) ?_
  refine lv_lconst (v := 0) hx hb dX1_isMask_1 (by decide) ?_
  refine W.lcmp hx hb dX1_isMask_2 ?_
  refine lv_if_lt (tgt := 18) hx hb dX1_isMask_3 (by decide) (fun c3 => ?_) (fun c3 => ?_)
  · skip
    refine lv_iconst (v := 0) hx hb dX1_isMask_18 (by decide) ?_
    exact W.zret (v := (0 : Int32)) hx hb hr rfl (fun t ht hW => ⟨_, rfl, (by simp only [M_isMask, if_pos c3] <;> rfl), ht⟩) (fun _ h => by cases h) dX1_isMask_19
  · skip
    refine lv_lload_n hx hb dX1_isMask_6 rfl (lv_at hl 0 rfl) ?_
    refine lv_ldc2 (v := 255) hx hb hown (hts (.constantLong RX1 81 (255)) (by decide +kernel)) dX1_isMask_7 ?_
    refine W.lcmp hx hb dX1_isMask_10 ?_
    refine lv_if_gt (tgt := 18) hx hb dX1_isMask_11 (by decide) (fun c11 => ?_) (fun c11 => ?_)
    · skip
      refine lv_iconst (v := 0) hx hb dX1_isMask_18 (by decide) ?_
      exact W.zret (v := (0 : Int32)) hx hb hr rfl (fun t ht hW => ⟨_, rfl, (by simp only [M_isMask, if_neg c3, if_pos c11] <;> rfl), ht⟩) (fun _ h => by cases h) dX1_isMask_19
    · skip
      refine lv_iconst (v := 1) hx hb dX1_isMask_14 (by decide) ?_
      refine lv_goto (tgt := 19) hx hb dX1_isMask_15 (by decide) ?_
      exact W.zret (v := (1 : Int32)) hx hb hr rfl (fun t ht hW => ⟨_, rfl, (by simp only [M_isMask, if_neg c3, if_neg c11] <;> rfl), ht⟩) (fun _ h => by cases h) dX1_isMask_19
set_option maxHeartbeats 4000000 in
set_option maxRecDepth 100000 in
theorem c_X1_digest (l : Launch) (dC : Nat → ClassId) (dI : Nat → Nat → Nat) (ad : Nat → Nat) (cL cZ cI : ClassId) (S : SM) (ro hd : Nat → Int64) (sz : Nat) (mask : Int32) (hd9 : okD (m_dn S)) : Met l yX1_digest wsX1_digest ({ frames := 4, cells := 0, slots := 0, locals := 97 }) (va_Pc [.ref (ad 0), .int mask] (fun U => U.heap.size = sz ∧ va_P (dC, dI) vwCl (wM ad cL cZ cI S ro hd) U.heap ∧ va_K (dC, dI) vwCl (tyM cL cZ cI) U ∧ va_D (fun _ => True) (wM ad cL cZ cI S ro hd))) (va_Ql (fun r (u : SMr) => r = M_digest S mask ∧ u.1 = S) (xB (dC, dI) (wMr ad cL cZ cI) (tyM cL cZ cI) (va_A (wM ad cL cZ cI S ro hd) sz)) (va_A (wM ad cL cZ cI S ro hd) sz)) 0 0 (va_A (wM ad cL cZ cI S ro hd) sz) := by
  refine Met.ofW (cc := cX1_digest) (maxL := 2) (ret := (some .long)) (by decide) rfl ?_
  intro p e s m args below meth c s₁ B hml hv
  obtain ⟨rfl, hsz, hP, hK, hD0⟩ := hv
  have hx := B.exec
  have hb := B.bytes
  have hr := B.returns
  have hts := atoms_spec (ws := wsX1_digest) B.pre
  have hown : s.vm.findClass RX1 = some m.cls := findClass_of_methodNamed B.named
  have hlocks := B.notSynchronized
  have hin : ∀ w ∈ wsX10, w ∈ wsX1_digest := fun _ h => List.mem_cons_of_mem _ (List.mem_append_right _ h)
  subst hsz
  have hD := hD0.self (sz := s.heap.size)
  generalize hAe : va_A (wM ad cL cZ cI S ro hd) s.heap.size = A at hD ⊢
  have hA : ∀ q : Nat, s.heap.size ≤ q → A q := fun q h => by rw [← hAe]; exact Or.inr h
  have hS : va_S A s.heap s.heap [] := va_S.rf
  have hl := lv_entry ([.ref (ad 0), .int mask]) (n := 2) (Nat.le_of_ble_eq_true rfl)
  rw [lg_entry_eq]
  generalize (lg_sl ([.ref (ad 0), .int mask]) ++ List.replicate (2 - (lg_sl ([.ref (ad 0), .int mask])).length) Slot.unset).toArray = ls at hl ⊢
  have hl : lv_has ls 2 [(0, .ref (ad 0)), (1, .int mask)] := hl
  refine lv_iload_n hx hb dX1_digest_0 rfl (lv_at hl 1 rfl) ?_
  refine lv_i2l hx hb dX1_digest_1 rfl ?_
  refine vp_callSi (va_Run.run (va_runS (As := [.long mask.toInt64]) (rest := []) ⟨hx, hb, hml, hown, hts⟩ (c_X1_isMask l mask.toInt64 ) (va_cwS 1 hts gX1_digest_X1_isMask rfl rfl rfl (by decide +kernel) ⟨Nat.le_of_ble_eq_true rfl, Nat.le_of_ble_eq_true rfl⟩) (xpS_n _) rfl rfl hl.1 rfl (lv_room (Nat.le_of_ble_eq_true rfl)) dX1_digest_2 ⟨Nat.le_of_ble_eq_true rfl, Nat.le_of_ble_eq_true rfl⟩)) (fun r hr9 => ?_)
  subst hr9
  refine lv_if_eq (tgt := 16) hx hb dX1_digest_5 (by decide) (fun c5 => ?_) (fun c5 => ?_)
  · skip
    refine lv_lconst (v := 0) hx hb dX1_digest_16 (by decide) ?_
    exact W.lret (v := (0 : Int64)) hx hb hr (fun t ht hW => ⟨⟨_, (S, ro, hd), rfl, ⟨(by simp only [M_digest, if_pos c5] <;> rfl), (by simp only [M_digest, if_pos c5] <;> rfl)⟩, by rw [ht]; exact hP, va_K.moved hW.alike hK, hD⟩, hS.F ht⟩) hS.2.2 dX1_digest_17
  · skip
    refine lv_aload_n hx hb dX1_digest_8 rfl (lv_at hl 0 rfl) ?_
    refine lv_iload_n hx hb dX1_digest_9 rfl (lv_at hl 1 rfl) ?_
    refine xcall_l (va_runV (As := [.int mask]) (rest := []) ⟨hx, hb, hml, hown, hts⟩ (c_X1_digestOf l dC dI ad cL cZ cI S ro hd s.heap.size mask hd9 ) (cwV 1 hts gX1_digest_X1_digestOf rfl rfl rfl (by decide +kernel) ⟨Nat.le_of_ble_eq_true rfl, Nat.le_of_ble_eq_true rfl⟩) (xpV_w [.int mask] hK hP hD (va_recv hK hP (ci := 1) (q0 := 0) rfl rfl)) rfl rfl hl.1 rfl (lv_room (Nat.le_of_ble_eq_true rfl)) dX1_digest_10 ⟨Nat.le_of_ble_eq_true rfl, Nat.le_of_ble_eq_true rfl⟩) hD hS hA (fun r u H locs hw hP hD hS => ?_)
    obtain ⟨u1, rw1, hd1⟩ := u
    obtain ⟨rfl, hu1⟩ := hw
    change u1 = S at hu1
    change va_P _ vwCl (wM ad cL cZ cI u1 rw1 hd1) _ at hP
    change va_D _ (wM ad cL cZ cI u1 rw1 hd1) at hD
    rw [hu1] at hP hD
    refine lv_goto (tgt := 17) hx hb dX1_digest_13 (by decide) ?_
    exact W.lret (v := (M_digestOf S mask)) hx hb hr (fun t ht hW => ⟨⟨_, (S, rw1, hd1), rfl, ⟨(by simp only [M_digest, if_neg c5] <;> rfl), (by simp only [M_digest, if_neg c5] <;> rfl)⟩, by rw [ht]; exact hP, va_K.moved hW.alike hK, hD⟩, hS.F ht⟩) hS.2.2 dX1_digest_17
set_option maxHeartbeats 4000000 in
set_option maxRecDepth 100000 in
theorem c_X1_hasKey (l : Launch) (dC : Nat → ClassId) (dI : Nat → Nat → Nat) (ad : Nat → Nat) (cL cZ cI : ClassId) (S : SM) (ro hd : Nat → Int64) (q : Int32)  : Met l yX1_hasKey wsX1_hasKey ({ frames := 0, cells := 0, slots := 0, locals := 0 }) (va_Pc [.ref (ad 0), .int q] (fun U => va_P (dC, dI) vwCl (wM ad cL cZ cI S ro hd) U.heap ∧ va_K (dC, dI) vwCl (tyM cL cZ cI) U)) (vp_Si (fun r => r = M_hasKey S q)) 0 0 (fun _ => False) := by
  refine Met.ofW (cc := cX1_hasKey) (maxL := 2) (ret := (some .boolean)) (by decide) rfl ?_
  intro p e s m args below meth c s₁ B hml hv
  obtain ⟨rfl, hP, hK⟩ := hv
  have hx := B.exec
  have hb := B.bytes
  have hr := B.returns
  have hts := atoms_spec (ws := wsX1_hasKey) B.pre
  have hown : s.vm.findClass RX1 = some m.cls := findClass_of_methodNamed B.named
  have hlocks := B.notSynchronized
  have hin : ∀ w ∈ wsX10, w ∈ wsX1_hasKey := fun _ h => List.mem_cons_of_mem _ (List.mem_append_right _ h)
  have hl := lv_entry ([.ref (ad 0), .int q]) (n := 2) (Nat.le_of_ble_eq_true rfl)
  rw [lg_entry_eq]
  generalize (lg_sl ([.ref (ad 0), .int q]) ++ List.replicate (2 - (lg_sl ([.ref (ad 0), .int q])).length) Slot.unset).toArray = ls at hl ⊢
  have hl : lv_has ls 2 [(0, .ref (ad 0)), (1, .int q)] := hl
  refine lv_iload_n hx hb dX1_hasKey_0 rfl (lv_at hl 1 rfl) ?_
  refine lv_if_lt (tgt := 23) hx hb dX1_hasKey_1 (by decide) (fun c1 => ?_) (fun c1 => ?_)
  · skip
    refine lv_iconst (v := 0) hx hb dX1_hasKey_23 (by decide) ?_
    exact W.zret (v := (0 : Int32)) hx hb hr rfl (fun t ht hW => ⟨_, rfl, (by simp only [M_hasKey, if_pos c1] <;> rfl), ht⟩) (fun _ h => by cases h) dX1_hasKey_24
  · skip
    refine lv_iload_n hx hb dX1_hasKey_4 rfl (lv_at hl 1 rfl) ?_
    refine lv_bipush (v := 6) hx hb dX1_hasKey_5 (by decide) ?_
    refine lv_icmp_ge (tgt := 23) hx hb dX1_hasKey_7 (by decide) (fun c7 => ?_) (fun c7 => ?_)
    · skip
      refine lv_iconst (v := 0) hx hb dX1_hasKey_23 (by decide) ?_
      exact W.zret (v := (0 : Int32)) hx hb hr rfl (fun t ht hW => ⟨_, rfl, (by simp only [M_hasKey, if_neg c1, if_pos c7] <;> rfl), ht⟩) (fun _ h => by cases h) dX1_hasKey_24
    · skip
      have hq : vp_in q 6 := xin_of (M := 6) rfl (by decide) c1 c7
      refine lv_aload_n hx hb dX1_hasKey_10 rfl (lv_at hl 0 rfl) ?_
      refine g_m_akt hx hb hts hin hown hK hP (hts (.fieldLink RX1 17 RX1 "keyThere" "[Z") (by decide +kernel)) dX1_hasKey_11 ?_
      refine lv_iload_n hx hb dX1_hasKey_14 rfl (lv_at hl 1 rfl) ?_
      refine l_m_kt hx hb hK hP (xat_self hq) dX1_hasKey_15 ?_
      refine lv_if_eq (tgt := 23) hx hb dX1_hasKey_16 (by decide) (fun c16 => ?_) (fun c16 => ?_)
      · skip
        refine lv_iconst (v := 0) hx hb dX1_hasKey_23 (by decide) ?_
        exact W.zret (v := (0 : Int32)) hx hb hr rfl (fun t ht hW => ⟨_, rfl, (by simp only [M_hasKey, if_neg c1, if_neg c7, if_pos c16] <;> rfl), ht⟩) (fun _ h => by cases h) dX1_hasKey_24
      · skip
        refine lv_iconst (v := 1) hx hb dX1_hasKey_19 (by decide) ?_
        refine lv_goto (tgt := 24) hx hb dX1_hasKey_20 (by decide) ?_
        exact W.zret (v := (1 : Int32)) hx hb hr rfl (fun t ht hW => ⟨_, rfl, (by simp only [M_hasKey, if_neg c1, if_neg c7, if_neg c16] <;> rfl), ht⟩) (fun _ h => by cases h) dX1_hasKey_24
set_option maxHeartbeats 4000000 in
set_option maxRecDepth 100000 in
theorem c_X1_hasSession (l : Launch) (dC : Nat → ClassId) (dI : Nat → Nat → Nat) (ad : Nat → Nat) (cL cZ cI : ClassId) (S : SM) (ro hd : Nat → Int64) (q : Int32)  : Met l yX1_hasSession wsX1_hasSession ({ frames := 0, cells := 0, slots := 0, locals := 0 }) (va_Pc [.ref (ad 0), .int q] (fun U => va_P (dC, dI) vwCl (wM ad cL cZ cI S ro hd) U.heap ∧ va_K (dC, dI) vwCl (tyM cL cZ cI) U)) (vp_Si (fun r => r = M_hasSession S q)) 0 0 (fun _ => False) := by
  refine Met.ofW (cc := cX1_hasSession) (maxL := 2) (ret := (some .boolean)) (by decide) rfl ?_
  intro p e s m args below meth c s₁ B hml hv
  obtain ⟨rfl, hP, hK⟩ := hv
  have hx := B.exec
  have hb := B.bytes
  have hr := B.returns
  have hts := atoms_spec (ws := wsX1_hasSession) B.pre
  have hown : s.vm.findClass RX1 = some m.cls := findClass_of_methodNamed B.named
  have hlocks := B.notSynchronized
  have hin : ∀ w ∈ wsX10, w ∈ wsX1_hasSession := fun _ h => List.mem_cons_of_mem _ (List.mem_append_right _ h)
  have hl := lv_entry ([.ref (ad 0), .int q]) (n := 2) (Nat.le_of_ble_eq_true rfl)
  rw [lg_entry_eq]
  generalize (lg_sl ([.ref (ad 0), .int q]) ++ List.replicate (2 - (lg_sl ([.ref (ad 0), .int q])).length) Slot.unset).toArray = ls at hl ⊢
  have hl : lv_has ls 2 [(0, .ref (ad 0)), (1, .int q)] := hl
  refine lv_iload_n hx hb dX1_hasSession_0 rfl (lv_at hl 1 rfl) ?_
  refine lv_if_lt (tgt := 22) hx hb dX1_hasSession_1 (by decide) (fun c1 => ?_) (fun c1 => ?_)
  · skip
    refine lv_iconst (v := 0) hx hb dX1_hasSession_22 (by decide) ?_
    exact W.zret (v := (0 : Int32)) hx hb hr rfl (fun t ht hW => ⟨_, rfl, (by simp only [M_hasSession, if_pos c1] <;> rfl), ht⟩) (fun _ h => by cases h) dX1_hasSession_23
  · skip
    refine lv_iload_n hx hb dX1_hasSession_4 rfl (lv_at hl 1 rfl) ?_
    refine lv_iconst (v := 4) hx hb dX1_hasSession_5 (by decide) ?_
    refine lv_icmp_ge (tgt := 22) hx hb dX1_hasSession_6 (by decide) (fun c6 => ?_) (fun c6 => ?_)
    · skip
      refine lv_iconst (v := 0) hx hb dX1_hasSession_22 (by decide) ?_
      exact W.zret (v := (0 : Int32)) hx hb hr rfl (fun t ht hW => ⟨_, rfl, (by simp only [M_hasSession, if_neg c1, if_pos c6] <;> rfl), ht⟩) (fun _ h => by cases h) dX1_hasSession_23
    · skip
      have hq : vp_in q 4 := xin_of (M := 4) rfl (by decide) c1 c6
      refine lv_aload_n hx hb dX1_hasSession_9 rfl (lv_at hl 0 rfl) ?_
      refine g_m_ast hx hb hts hin hown hK hP (hts (.fieldLink RX1 27 RX1 "sessionThere" "[Z") (by decide +kernel)) dX1_hasSession_10 ?_
      refine lv_iload_n hx hb dX1_hasSession_13 rfl (lv_at hl 1 rfl) ?_
      refine l_m_st hx hb hK hP (xat_self hq) dX1_hasSession_14 ?_
      refine lv_if_eq (tgt := 22) hx hb dX1_hasSession_15 (by decide) (fun c15 => ?_) (fun c15 => ?_)
      · skip
        refine lv_iconst (v := 0) hx hb dX1_hasSession_22 (by decide) ?_
        exact W.zret (v := (0 : Int32)) hx hb hr rfl (fun t ht hW => ⟨_, rfl, (by simp only [M_hasSession, if_neg c1, if_neg c6, if_pos c15] <;> rfl), ht⟩) (fun _ h => by cases h) dX1_hasSession_23
      · skip
        refine lv_iconst (v := 1) hx hb dX1_hasSession_18 (by decide) ?_
        refine lv_goto (tgt := 23) hx hb dX1_hasSession_19 (by decide) ?_
        exact W.zret (v := (1 : Int32)) hx hb hr rfl (fun t ht hW => ⟨_, rfl, (by simp only [M_hasSession, if_neg c1, if_neg c6, if_neg c15] <;> rfl), ht⟩) (fun _ h => by cases h) dX1_hasSession_23
set_option maxHeartbeats 4000000 in
set_option maxRecDepth 100000 in
theorem c_X1_hasBlob (l : Launch) (dC : Nat → ClassId) (dI : Nat → Nat → Nat) (ad : Nat → Nat) (cL cZ cI : ClassId) (S : SM) (ro hd : Nat → Int64) (q : Int32)  : Met l yX1_hasBlob wsX1_hasBlob ({ frames := 0, cells := 0, slots := 0, locals := 0 }) (va_Pc [.ref (ad 0), .int q] (fun U => va_P (dC, dI) vwCl (wM ad cL cZ cI S ro hd) U.heap ∧ va_K (dC, dI) vwCl (tyM cL cZ cI) U)) (vp_Si (fun r => r = M_hasBlob S q)) 0 0 (fun _ => False) := by
  refine Met.ofW (cc := cX1_hasBlob) (maxL := 2) (ret := (some .boolean)) (by decide) rfl ?_
  intro p e s m args below meth c s₁ B hml hv
  obtain ⟨rfl, hP, hK⟩ := hv
  have hx := B.exec
  have hb := B.bytes
  have hr := B.returns
  have hts := atoms_spec (ws := wsX1_hasBlob) B.pre
  have hown : s.vm.findClass RX1 = some m.cls := findClass_of_methodNamed B.named
  have hlocks := B.notSynchronized
  have hin : ∀ w ∈ wsX10, w ∈ wsX1_hasBlob := fun _ h => List.mem_cons_of_mem _ (List.mem_append_right _ h)
  have hl := lv_entry ([.ref (ad 0), .int q]) (n := 2) (Nat.le_of_ble_eq_true rfl)
  rw [lg_entry_eq]
  generalize (lg_sl ([.ref (ad 0), .int q]) ++ List.replicate (2 - (lg_sl ([.ref (ad 0), .int q])).length) Slot.unset).toArray = ls at hl ⊢
  have hl : lv_has ls 2 [(0, .ref (ad 0)), (1, .int q)] := hl
  refine lv_iload_n hx hb dX1_hasBlob_0 rfl (lv_at hl 1 rfl) ?_
  refine lv_if_lt (tgt := 16) hx hb dX1_hasBlob_1 (by decide) (fun c1 => ?_) (fun c1 => ?_)
  · skip
    refine lv_iconst (v := 0) hx hb dX1_hasBlob_16 (by decide) ?_
    exact W.zret (v := (0 : Int32)) hx hb hr rfl (fun t ht hW => ⟨_, rfl, (by simp only [M_hasBlob, if_pos c1] <;> rfl), ht⟩) (fun _ h => by cases h) dX1_hasBlob_17
  · skip
    refine lv_iload_n hx hb dX1_hasBlob_4 rfl (lv_at hl 1 rfl) ?_
    refine lv_aload_n hx hb dX1_hasBlob_5 rfl (lv_at hl 0 rfl) ?_
    refine g_m_bc hx hb hts hin hown hK hP (hts (.fieldLink RX1 90 RX1 "blobs" "I") (by decide +kernel)) dX1_hasBlob_6 ?_
    refine lv_icmp_ge (tgt := 16) hx hb dX1_hasBlob_9 (by decide) (fun c9 => ?_) (fun c9 => ?_)
    · skip
      refine lv_iconst (v := 0) hx hb dX1_hasBlob_16 (by decide) ?_
      exact W.zret (v := (0 : Int32)) hx hb hr rfl (fun t ht hW => ⟨_, rfl, (by simp only [M_hasBlob, if_neg c1, if_pos c9] <;> rfl), ht⟩) (fun _ h => by cases h) dX1_hasBlob_17
    · skip
      refine lv_iconst (v := 1) hx hb dX1_hasBlob_12 (by decide) ?_
      refine lv_goto (tgt := 17) hx hb dX1_hasBlob_13 (by decide) ?_
      exact W.zret (v := (1 : Int32)) hx hb hr rfl (fun t ht hW => ⟨_, rfl, (by simp only [M_hasBlob, if_neg c1, if_neg c9] <;> rfl), ht⟩) (fun _ h => by cases h) dX1_hasBlob_17
set_option maxHeartbeats 4000000 in
set_option maxRecDepth 100000 in
theorem lp_X1_create_2 {p : Program} {l : Launch} {e : Env} {s : State} {m : MethodId} {args : Array Value} {below : List Frame} {meth : Method} {c : Code} {Q : State → Prop} {dC : Nat → ClassId} {dI : Nat → Nat → Nat} {ad : Nat → Nat} {cL cZ cI : ClassId} {S : SM} {ro hd : Nat → Int64} {A : Nat → Prop} {H0 : Heap} (se : Int64) (hx : p.tables.exec = Jvm.exec) (hb : c.code = cX1_create) (hml : c.maxLocals = 4) (hown : s.vm.findClass RX1 = some m.cls) (hts : ∀ w ∈ wsX1_create, w.before args s = true) (hK : va_K (dC, dI) vwCl (tyM cL cZ cI) s) (hA : ∀ q, H0.size ≤ q → A q)
    (kk : ∀ (H : Heap) (locs : List Loc) (K : Nat) (ls : Array Slot), K = lfK (m_kt S) 0 6 → va_P (dC, dI) vwCl (wM ad cL cZ cI S ro hd) H → va_D A (wM ad cL cZ cI S ro hd) → va_S A H0 H locs → lv_has ls 4 [(3, .int (nI K)), (0, .ref (ad 0)), (1, .long se)] → W p l e (headSpec wsX1_create ({ frames := 0, cells := 0, slots := 0, locals := 0 })).room s m args below meth c H locs 0 0 Q (F0 m 23 ls [])) :
    ∀ (n i : Nat) (H : Heap) (locs : List Loc) (ls : Array Slot), i ≤ 6 → 6 < i + n → lfK (m_kt S) i (6 - i) = lfK (m_kt S) 0 6 → va_P (dC, dI) vwCl (wM ad cL cZ cI S ro hd) H → va_D A (wM ad cL cZ cI S ro hd) → va_S A H0 H locs → lv_has ls 4 [(3, .int (nI i)), (0, .ref (ad 0)), (1, .long se)] → W p l e (headSpec wsX1_create ({ frames := 0, cells := 0, slots := 0, locals := 0 })).room s m args below meth c H locs 0 0 Q (F0 m 2 ls []) := by
  have hin : ∀ w ∈ wsX10, w ∈ wsX1_create := fun _ h => List.mem_cons_of_mem _ (List.mem_append_right _ h)
  intro n
  induction n with
  | zero =>
    intro i H locs ls hi hn9
    omega
  | succ n ih =>
    intro i H locs ls hi hn9 he hP hD hS hl
    refine lv_iload_n hx hb dX1_create_2 rfl (lv_at hl 0 rfl) ?_
    refine lv_bipush (v := 6) hx hb dX1_create_3 (by decide) ?_
    refine lv_icmp_ge (tgt := 23) hx hb dX1_create_5 (by decide) (fun c5 => ?_) (fun c5 => ?_)
    · skip
      have hi8 := xge (n := 6) (by decide) hi c5
      subst hi8
      exact kk _ _ _ ls he hP hD hS (lv_sub hl [0, 1, 2] rfl)
    · skip
      have hlt := xlt (n := 6) (by decide) hi c5
      refine lv_aload_n hx hb dX1_create_8 rfl (lv_at hl 1 rfl) ?_
      refine g_m_akt hx hb hts hin hown hK hP (hts (.fieldLink RX1 17 RX1 "keyThere" "[Z") (by decide +kernel)) dX1_create_9 ?_
      refine lv_iload_n hx hb dX1_create_12 rfl (lv_at hl 0 rfl) ?_
      refine l_m_kt hx hb hK hP (xat_nI hlt (by decide)) dX1_create_13 ?_
      refine lv_if_eq (tgt := 23) hx hb dX1_create_14 (by decide) (fun c14 => ?_) (fun c14 => ?_)
      · skip
        rw [lfK_hit hlt c14] at he
        exact kk _ _ _ ls he hP hD hS (lv_sub hl [0, 1, 2] rfl)
      · skip
        rw [lfK_miss hlt c14] at he
        refine lv_iinc (v := (nI (i + 1))) (lv' := [(3, .int (nI (i + 1))), (0, .ref (ad 0)), (1, .long se)]) hx hb dX1_create_17 hl (k := 0) rfl (nI_1 i) (by decide) rfl (fun ls hl => ?_)
        refine lv_goto (tgt := 2) hx hb dX1_create_20 (by decide) ?_
        exact ih (i + 1) _ _ ls (by omega) (by omega) he hP hD hS (lv_sub hl [0, 1, 2] rfl)
set_option maxHeartbeats 4000000 in
set_option maxRecDepth 100000 in
theorem c_X1_create (l : Launch) (dC : Nat → ClassId) (dI : Nat → Nat → Nat) (ad : Nat → Nat) (cL cZ cI : ClassId) (S : SM) (ro hd : Nat → Int64) (sz : Nat) (se : Int64)  : Met l yX1_create wsX1_create ({ frames := 0, cells := 0, slots := 0, locals := 0 }) (va_Pc [.ref (ad 0), .long se] (fun U => U.heap.size = sz ∧ va_P (dC, dI) vwCl (wM ad cL cZ cI S ro hd) U.heap ∧ va_K (dC, dI) vwCl (tyM cL cZ cI) U ∧ va_D (fun _ => True) (wM ad cL cZ cI S ro hd))) (va_Qi (fun r (u : SMr) => r = (M_create S se).1 ∧ u.1 = (M_create S se).2) (xB (dC, dI) (wMr ad cL cZ cI) (tyM cL cZ cI) (va_A (wM ad cL cZ cI S ro hd) sz)) (va_A (wM ad cL cZ cI S ro hd) sz)) 0 0 (va_A (wM ad cL cZ cI S ro hd) sz) := by
  refine Met.ofW (cc := cX1_create) (maxL := 4) (ret := (some .int)) (by decide) rfl ?_
  intro p e s m args below meth c s₁ B hml hv
  obtain ⟨rfl, hsz, hP, hK, hD0⟩ := hv
  have hx := B.exec
  have hb := B.bytes
  have hr := B.returns
  have hts := atoms_spec (ws := wsX1_create) B.pre
  have hown : s.vm.findClass RX1 = some m.cls := findClass_of_methodNamed B.named
  have hlocks := B.notSynchronized
  have hin : ∀ w ∈ wsX10, w ∈ wsX1_create := fun _ h => List.mem_cons_of_mem _ (List.mem_append_right _ h)
  subst hsz
  have hD := hD0.self (sz := s.heap.size)
  generalize hAe : va_A (wM ad cL cZ cI S ro hd) s.heap.size = A at hD ⊢
  have hA : ∀ q : Nat, s.heap.size ≤ q → A q := fun q h => by rw [← hAe]; exact Or.inr h
  have hS : va_S A s.heap s.heap [] := va_S.rf
  have hl := lv_entry ([.ref (ad 0), .long se]) (n := 4) (Nat.le_of_ble_eq_true rfl)
  rw [lg_entry_eq]
  generalize (lg_sl ([.ref (ad 0), .long se]) ++ List.replicate (4 - (lg_sl ([.ref (ad 0), .long se])).length) Slot.unset).toArray = ls at hl ⊢
  have hl : lv_has ls 4 [(0, .ref (ad 0)), (1, .long se)] := hl
  refine lv_iconst (v := 0) hx hb dX1_create_0 (by decide) ?_
  refine lv_istore_n (lv' := [(3, .int (0 : Int32)), (0, .ref (ad 0)), (1, .long se)]) hx hb dX1_create_1 rfl hl (by decide) rfl (fun ls hl => ?_)
  refine lp_X1_create_2 se hx hb hml hown hts hK hA (fun H locs K ls hKe hP hD hS hl => ?_) 7 0 _ _ ls (by decide) (by decide) rfl hP hD hS (lv_sub hl [0, 1, 2] rfl)
  subst hKe
  refine lv_iload_n hx hb dX1_create_23 rfl (lv_at hl 0 rfl) ?_
  refine lv_bipush (v := 6) hx hb dX1_create_24 (by decide) ?_
  refine lv_icmp_ne (tgt := 32) hx hb dX1_create_26 (by decide) (fun c26 => ?_) (fun c26 => ?_)
  · skip
    have hq := lfK_lt (n := 6) (by decide) c26
    refine lv_aload_n hx hb dX1_create_32 rfl (lv_at hl 1 rfl) ?_
    refine lv_dup hx hb dX1_create_33 rfl ?_
    refine g_m_dr hx hb hts hin hown hK hP (hts (.fieldLink RX1 93 RX1 "drawn" "J") (by decide +kernel)) dX1_create_34 ?_
    refine lv_lconst (v := 1) hx hb dX1_create_37 (by decide) ?_
    refine lv_ladd hx hb dX1_create_38 ?_
    refine p_m_dr hx hb hts hin hown hK hP hD hS (hts (.fieldLink RX1 93 RX1 "drawn" "J") (by decide +kernel)) dX1_create_39 (fun H locs hP hD hS => ?_)
    refine lv_aload_n hx hb dX1_create_42 rfl (lv_at hl 1 rfl) ?_
    refine g_m_akt hx hb hts hin hown hK hP (hts (.fieldLink RX1 17 RX1 "keyThere" "[Z") (by decide +kernel)) dX1_create_43 ?_
    refine lv_iload_n hx hb dX1_create_46 rfl (lv_at hl 0 rfl) ?_
    refine lv_iconst (v := 1) hx hb dX1_create_47 (by decide) ?_
    refine s_m_kt hx hb hK hP hD hS rfl (xat_nI hq (by decide)) dX1_create_48 (fun H locs hP hD hS => ?_)
    refine lv_aload_n hx hb dX1_create_49 rfl (lv_at hl 1 rfl) ?_
    refine g_m_aks hx hb hts hin hown hK hP (hts (.fieldLink RX1 21 RX1 "keySecret" "[J") (by decide +kernel)) dX1_create_50 ?_
    refine lv_iload_n hx hb dX1_create_53 rfl (lv_at hl 0 rfl) ?_
    refine lv_lload_n hx hb dX1_create_54 rfl (lv_at hl 2 rfl) ?_
    refine s_m_ks hx hb hK hP hD hS (xat_nI hq (by decide)) dX1_create_55 (fun H locs hP hD hS => ?_)
    refine lv_aload_n hx hb dX1_create_56 rfl (lv_at hl 1 rfl) ?_
    refine g_m_akd hx hb hts hin hown hK hP (hts (.fieldLink RX1 24 RX1 "keyDrawn" "[J") (by decide +kernel)) dX1_create_57 ?_
    refine lv_iload_n hx hb dX1_create_60 rfl (lv_at hl 0 rfl) ?_
    refine lv_aload_n hx hb dX1_create_61 rfl (lv_at hl 1 rfl) ?_
    refine g_m_dr hx hb hts hin hown hK hP (hts (.fieldLink RX1 93 RX1 "drawn" "J") (by decide +kernel)) dX1_create_62 ?_
    refine s_m_kd hx hb hK hP hD hS (xat_nI hq (by decide)) dX1_create_65 (fun H locs hP hD hS => ?_)
    have hP : va_P (dC, dI) vwCl (wM ad cL cZ cI (M_made S (lfK (m_kt S) 0 6) se) ro hd) H := hP
    have hD : va_D A (wM ad cL cZ cI (M_made S (lfK (m_kt S) 0 6) se) ro hd) := hD
    refine lv_iload_n hx hb dX1_create_66 rfl (lv_at hl 0 rfl) ?_
    exact W.iret (v := (nI (lfK (m_kt S) 0 6))) hx hb hr (fun t ht hW => ⟨⟨_, ((M_made S (lfK (m_kt S) 0 6) se), ro, hd), rfl, ⟨(by simp only [M_create, if_neg c26] <;> rfl), (by simp only [M_create, if_neg c26] <;> rfl)⟩, by rw [ht]; exact hP, va_K.moved hW.alike hK, hD⟩, hS.F ht⟩) hS.2.2 dX1_create_67
  · skip
    refine lv_bipush (v := -5) hx hb dX1_create_29 (by decide) ?_
    exact W.iret (v := (-5 : Int32)) hx hb hr (fun t ht hW => ⟨⟨_, (S, ro, hd), rfl, ⟨(by simp only [M_create, if_pos c26] <;> rfl), (by simp only [M_create, if_pos c26] <;> rfl)⟩, by rw [ht]; exact hP, va_K.moved hW.alike hK, hD⟩, hS.F ht⟩) hS.2.2 dX1_create_31
set_option maxHeartbeats 4000000 in
set_option maxRecDepth 100000 in
theorem lp_X1_begin_2 {p : Program} {l : Launch} {e : Env} {s : State} {m : MethodId} {args : Array Value} {below : List Frame} {meth : Method} {c : Code} {Q : State → Prop} {dC : Nat → ClassId} {dI : Nat → Nat → Nat} {ad : Nat → Nat} {cL cZ cI : ClassId} {S : SM} {ro hd : Nat → Int64} {A : Nat → Prop} {H0 : Heap} (no : Int64) (hx : p.tables.exec = Jvm.exec) (hb : c.code = cX1_begin) (hml : c.maxLocals = 4) (hown : s.vm.findClass RX1 = some m.cls) (hts : ∀ w ∈ wsX1_begin, w.before args s = true) (hK : va_K (dC, dI) vwCl (tyM cL cZ cI) s) (hA : ∀ q, H0.size ≤ q → A q)
    (kk : ∀ (H : Heap) (locs : List Loc) (K : Nat) (ls : Array Slot), K = lfK (m_st S) 0 4 → va_P (dC, dI) vwCl (wM ad cL cZ cI S ro hd) H → va_D A (wM ad cL cZ cI S ro hd) → va_S A H0 H locs → lv_has ls 4 [(3, .int (nI K)), (0, .ref (ad 0)), (1, .long no)] → W p l e (headSpec wsX1_begin ({ frames := 0, cells := 0, slots := 0, locals := 0 })).room s m args below meth c H locs 0 0 Q (F0 m 22 ls [])) :
    ∀ (n i : Nat) (H : Heap) (locs : List Loc) (ls : Array Slot), i ≤ 4 → 4 < i + n → lfK (m_st S) i (4 - i) = lfK (m_st S) 0 4 → va_P (dC, dI) vwCl (wM ad cL cZ cI S ro hd) H → va_D A (wM ad cL cZ cI S ro hd) → va_S A H0 H locs → lv_has ls 4 [(3, .int (nI i)), (0, .ref (ad 0)), (1, .long no)] → W p l e (headSpec wsX1_begin ({ frames := 0, cells := 0, slots := 0, locals := 0 })).room s m args below meth c H locs 0 0 Q (F0 m 2 ls []) := by
  have hin : ∀ w ∈ wsX10, w ∈ wsX1_begin := fun _ h => List.mem_cons_of_mem _ (List.mem_append_right _ h)
  intro n
  induction n with
  | zero =>
    intro i H locs ls hi hn9
    omega
  | succ n ih =>
    intro i H locs ls hi hn9 he hP hD hS hl
    refine lv_iload_n hx hb dX1_begin_2 rfl (lv_at hl 0 rfl) ?_
    refine lv_iconst (v := 4) hx hb dX1_begin_3 (by decide) ?_
    refine lv_icmp_ge (tgt := 22) hx hb dX1_begin_4 (by decide) (fun c4 => ?_) (fun c4 => ?_)
    · skip
      have hi8 := xge (n := 4) (by decide) hi c4
      subst hi8
      exact kk _ _ _ ls he hP hD hS (lv_sub hl [0, 1, 2] rfl)
    · skip
      have hlt := xlt (n := 4) (by decide) hi c4
      refine lv_aload_n hx hb dX1_begin_7 rfl (lv_at hl 1 rfl) ?_
      refine g_m_ast hx hb hts hin hown hK hP (hts (.fieldLink RX1 27 RX1 "sessionThere" "[Z") (by decide +kernel)) dX1_begin_8 ?_
      refine lv_iload_n hx hb dX1_begin_11 rfl (lv_at hl 0 rfl) ?_
      refine l_m_st hx hb hK hP (xat_nI hlt (by decide)) dX1_begin_12 ?_
      refine lv_if_eq (tgt := 22) hx hb dX1_begin_13 (by decide) (fun c13 => ?_) (fun c13 => ?_)
      · skip
        rw [lfK_hit hlt c13] at he
        exact kk _ _ _ ls he hP hD hS (lv_sub hl [0, 1, 2] rfl)
      · skip
        rw [lfK_miss hlt c13] at he
        refine lv_iinc (v := (nI (i + 1))) (lv' := [(3, .int (nI (i + 1))), (0, .ref (ad 0)), (1, .long no)]) hx hb dX1_begin_16 hl (k := 0) rfl (nI_1 i) (by decide) rfl (fun ls hl => ?_)
        refine lv_goto (tgt := 2) hx hb dX1_begin_19 (by decide) ?_
        exact ih (i + 1) _ _ ls (by omega) (by omega) he hP hD hS (lv_sub hl [0, 1, 2] rfl)
set_option maxHeartbeats 4000000 in
set_option maxRecDepth 100000 in
theorem c_X1_begin (l : Launch) (dC : Nat → ClassId) (dI : Nat → Nat → Nat) (ad : Nat → Nat) (cL cZ cI : ClassId) (S : SM) (ro hd : Nat → Int64) (sz : Nat) (no : Int64)  : Met l yX1_begin wsX1_begin ({ frames := 0, cells := 0, slots := 0, locals := 0 }) (va_Pc [.ref (ad 0), .long no] (fun U => U.heap.size = sz ∧ va_P (dC, dI) vwCl (wM ad cL cZ cI S ro hd) U.heap ∧ va_K (dC, dI) vwCl (tyM cL cZ cI) U ∧ va_D (fun _ => True) (wM ad cL cZ cI S ro hd))) (va_Qi (fun r (u : SMr) => r = (M_begin S no).1 ∧ u.1 = (M_begin S no).2) (xB (dC, dI) (wMr ad cL cZ cI) (tyM cL cZ cI) (va_A (wM ad cL cZ cI S ro hd) sz)) (va_A (wM ad cL cZ cI S ro hd) sz)) 0 0 (va_A (wM ad cL cZ cI S ro hd) sz) := by
  refine Met.ofW (cc := cX1_begin) (maxL := 4) (ret := (some .int)) (by decide) rfl ?_
  intro p e s m args below meth c s₁ B hml hv
  obtain ⟨rfl, hsz, hP, hK, hD0⟩ := hv
  have hx := B.exec
  have hb := B.bytes
  have hr := B.returns
  have hts := atoms_spec (ws := wsX1_begin) B.pre
  have hown : s.vm.findClass RX1 = some m.cls := findClass_of_methodNamed B.named
  have hlocks := B.notSynchronized
  have hin : ∀ w ∈ wsX10, w ∈ wsX1_begin := fun _ h => List.mem_cons_of_mem _ (List.mem_append_right _ h)
  subst hsz
  have hD := hD0.self (sz := s.heap.size)
  generalize hAe : va_A (wM ad cL cZ cI S ro hd) s.heap.size = A at hD ⊢
  have hA : ∀ q : Nat, s.heap.size ≤ q → A q := fun q h => by rw [← hAe]; exact Or.inr h
  have hS : va_S A s.heap s.heap [] := va_S.rf
  have hl := lv_entry ([.ref (ad 0), .long no]) (n := 4) (Nat.le_of_ble_eq_true rfl)
  rw [lg_entry_eq]
  generalize (lg_sl ([.ref (ad 0), .long no]) ++ List.replicate (4 - (lg_sl ([.ref (ad 0), .long no])).length) Slot.unset).toArray = ls at hl ⊢
  have hl : lv_has ls 4 [(0, .ref (ad 0)), (1, .long no)] := hl
  refine lv_iconst (v := 0) hx hb dX1_begin_0 (by decide) ?_
  refine lv_istore_n (lv' := [(3, .int (0 : Int32)), (0, .ref (ad 0)), (1, .long no)]) hx hb dX1_begin_1 rfl hl (by decide) rfl (fun ls hl => ?_)
  refine lp_X1_begin_2 no hx hb hml hown hts hK hA (fun H locs K ls hKe hP hD hS hl => ?_) 5 0 _ _ ls (by decide) (by decide) rfl hP hD hS (lv_sub hl [0, 1, 2] rfl)
  subst hKe
  refine lv_iload_n hx hb dX1_begin_22 rfl (lv_at hl 0 rfl) ?_
  refine lv_iconst (v := 4) hx hb dX1_begin_23 (by decide) ?_
  refine lv_icmp_ne (tgt := 30) hx hb dX1_begin_24 (by decide) (fun c24 => ?_) (fun c24 => ?_)
  · skip
    have hq := lfK_lt (n := 4) (by decide) c24
    refine lv_aload_n hx hb dX1_begin_30 rfl (lv_at hl 1 rfl) ?_
    refine lv_dup hx hb dX1_begin_31 rfl ?_
    refine g_m_dr hx hb hts hin hown hK hP (hts (.fieldLink RX1 93 RX1 "drawn" "J") (by decide +kernel)) dX1_begin_32 ?_
    refine lv_lconst (v := 1) hx hb dX1_begin_35 (by decide) ?_
    refine lv_ladd hx hb dX1_begin_36 ?_
    refine p_m_dr hx hb hts hin hown hK hP hD hS (hts (.fieldLink RX1 93 RX1 "drawn" "J") (by decide +kernel)) dX1_begin_37 (fun H locs hP hD hS => ?_)
    refine lv_aload_n hx hb dX1_begin_40 rfl (lv_at hl 1 rfl) ?_
    refine g_m_ast hx hb hts hin hown hK hP (hts (.fieldLink RX1 27 RX1 "sessionThere" "[Z") (by decide +kernel)) dX1_begin_41 ?_
    refine lv_iload_n hx hb dX1_begin_44 rfl (lv_at hl 0 rfl) ?_
    refine lv_iconst (v := 1) hx hb dX1_begin_45 (by decide) ?_
    refine s_m_st hx hb hK hP hD hS rfl (xat_nI hq (by decide)) dX1_begin_46 (fun H locs hP hD hS => ?_)
    refine lv_aload_n hx hb dX1_begin_47 rfl (lv_at hl 1 rfl) ?_
    refine g_m_acn hx hb hts hin hown hK hP (hts (.fieldLink RX1 30 RX1 "caller" "[J") (by decide +kernel)) dX1_begin_48 ?_
    refine lv_iload_n hx hb dX1_begin_51 rfl (lv_at hl 0 rfl) ?_
    refine lv_lload_n hx hb dX1_begin_52 rfl (lv_at hl 2 rfl) ?_
    refine s_m_cn hx hb hK hP hD hS (xat_nI hq (by decide)) dX1_begin_53 (fun H locs hP hD hS => ?_)
    refine lv_aload_n hx hb dX1_begin_54 rfl (lv_at hl 1 rfl) ?_
    refine g_m_asd hx hb hts hin hown hK hP (hts (.fieldLink RX1 33 RX1 "sessionDrawn" "[J") (by decide +kernel)) dX1_begin_55 ?_
    refine lv_iload_n hx hb dX1_begin_58 rfl (lv_at hl 0 rfl) ?_
    refine lv_aload_n hx hb dX1_begin_59 rfl (lv_at hl 1 rfl) ?_
    refine g_m_dr hx hb hts hin hown hK hP (hts (.fieldLink RX1 93 RX1 "drawn" "J") (by decide +kernel)) dX1_begin_60 ?_
    refine s_m_sd hx hb hK hP hD hS (xat_nI hq (by decide)) dX1_begin_63 (fun H locs hP hD hS => ?_)
    have hP : va_P (dC, dI) vwCl (wM ad cL cZ cI (M_begun S (lfK (m_st S) 0 4) no) ro hd) H := hP
    have hD : va_D A (wM ad cL cZ cI (M_begun S (lfK (m_st S) 0 4) no) ro hd) := hD
    refine lv_iload_n hx hb dX1_begin_64 rfl (lv_at hl 0 rfl) ?_
    exact W.iret (v := (nI (lfK (m_st S) 0 4))) hx hb hr (fun t ht hW => ⟨⟨_, ((M_begun S (lfK (m_st S) 0 4) no), ro, hd), rfl, ⟨(by simp only [M_begin, if_neg c24] <;> rfl), (by simp only [M_begin, if_neg c24] <;> rfl)⟩, by rw [ht]; exact hP, va_K.moved hW.alike hK, hD⟩, hS.F ht⟩) hS.2.2 dX1_begin_65
  · skip
    refine lv_bipush (v := -5) hx hb dX1_begin_27 (by decide) ?_
    exact W.iret (v := (-5 : Int32)) hx hb hr (fun t ht hW => ⟨⟨_, (S, ro, hd), rfl, ⟨(by simp only [M_begin, if_pos c24] <;> rfl), (by simp only [M_begin, if_pos c24] <;> rfl)⟩, by rw [ht]; exact hP, va_K.moved hW.alike hK, hD⟩, hS.F ht⟩) hS.2.2 dX1_begin_29
set_option maxHeartbeats 4000000 in
set_option maxRecDepth 100000 in
theorem c_X1_destroy (l : Launch) (dC : Nat → ClassId) (dI : Nat → Nat → Nat) (ad : Nat → Nat) (cL cZ cI : ClassId) (S : SM) (ro hd : Nat → Int64) (sz : Nat) (q : Int32)  : Met l yX1_destroy wsX1_destroy ({ frames := 1, cells := 0, slots := 0, locals := 21 }) (va_Pc [.ref (ad 0), .int q] (fun U => U.heap.size = sz ∧ va_P (dC, dI) vwCl (wM ad cL cZ cI S ro hd) U.heap ∧ va_K (dC, dI) vwCl (tyM cL cZ cI) U ∧ va_D (fun _ => True) (wM ad cL cZ cI S ro hd))) (va_Qi (fun r (u : SMr) => r = (M_destroy S q).1 ∧ u.1 = (M_destroy S q).2) (xB (dC, dI) (wMr ad cL cZ cI) (tyM cL cZ cI) (va_A (wM ad cL cZ cI S ro hd) sz)) (va_A (wM ad cL cZ cI S ro hd) sz)) 0 0 (va_A (wM ad cL cZ cI S ro hd) sz) := by
  refine Met.ofW (cc := cX1_destroy) (maxL := 2) (ret := (some .boolean)) (by decide) rfl ?_
  intro p e s m args below meth c s₁ B hml hv
  obtain ⟨rfl, hsz, hP, hK, hD0⟩ := hv
  have hx := B.exec
  have hb := B.bytes
  have hr := B.returns
  have hts := atoms_spec (ws := wsX1_destroy) B.pre
  have hown : s.vm.findClass RX1 = some m.cls := findClass_of_methodNamed B.named
  have hlocks := B.notSynchronized
  have hin : ∀ w ∈ wsX10, w ∈ wsX1_destroy := fun _ h => List.mem_cons_of_mem _ (List.mem_append_right _ h)
  subst hsz
  have hD := hD0.self (sz := s.heap.size)
  generalize hAe : va_A (wM ad cL cZ cI S ro hd) s.heap.size = A at hD ⊢
  have hA : ∀ q : Nat, s.heap.size ≤ q → A q := fun q h => by rw [← hAe]; exact Or.inr h
  have hS : va_S A s.heap s.heap [] := va_S.rf
  have hl := lv_entry ([.ref (ad 0), .int q]) (n := 2) (Nat.le_of_ble_eq_true rfl)
  rw [lg_entry_eq]
  generalize (lg_sl ([.ref (ad 0), .int q]) ++ List.replicate (2 - (lg_sl ([.ref (ad 0), .int q])).length) Slot.unset).toArray = ls at hl ⊢
  have hl : lv_has ls 2 [(0, .ref (ad 0)), (1, .int q)] := hl
  refine lv_aload_n hx hb dX1_destroy_0 rfl (lv_at hl 0 rfl) ?_
  refine lv_iload_n hx hb dX1_destroy_1 rfl (lv_at hl 1 rfl) ?_
  refine vp_callSi (va_Run.run (va_runV (As := [.int q]) (rest := []) ⟨hx, hb, hml, hown, hts⟩ (c_X1_hasKey l dC dI ad cL cZ cI S ro hd q ) (cwV 1 hts gX1_destroy_X1_hasKey rfl rfl rfl (by decide +kernel) ⟨Nat.le_of_ble_eq_true rfl, Nat.le_of_ble_eq_true rfl⟩) (xpV_r [.int q] hK hP (va_recv hK hP (ci := 1) (q0 := 0) rfl rfl)) rfl rfl hl.1 rfl (lv_room (Nat.le_of_ble_eq_true rfl)) dX1_destroy_2 ⟨Nat.le_of_ble_eq_true rfl, Nat.le_of_ble_eq_true rfl⟩)) (fun r hr9 => ?_)
  subst hr9
  refine lv_if_ne (tgt := 10) hx hb dX1_destroy_5 (by decide) (fun c5 => ?_) (fun c5 => ?_)
  · skip
    have hq := M_hasKey_in c5
    refine lv_aload_n hx hb dX1_destroy_10 rfl (lv_at hl 0 rfl) ?_
    refine g_m_akt hx hb hts hin hown hK hP (hts (.fieldLink RX1 17 RX1 "keyThere" "[Z") (by decide +kernel)) dX1_destroy_11 ?_
    refine lv_iload_n hx hb dX1_destroy_14 rfl (lv_at hl 1 rfl) ?_
    refine lv_iconst (v := 0) hx hb dX1_destroy_15 (by decide) ?_
    refine s_m_kt hx hb hK hP hD hS rfl (xat_self hq) dX1_destroy_16 (fun H locs hP hD hS => ?_)
    refine lv_iconst (v := 1) hx hb dX1_destroy_17 (by decide) ?_
    exact W.zret (v := (1 : Int32)) hx hb hr rfl (fun t ht hW => ⟨⟨_, ((mu_kt S (upd (m_kt S) q.toNatClampNeg (0 : Int32))), ro, hd), rfl, ⟨(by simp only [M_destroy, if_neg c5] <;> rfl), (by simp only [M_destroy, if_neg c5] <;> rfl)⟩, by rw [ht]; exact hP, va_K.moved hW.alike hK, hD⟩, hS.F ht⟩) hS.2.2 dX1_destroy_18
  · skip
    refine lv_iconst (v := 0) hx hb dX1_destroy_8 (by decide) ?_
    exact W.zret (v := (0 : Int32)) hx hb hr rfl (fun t ht hW => ⟨⟨_, (S, ro, hd), rfl, ⟨(by simp only [M_destroy, if_pos c5] <;> rfl), (by simp only [M_destroy, if_pos c5] <;> rfl)⟩, by rw [ht]; exact hP, va_K.moved hW.alike hK, hD⟩, hS.F ht⟩) hS.2.2 dX1_destroy_9
set_option maxHeartbeats 4000000 in
set_option maxRecDepth 100000 in
theorem c_X1_nameOf (l : Launch) (dC : Nat → ClassId) (dI : Nat → Nat → Nat) (ad : Nat → Nat) (cL cZ cI : ClassId) (S : SM) (ro hd : Nat → Int64) (sz : Nat) (q : Int32) (hq : vp_in q 6) : Met l yX1_nameOf wsX1_nameOf ({ frames := 3, cells := 0, slots := 0, locals := 72 }) (va_Pc [.ref (ad 0), .int q] (fun U => U.heap.size = sz ∧ va_P (dC, dI) vwCl (wM ad cL cZ cI S ro hd) U.heap ∧ va_K (dC, dI) vwCl (tyM cL cZ cI) U ∧ va_D (fun _ => True) (wM ad cL cZ cI S ro hd))) (va_Ql (fun r (u : SMr) => r = M_nameOf S q ∧ u.1 = S) (xB (dC, dI) (wMr ad cL cZ cI) (tyM cL cZ cI) (va_A (wM ad cL cZ cI S ro hd) sz)) (va_A (wM ad cL cZ cI S ro hd) sz)) 0 0 (va_A (wM ad cL cZ cI S ro hd) sz) := by
  refine Met.ofW (cc := cX1_nameOf) (maxL := 4) (ret := (some .long)) (by decide) rfl ?_
  intro p e s m args below meth c s₁ B hml hv
  obtain ⟨rfl, hsz, hP, hK, hD0⟩ := hv
  have hx := B.exec
  have hb := B.bytes
  have hr := B.returns
  have hts := atoms_spec (ws := wsX1_nameOf) B.pre
  have hown : s.vm.findClass RX1 = some m.cls := findClass_of_methodNamed B.named
  have hlocks := B.notSynchronized
  have hin : ∀ w ∈ wsX10, w ∈ wsX1_nameOf := fun _ h => List.mem_cons_of_mem _ (List.mem_append_right _ h)
  subst hsz
  have hD := hD0.self (sz := s.heap.size)
  generalize hAe : va_A (wM ad cL cZ cI S ro hd) s.heap.size = A at hD ⊢
  have hA : ∀ q : Nat, s.heap.size ≤ q → A q := fun q h => by rw [← hAe]; exact Or.inr h
  have hS : va_S A s.heap s.heap [] := va_S.rf
  have hl := lv_entry ([.ref (ad 0), .int q]) (n := 4) (Nat.le_of_ble_eq_true rfl)
  rw [lg_entry_eq]
  generalize (lg_sl ([.ref (ad 0), .int q]) ++ List.replicate (4 - (lg_sl ([.ref (ad 0), .int q])).length) Slot.unset).toArray = ls at hl ⊢
  have hl : lv_has ls 4 [(0, .ref (ad 0)), (1, .int q)] := hl
  refine lv_aload_n hx hb dX1_nameOf_0 rfl (lv_at hl 0 rfl) ?_
  refine lv_aload_n hx hb dX1_nameOf_1 rfl (lv_at hl 0 rfl) ?_
  refine g_m_akd hx hb hts hin hown hK hP (hts (.fieldLink RX1 24 RX1 "keyDrawn" "[J") (by decide +kernel)) dX1_nameOf_2 ?_
  refine lv_iload_n hx hb dX1_nameOf_5 rfl (lv_at hl 1 rfl) ?_
  refine l_m_kd hx hb hK hP (xat_self hq) dX1_nameOf_6 ?_
  refine xcall_l (va_runV (As := [.long (m_kd S q.toNatClampNeg)]) (rest := []) ⟨hx, hb, hml, hown, hts⟩ (c_X1_word l dC dI ad cL cZ cI S ro hd s.heap.size (m_kd S q.toNatClampNeg) ) (cwV 1 hts gX1_nameOf_X1_word rfl rfl rfl (by decide +kernel) ⟨Nat.le_of_ble_eq_true rfl, Nat.le_of_ble_eq_true rfl⟩) (xpV_w [.long (m_kd S q.toNatClampNeg)] hK hP hD (va_recv hK hP (ci := 1) (q0 := 0) rfl rfl)) rfl rfl hl.1 rfl (lv_room (Nat.le_of_ble_eq_true rfl)) dX1_nameOf_7 ⟨Nat.le_of_ble_eq_true rfl, Nat.le_of_ble_eq_true rfl⟩) hD hS hA (fun r u H locs hw hP hD hS => ?_)
  obtain ⟨u1, rw1, hd1⟩ := u
  obtain ⟨rfl, hu1⟩ := hw
  change u1 = S at hu1
  change va_P _ vwCl (wM ad cL cZ cI u1 rw1 hd1) _ at hP
  change va_D _ (wM ad cL cZ cI u1 rw1 hd1) at hD
  rw [hu1] at hP hD
  refine lv_lstore_n (lv' := [(2, .long (M_word S (m_kd S q.toNatClampNeg))), (0, .ref (ad 0)), (1, .int q)]) hx hb dX1_nameOf_10 rfl hl (by decide) rfl (fun ls hl => ?_)
  refine lv_aload_n hx hb dX1_nameOf_11 rfl (lv_at hl 1 rfl) ?_
  refine lv_aload_n hx hb dX1_nameOf_12 rfl (lv_at hl 1 rfl) ?_
  refine g_m_aks hx hb hts hin hown hK hP (hts (.fieldLink RX1 21 RX1 "keySecret" "[J") (by decide +kernel)) dX1_nameOf_13 ?_
  refine lv_iload_n hx hb dX1_nameOf_16 rfl (lv_at hl 2 rfl) ?_
  refine l_m_ks hx hb hK hP (xat_self hq) dX1_nameOf_17 ?_
  refine lv_lload_n hx hb dX1_nameOf_18 rfl (lv_at hl 0 rfl) ?_
  refine xcall_l (va_runV (As := [.long (m_ks S q.toNatClampNeg), .long (M_word S (m_kd S q.toNatClampNeg))]) (rest := []) ⟨hx, hb, hml, hown, hts⟩ (c_X1_two l dC dI ad cL cZ cI S rw1 hd1 H.size (m_ks S q.toNatClampNeg) (M_word S (m_kd S q.toNatClampNeg)) ) (cwV 2 hts gX1_nameOf_X1_two rfl rfl rfl (by decide +kernel) ⟨Nat.le_of_ble_eq_true rfl, Nat.le_of_ble_eq_true rfl⟩) (xpV_w [.long (m_ks S q.toNatClampNeg), .long (M_word S (m_kd S q.toNatClampNeg))] hK hP hD (va_recv hK hP (ci := 1) (q0 := 0) rfl rfl)) rfl rfl hl.1 rfl (lv_room (Nat.le_of_ble_eq_true rfl)) dX1_nameOf_19 ⟨Nat.le_of_ble_eq_true rfl, Nat.le_of_ble_eq_true rfl⟩) hD hS hA (fun r u H locs hw hP hD hS => ?_)
  obtain ⟨u2, rw2, hd2⟩ := u
  obtain ⟨rfl, hu2, hh2⟩ := hw
  change hd2 = hd1 at hh2
  change u2 = S at hu2
  change va_P _ vwCl (wM ad cL cZ cI u2 rw2 hd2) _ at hP
  change va_D _ (wM ad cL cZ cI u2 rw2 hd2) at hD
  rw [hu2, hh2] at hP hD
  exact W.lret (v := (h2 (m_ks S q.toNatClampNeg) (M_word S (m_kd S q.toNatClampNeg)))) hx hb hr (fun t ht hW => ⟨⟨_, (S, rw2, hd1), rfl, ⟨rfl, rfl⟩, by rw [ht]; exact hP, va_K.moved hW.alike hK, hD⟩, hS.F ht⟩) hS.2.2 dX1_nameOf_22
set_option maxHeartbeats 4000000 in
set_option maxRecDepth 100000 in
theorem c_X1_name (l : Launch) (dC : Nat → ClassId) (dI : Nat → Nat → Nat) (ad : Nat → Nat) (cL cZ cI : ClassId) (S : SM) (ro hd : Nat → Int64) (sz : Nat) (q : Int32)  : Met l yX1_name wsX1_name ({ frames := 4, cells := 0, slots := 0, locals := 95 }) (va_Pc [.ref (ad 0), .int q] (fun U => U.heap.size = sz ∧ va_P (dC, dI) vwCl (wM ad cL cZ cI S ro hd) U.heap ∧ va_K (dC, dI) vwCl (tyM cL cZ cI) U ∧ va_D (fun _ => True) (wM ad cL cZ cI S ro hd))) (va_Ql (fun r (u : SMr) => r = M_name S q ∧ u.1 = S) (xB (dC, dI) (wMr ad cL cZ cI) (tyM cL cZ cI) (va_A (wM ad cL cZ cI S ro hd) sz)) (va_A (wM ad cL cZ cI S ro hd) sz)) 0 0 (va_A (wM ad cL cZ cI S ro hd) sz) := by
  refine Met.ofW (cc := cX1_name) (maxL := 2) (ret := (some .long)) (by decide) rfl ?_
  intro p e s m args below meth c s₁ B hml hv
  obtain ⟨rfl, hsz, hP, hK, hD0⟩ := hv
  have hx := B.exec
  have hb := B.bytes
  have hr := B.returns
  have hts := atoms_spec (ws := wsX1_name) B.pre
  have hown : s.vm.findClass RX1 = some m.cls := findClass_of_methodNamed B.named
  have hlocks := B.notSynchronized
  have hin : ∀ w ∈ wsX10, w ∈ wsX1_name := fun _ h => List.mem_cons_of_mem _ (List.mem_append_right _ h)
  subst hsz
  have hD := hD0.self (sz := s.heap.size)
  generalize hAe : va_A (wM ad cL cZ cI S ro hd) s.heap.size = A at hD ⊢
  have hA : ∀ q : Nat, s.heap.size ≤ q → A q := fun q h => by rw [← hAe]; exact Or.inr h
  have hS : va_S A s.heap s.heap [] := va_S.rf
  have hl := lv_entry ([.ref (ad 0), .int q]) (n := 2) (Nat.le_of_ble_eq_true rfl)
  rw [lg_entry_eq]
  generalize (lg_sl ([.ref (ad 0), .int q]) ++ List.replicate (2 - (lg_sl ([.ref (ad 0), .int q])).length) Slot.unset).toArray = ls at hl ⊢
  have hl : lv_has ls 2 [(0, .ref (ad 0)), (1, .int q)] := hl
  refine lv_aload_n hx hb dX1_name_0 rfl (lv_at hl 0 rfl) ?_
  refine lv_iload_n hx hb dX1_name_1 rfl (lv_at hl 1 rfl) ?_
  refine vp_callSi (va_Run.run (va_runV (As := [.int q]) (rest := []) ⟨hx, hb, hml, hown, hts⟩ (c_X1_hasKey l dC dI ad cL cZ cI S ro hd q ) (cwV 1 hts gX1_name_X1_hasKey rfl rfl rfl (by decide +kernel) ⟨Nat.le_of_ble_eq_true rfl, Nat.le_of_ble_eq_true rfl⟩) (xpV_r [.int q] hK hP (va_recv hK hP (ci := 1) (q0 := 0) rfl rfl)) rfl rfl hl.1 rfl (lv_room (Nat.le_of_ble_eq_true rfl)) dX1_name_2 ⟨Nat.le_of_ble_eq_true rfl, Nat.le_of_ble_eq_true rfl⟩)) (fun r hr9 => ?_)
  subst hr9
  refine lv_if_eq (tgt := 16) hx hb dX1_name_5 (by decide) (fun c5 => ?_) (fun c5 => ?_)
  · skip
    refine lv_lconst (v := 0) hx hb dX1_name_16 (by decide) ?_
    exact W.lret (v := (0 : Int64)) hx hb hr (fun t ht hW => ⟨⟨_, (S, ro, hd), rfl, ⟨(by simp only [M_name, if_pos c5] <;> rfl), (by simp only [M_name, if_pos c5] <;> rfl)⟩, by rw [ht]; exact hP, va_K.moved hW.alike hK, hD⟩, hS.F ht⟩) hS.2.2 dX1_name_17
  · skip
    have hq := M_hasKey_in c5
    refine lv_aload_n hx hb dX1_name_8 rfl (lv_at hl 0 rfl) ?_
    refine lv_iload_n hx hb dX1_name_9 rfl (lv_at hl 1 rfl) ?_
    refine xcall_l (va_runV (As := [.int q]) (rest := []) ⟨hx, hb, hml, hown, hts⟩ (c_X1_nameOf l dC dI ad cL cZ cI S ro hd s.heap.size q hq ) (cwV 1 hts gX1_name_X1_nameOf rfl rfl rfl (by decide +kernel) ⟨Nat.le_of_ble_eq_true rfl, Nat.le_of_ble_eq_true rfl⟩) (xpV_w [.int q] hK hP hD (va_recv hK hP (ci := 1) (q0 := 0) rfl rfl)) rfl rfl hl.1 rfl (lv_room (Nat.le_of_ble_eq_true rfl)) dX1_name_10 ⟨Nat.le_of_ble_eq_true rfl, Nat.le_of_ble_eq_true rfl⟩) hD hS hA (fun r u H locs hw hP hD hS => ?_)
    obtain ⟨u1, rw1, hd1⟩ := u
    obtain ⟨rfl, hu1⟩ := hw
    change u1 = S at hu1
    change va_P _ vwCl (wM ad cL cZ cI u1 rw1 hd1) _ at hP
    change va_D _ (wM ad cL cZ cI u1 rw1 hd1) at hD
    rw [hu1] at hP hD
    refine lv_goto (tgt := 17) hx hb dX1_name_13 (by decide) ?_
    exact W.lret (v := (M_nameOf S q)) hx hb hr (fun t ht hW => ⟨⟨_, (S, rw1, hd1), rfl, ⟨(by simp only [M_name, if_neg c5] <;> rfl), (by simp only [M_name, if_neg c5] <;> rfl)⟩, by rw [ht]; exact hP, va_K.moved hW.alike hK, hD⟩, hS.F ht⟩) hS.2.2 dX1_name_17
set_option maxHeartbeats 4000000 in
set_option maxRecDepth 100000 in
theorem c_X1_end (l : Launch) (dC : Nat → ClassId) (dI : Nat → Nat → Nat) (ad : Nat → Nat) (cL cZ cI : ClassId) (S : SM) (ro hd : Nat → Int64) (sz : Nat) (q : Int32)  : Met l yX1_end wsX1_end ({ frames := 1, cells := 0, slots := 0, locals := 21 }) (va_Pc [.ref (ad 0), .int q] (fun U => U.heap.size = sz ∧ va_P (dC, dI) vwCl (wM ad cL cZ cI S ro hd) U.heap ∧ va_K (dC, dI) vwCl (tyM cL cZ cI) U ∧ va_D (fun _ => True) (wM ad cL cZ cI S ro hd))) (va_Qi (fun r (u : SMr) => r = (M_end S q).1 ∧ u.1 = (M_end S q).2) (xB (dC, dI) (wMr ad cL cZ cI) (tyM cL cZ cI) (va_A (wM ad cL cZ cI S ro hd) sz)) (va_A (wM ad cL cZ cI S ro hd) sz)) 0 0 (va_A (wM ad cL cZ cI S ro hd) sz) := by
  refine Met.ofW (cc := cX1_end) (maxL := 2) (ret := (some .boolean)) (by decide) rfl ?_
  intro p e s m args below meth c s₁ B hml hv
  obtain ⟨rfl, hsz, hP, hK, hD0⟩ := hv
  have hx := B.exec
  have hb := B.bytes
  have hr := B.returns
  have hts := atoms_spec (ws := wsX1_end) B.pre
  have hown : s.vm.findClass RX1 = some m.cls := findClass_of_methodNamed B.named
  have hlocks := B.notSynchronized
  have hin : ∀ w ∈ wsX10, w ∈ wsX1_end := fun _ h => List.mem_cons_of_mem _ (List.mem_append_right _ h)
  subst hsz
  have hD := hD0.self (sz := s.heap.size)
  generalize hAe : va_A (wM ad cL cZ cI S ro hd) s.heap.size = A at hD ⊢
  have hA : ∀ q : Nat, s.heap.size ≤ q → A q := fun q h => by rw [← hAe]; exact Or.inr h
  have hS : va_S A s.heap s.heap [] := va_S.rf
  have hl := lv_entry ([.ref (ad 0), .int q]) (n := 2) (Nat.le_of_ble_eq_true rfl)
  rw [lg_entry_eq]
  generalize (lg_sl ([.ref (ad 0), .int q]) ++ List.replicate (2 - (lg_sl ([.ref (ad 0), .int q])).length) Slot.unset).toArray = ls at hl ⊢
  have hl : lv_has ls 2 [(0, .ref (ad 0)), (1, .int q)] := hl
  refine lv_aload_n hx hb dX1_end_0 rfl (lv_at hl 0 rfl) ?_
  refine lv_iload_n hx hb dX1_end_1 rfl (lv_at hl 1 rfl) ?_
  refine vp_callSi (va_Run.run (va_runV (As := [.int q]) (rest := []) ⟨hx, hb, hml, hown, hts⟩ (c_X1_hasSession l dC dI ad cL cZ cI S ro hd q ) (cwV 1 hts gX1_end_X1_hasSession rfl rfl rfl (by decide +kernel) ⟨Nat.le_of_ble_eq_true rfl, Nat.le_of_ble_eq_true rfl⟩) (xpV_r [.int q] hK hP (va_recv hK hP (ci := 1) (q0 := 0) rfl rfl)) rfl rfl hl.1 rfl (lv_room (Nat.le_of_ble_eq_true rfl)) dX1_end_2 ⟨Nat.le_of_ble_eq_true rfl, Nat.le_of_ble_eq_true rfl⟩)) (fun r hr9 => ?_)
  subst hr9
  refine lv_if_ne (tgt := 10) hx hb dX1_end_5 (by decide) (fun c5 => ?_) (fun c5 => ?_)
  · skip
    have hq := M_hasSession_in c5
    refine lv_aload_n hx hb dX1_end_10 rfl (lv_at hl 0 rfl) ?_
    refine g_m_ast hx hb hts hin hown hK hP (hts (.fieldLink RX1 27 RX1 "sessionThere" "[Z") (by decide +kernel)) dX1_end_11 ?_
    refine lv_iload_n hx hb dX1_end_14 rfl (lv_at hl 1 rfl) ?_
    refine lv_iconst (v := 0) hx hb dX1_end_15 (by decide) ?_
    refine s_m_st hx hb hK hP hD hS rfl (xat_self hq) dX1_end_16 (fun H locs hP hD hS => ?_)
    refine lv_iconst (v := 1) hx hb dX1_end_17 (by decide) ?_
    exact W.zret (v := (1 : Int32)) hx hb hr rfl (fun t ht hW => ⟨⟨_, ((mu_st S (upd (m_st S) q.toNatClampNeg (0 : Int32))), ro, hd), rfl, ⟨(by simp only [M_end, if_neg c5] <;> rfl), (by simp only [M_end, if_neg c5] <;> rfl)⟩, by rw [ht]; exact hP, va_K.moved hW.alike hK, hD⟩, hS.F ht⟩) hS.2.2 dX1_end_18
  · skip
    refine lv_iconst (v := 0) hx hb dX1_end_8 (by decide) ?_
    exact W.zret (v := (0 : Int32)) hx hb hr rfl (fun t ht hW => ⟨⟨_, (S, ro, hd), rfl, ⟨(by simp only [M_end, if_pos c5] <;> rfl), (by simp only [M_end, if_pos c5] <;> rfl)⟩, by rw [ht]; exact hP, va_K.moved hW.alike hK, hD⟩, hS.F ht⟩) hS.2.2 dX1_end_9
set_option maxHeartbeats 4000000 in
set_option maxRecDepth 100000 in
theorem c_X1_nonce (l : Launch) (dC : Nat → ClassId) (dI : Nat → Nat → Nat) (ad : Nat → Nat) (cL cZ cI : ClassId) (S : SM) (ro hd : Nat → Int64) (sz : Nat) (q : Int32)  : Met l yX1_nonce wsX1_nonce ({ frames := 3, cells := 0, slots := 0, locals := 72 }) (va_Pc [.ref (ad 0), .int q] (fun U => U.heap.size = sz ∧ va_P (dC, dI) vwCl (wM ad cL cZ cI S ro hd) U.heap ∧ va_K (dC, dI) vwCl (tyM cL cZ cI) U ∧ va_D (fun _ => True) (wM ad cL cZ cI S ro hd))) (va_Ql (fun r (u : SMr) => r = M_nonce S q ∧ u.1 = S) (xB (dC, dI) (wMr ad cL cZ cI) (tyM cL cZ cI) (va_A (wM ad cL cZ cI S ro hd) sz)) (va_A (wM ad cL cZ cI S ro hd) sz)) 0 0 (va_A (wM ad cL cZ cI S ro hd) sz) := by
  refine Met.ofW (cc := cX1_nonce) (maxL := 2) (ret := (some .long)) (by decide) rfl ?_
  intro p e s m args below meth c s₁ B hml hv
  obtain ⟨rfl, hsz, hP, hK, hD0⟩ := hv
  have hx := B.exec
  have hb := B.bytes
  have hr := B.returns
  have hts := atoms_spec (ws := wsX1_nonce) B.pre
  have hown : s.vm.findClass RX1 = some m.cls := findClass_of_methodNamed B.named
  have hlocks := B.notSynchronized
  have hin : ∀ w ∈ wsX10, w ∈ wsX1_nonce := fun _ h => List.mem_cons_of_mem _ (List.mem_append_right _ h)
  subst hsz
  have hD := hD0.self (sz := s.heap.size)
  generalize hAe : va_A (wM ad cL cZ cI S ro hd) s.heap.size = A at hD ⊢
  have hA : ∀ q : Nat, s.heap.size ≤ q → A q := fun q h => by rw [← hAe]; exact Or.inr h
  have hS : va_S A s.heap s.heap [] := va_S.rf
  have hl := lv_entry ([.ref (ad 0), .int q]) (n := 2) (Nat.le_of_ble_eq_true rfl)
  rw [lg_entry_eq]
  generalize (lg_sl ([.ref (ad 0), .int q]) ++ List.replicate (2 - (lg_sl ([.ref (ad 0), .int q])).length) Slot.unset).toArray = ls at hl ⊢
  have hl : lv_has ls 2 [(0, .ref (ad 0)), (1, .int q)] := hl
  refine lv_aload_n hx hb dX1_nonce_0 rfl (lv_at hl 0 rfl) ?_
  refine lv_iload_n hx hb dX1_nonce_1 rfl (lv_at hl 1 rfl) ?_
  refine vp_callSi (va_Run.run (va_runV (As := [.int q]) (rest := []) ⟨hx, hb, hml, hown, hts⟩ (c_X1_hasSession l dC dI ad cL cZ cI S ro hd q ) (cwV 1 hts gX1_nonce_X1_hasSession rfl rfl rfl (by decide +kernel) ⟨Nat.le_of_ble_eq_true rfl, Nat.le_of_ble_eq_true rfl⟩) (xpV_r [.int q] hK hP (va_recv hK hP (ci := 1) (q0 := 0) rfl rfl)) rfl rfl hl.1 rfl (lv_room (Nat.le_of_ble_eq_true rfl)) dX1_nonce_2 ⟨Nat.le_of_ble_eq_true rfl, Nat.le_of_ble_eq_true rfl⟩)) (fun r hr9 => ?_)
  subst hr9
  refine lv_if_eq (tgt := 21) hx hb dX1_nonce_5 (by decide) (fun c5 => ?_) (fun c5 => ?_)
  · skip
    refine lv_lconst (v := 0) hx hb dX1_nonce_21 (by decide) ?_
    exact W.lret (v := (0 : Int64)) hx hb hr (fun t ht hW => ⟨⟨_, (S, ro, hd), rfl, ⟨(by simp only [M_nonce, if_pos c5] <;> rfl), (by simp only [M_nonce, if_pos c5] <;> rfl)⟩, by rw [ht]; exact hP, va_K.moved hW.alike hK, hD⟩, hS.F ht⟩) hS.2.2 dX1_nonce_22
  · skip
    have hq := M_hasSession_in c5
    refine lv_aload_n hx hb dX1_nonce_8 rfl (lv_at hl 0 rfl) ?_
    refine lv_aload_n hx hb dX1_nonce_9 rfl (lv_at hl 0 rfl) ?_
    refine g_m_asd hx hb hts hin hown hK hP (hts (.fieldLink RX1 33 RX1 "sessionDrawn" "[J") (by decide +kernel)) dX1_nonce_10 ?_
    refine lv_iload_n hx hb dX1_nonce_13 rfl (lv_at hl 1 rfl) ?_
    refine l_m_sd hx hb hK hP (xat_self hq) dX1_nonce_14 ?_
    refine xcall_l (va_runV (As := [.long (m_sd S q.toNatClampNeg)]) (rest := []) ⟨hx, hb, hml, hown, hts⟩ (c_X1_word l dC dI ad cL cZ cI S ro hd s.heap.size (m_sd S q.toNatClampNeg) ) (cwV 1 hts gX1_nonce_X1_word rfl rfl rfl (by decide +kernel) ⟨Nat.le_of_ble_eq_true rfl, Nat.le_of_ble_eq_true rfl⟩) (xpV_w [.long (m_sd S q.toNatClampNeg)] hK hP hD (va_recv hK hP (ci := 1) (q0 := 0) rfl rfl)) rfl rfl hl.1 rfl (lv_room (Nat.le_of_ble_eq_true rfl)) dX1_nonce_15 ⟨Nat.le_of_ble_eq_true rfl, Nat.le_of_ble_eq_true rfl⟩) hD hS hA (fun r u H locs hw hP hD hS => ?_)
    obtain ⟨u1, rw1, hd1⟩ := u
    obtain ⟨rfl, hu1⟩ := hw
    change u1 = S at hu1
    change va_P _ vwCl (wM ad cL cZ cI u1 rw1 hd1) _ at hP
    change va_D _ (wM ad cL cZ cI u1 rw1 hd1) at hD
    rw [hu1] at hP hD
    refine lv_goto (tgt := 22) hx hb dX1_nonce_18 (by decide) ?_
    exact W.lret (v := (M_word S (m_sd S q.toNatClampNeg))) hx hb hr (fun t ht hW => ⟨⟨_, (S, rw1, hd1), rfl, ⟨(by simp only [M_nonce, if_neg c5] <;> rfl), (by simp only [M_nonce, if_neg c5] <;> rfl)⟩, by rw [ht]; exact hP, va_K.moved hW.alike hK, hD⟩, hS.F ht⟩) hS.2.2 dX1_nonce_22
