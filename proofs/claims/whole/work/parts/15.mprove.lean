set_option maxHeartbeats 4000000 in
set_option maxRecDepth 100000 in
theorem c_X1_rightFor (l : Launch) (dC : Nat → ClassId) (dI : Nat → Nat → Nat) (ad : Nat → Nat) (cL cZ cI : ClassId) (S : SM) (ro hd : Nat → Int64) (sz : Nat) (se : Int64) (q : Int32) (cm : Int32) (pa : Int64) (hq : vp_in q 4) : Met l yX1_rightFor wsX1_rightFor ({ frames := 3, cells := 0, slots := 0, locals := 72 }) (va_Pc [.ref (ad 0), .long se, .int q, .int cm, .long pa] (fun U => U.heap.size = sz ∧ va_P (dC, dI) vwCl (wM ad cL cZ cI S ro hd) U.heap ∧ va_K (dC, dI) vwCl (tyM cL cZ cI) U ∧ va_D (fun _ => True) (wM ad cL cZ cI S ro hd))) (va_Ql (fun r (u : SMr) => r = M_rightFor S se q cm pa ∧ u.1 = S) (xB (dC, dI) (wMr ad cL cZ cI) (tyM cL cZ cI) (va_A (wM ad cL cZ cI S ro hd) sz)) (va_A (wM ad cL cZ cI S ro hd) sz)) 0 0 (va_A (wM ad cL cZ cI S ro hd) sz) := by
  refine Met.ofW (cc := cX1_rightFor) (maxL := 9) (ret := (some .long)) (by decide) rfl ?_
  intro p e s m args below meth c s₁ B hml hv
  obtain ⟨rfl, hsz, hP, hK, hD0⟩ := hv
  have hx := B.exec
  have hb := B.bytes
  have hr := B.returns
  have hts := atoms_spec (ws := wsX1_rightFor) B.pre
  have hown : s.vm.findClass RX1 = some m.cls := findClass_of_methodNamed B.named
  have hlocks := B.notSynchronized
  have hin : ∀ w ∈ wsX10, w ∈ wsX1_rightFor := fun _ h => List.mem_cons_of_mem _ (List.mem_append_right _ h)
  subst hsz
  have hD := hD0.self (sz := s.heap.size)
  generalize hAe : va_A (wM ad cL cZ cI S ro hd) s.heap.size = A at hD ⊢
  have hA : ∀ q : Nat, s.heap.size ≤ q → A q := fun q h => by rw [← hAe]; exact Or.inr h
  have hS : va_S A s.heap s.heap [] := va_S.rf
  have hl := lv_entry ([.ref (ad 0), .long se, .int q, .int cm, .long pa]) (n := 9) (Nat.le_of_ble_eq_true rfl)
  rw [lg_entry_eq]
  generalize (lg_sl ([.ref (ad 0), .long se, .int q, .int cm, .long pa]) ++ List.replicate (9 - (lg_sl ([.ref (ad 0), .long se, .int q, .int cm, .long pa])).length) Slot.unset).toArray = ls at hl ⊢
  have hl : lv_has ls 9 [(0, .ref (ad 0)), (1, .long se), (3, .int q), (4, .int cm), (5, .long pa)] := hl
  refine lv_aload_n hx hb dX1_rightFor_0 rfl (lv_at hl 0 rfl) ?_
  refine lv_aload_n hx hb dX1_rightFor_1 rfl (lv_at hl 0 rfl) ?_
  refine g_m_asd hx hb hts hin hown hK hP (hts (.fieldLink RX1 33 RX1 "sessionDrawn" "[J") (by decide +kernel)) dX1_rightFor_2 ?_
  refine lv_iload_n hx hb dX1_rightFor_5 rfl (lv_at hl 2 rfl) ?_
  refine l_m_sd hx hb hK hP (xat_self hq) dX1_rightFor_6 ?_
  refine xcall_l (va_runV (As := [.long (m_sd S q.toNatClampNeg)]) (rest := []) ⟨hx, hb, hml, hown, hts⟩ (c_X1_word l dC dI ad cL cZ cI S ro hd s.heap.size (m_sd S q.toNatClampNeg) ) (cwV 1 hts gX1_rightFor_X1_word rfl rfl rfl (by decide +kernel) ⟨Nat.le_of_ble_eq_true rfl, Nat.le_of_ble_eq_true rfl⟩) (xpV_w [.long (m_sd S q.toNatClampNeg)] hK hP hD (va_recv hK hP (ci := 1) (q0 := 0) rfl rfl)) rfl rfl hl.1 rfl (lv_room (Nat.le_of_ble_eq_true rfl)) dX1_rightFor_7 ⟨Nat.le_of_ble_eq_true rfl, Nat.le_of_ble_eq_true rfl⟩) hD hS hA (fun r u H locs hw hP hD hS => ?_)
  obtain ⟨u1, rw1, hd1⟩ := u
  obtain ⟨rfl, hu1⟩ := hw
  change u1 = S at hu1
  change va_P _ vwCl (wM ad cL cZ cI u1 rw1 hd1) _ at hP
  change va_D _ (wM ad cL cZ cI u1 rw1 hd1) at hD
  rw [hu1] at hP hD
  refine lv_lstore (lv' := [(7, .long (M_word S (m_sd S q.toNatClampNeg))), (0, .ref (ad 0)), (1, .long se), (3, .int q), (4, .int cm), (5, .long pa)]) hx hb dX1_rightFor_10 hl (by decide) rfl (fun ls hl => ?_)
  refine lv_aload_n hx hb dX1_rightFor_12 rfl (lv_at hl 1 rfl) ?_
  refine g_m_arw hx hb hts hin hown hK hP (hts (.fieldLink RX1 39 RX1 "row" "[J") (by decide +kernel)) dX1_rightFor_13 ?_
  refine lv_iconst (v := 1) hx hb dX1_rightFor_16 (by decide) ?_
  refine lv_lload hx hb dX1_rightFor_17 (lv_at hl 0 rfl) ?_
  refine s_m_rw hx hb hK hP hD hS (xat_nI (by decide) (by decide)) dX1_rightFor_19 (fun H locs hP hD hS => ?_)
  refine lv_aload_n hx hb dX1_rightFor_20 rfl (lv_at hl 1 rfl) ?_
  refine g_m_arw hx hb hts hin hown hK hP (hts (.fieldLink RX1 39 RX1 "row" "[J") (by decide +kernel)) dX1_rightFor_21 ?_
  refine lv_iconst (v := 2) hx hb dX1_rightFor_24 (by decide) ?_
  refine lv_aload_n hx hb dX1_rightFor_25 rfl (lv_at hl 1 rfl) ?_
  refine g_m_acn hx hb hts hin hown hK hP (hts (.fieldLink RX1 30 RX1 "caller" "[J") (by decide +kernel)) dX1_rightFor_26 ?_
  refine lv_iload_n hx hb dX1_rightFor_29 rfl (lv_at hl 3 rfl) ?_
  refine l_m_cn hx hb hK hP (xat_self hq) dX1_rightFor_30 ?_
  refine s_m_rw hx hb hK hP hD hS (xat_nI (by decide) (by decide)) dX1_rightFor_31 (fun H locs hP hD hS => ?_)
  refine lv_aload_n hx hb dX1_rightFor_32 rfl (lv_at hl 1 rfl) ?_
  refine g_m_arw hx hb hts hin hown hK hP (hts (.fieldLink RX1 39 RX1 "row" "[J") (by decide +kernel)) dX1_rightFor_33 ?_
  refine lv_iconst (v := 3) hx hb dX1_rightFor_36 (by decide) ?_
  refine lv_iload hx hb dX1_rightFor_37 (lv_at hl 4 rfl) ?_
  refine lv_i2l hx hb dX1_rightFor_39 rfl ?_
  refine s_m_rw hx hb hK hP hD hS (xat_nI (by decide) (by decide)) dX1_rightFor_40 (fun H locs hP hD hS => ?_)
  refine lv_aload_n hx hb dX1_rightFor_41 rfl (lv_at hl 1 rfl) ?_
  refine g_m_arw hx hb hts hin hown hK hP (hts (.fieldLink RX1 39 RX1 "row" "[J") (by decide +kernel)) dX1_rightFor_42 ?_
  refine lv_iconst (v := 4) hx hb dX1_rightFor_45 (by decide) ?_
  refine lv_lload hx hb dX1_rightFor_46 (lv_at hl 5 rfl) ?_
  refine s_m_rw hx hb hK hP hD hS (xat_nI (by decide) (by decide)) dX1_rightFor_48 (fun H locs hP hD hS => ?_)
  refine lv_aload_n hx hb dX1_rightFor_49 rfl (lv_at hl 1 rfl) ?_
  refine lv_lload_n hx hb dX1_rightFor_50 rfl (lv_at hl 2 rfl) ?_
  refine lv_iconst (v := 4) hx hb dX1_rightFor_51 (by decide) ?_
  refine xcall_l (va_runV (As := [.long se, .int (4 : Int32)]) (rest := []) ⟨hx, hb, hml, hown, hts⟩ (c_X1_code l dC dI ad cL cZ cI S (vp_updL (vp_updL (vp_updL (vp_updL rw1 1 (M_word S (m_sd S q.toNatClampNeg))) 2 (m_cn S q.toNatClampNeg)) 3 cm.toInt64) 4 pa) hd1 H.size se 4 (by decide) ) (cwV 2 hts gX1_rightFor_X1_code rfl rfl rfl (by decide +kernel) ⟨Nat.le_of_ble_eq_true rfl, Nat.le_of_ble_eq_true rfl⟩) (xpV_w [.long se, .int (4 : Int32)] hK hP hD (va_recv hK hP (ci := 1) (q0 := 0) rfl rfl)) rfl rfl hl.1 rfl (lv_room (Nat.le_of_ble_eq_true rfl)) dX1_rightFor_52 ⟨Nat.le_of_ble_eq_true rfl, Nat.le_of_ble_eq_true rfl⟩) hD hS hA (fun r u H locs hw hP hD hS => ?_)
  obtain ⟨u2, rw2, hd2⟩ := u
  obtain ⟨rfl, hu2⟩ := hw
  change u2 = S at hu2
  change va_P _ vwCl (wM ad cL cZ cI u2 rw2 hd2) _ at hP
  change va_D _ (wM ad cL cZ cI u2 rw2 hd2) at hD
  rw [hu2] at hP hD
  exact W.lret (v := (mE se (foN (nI (4 + 1)).toInt64 (vp_updL (vp_updL (vp_updL (vp_updL (vp_updL rw1 1 (M_word S (m_sd S q.toNatClampNeg))) 2 (m_cn S q.toNatClampNeg)) 3 cm.toInt64) 4 pa) 0 (se ^^^ 92)) (4 + 1)))) hx hb hr (fun t ht hW => ⟨⟨_, (S, rw2, hd2), rfl, ⟨(congrArg (mE se) (foN5 _ _)), rfl⟩, by rw [ht]; exact hP, va_K.moved hW.alike hK, hD⟩, hS.F ht⟩) hS.2.2 dX1_rightFor_55
set_option maxHeartbeats 4000000 in
set_option maxRecDepth 100000 in
theorem c_X1_present (l : Launch) (dC : Nat → ClassId) (dI : Nat → Nat → Nat) (ad : Nat → Nat) (cL cZ cI : ClassId) (S : SM) (ro hd : Nat → Int64) (sz : Nat) (v : Int64)  : Met l yX1_present wsX1_present ({ frames := 0, cells := 0, slots := 0, locals := 0 }) (va_Pc [.ref (ad 0), .long v] (fun U => U.heap.size = sz ∧ va_P (dC, dI) vwCl (wM ad cL cZ cI S ro hd) U.heap ∧ va_K (dC, dI) vwCl (tyM cL cZ cI) U ∧ va_D (fun _ => True) (wM ad cL cZ cI S ro hd))) (va_Qv (fun (u : SMr) => u.1 = mu_pr S v) (xB (dC, dI) (wMr ad cL cZ cI) (tyM cL cZ cI) (va_A (wM ad cL cZ cI S ro hd) sz)) (va_A (wM ad cL cZ cI S ro hd) sz)) 0 0 (va_A (wM ad cL cZ cI S ro hd) sz) := by
  refine Met.ofW (cc := cX1_present) (maxL := 3) (ret := none) (by decide) rfl ?_
  intro p e s m args below meth c s₁ B hml hv
  obtain ⟨rfl, hsz, hP, hK, hD0⟩ := hv
  have hx := B.exec
  have hb := B.bytes
  have hr := B.returns
  have hts := atoms_spec (ws := wsX1_present) B.pre
  have hown : s.vm.findClass RX1 = some m.cls := findClass_of_methodNamed B.named
  have hlocks := B.notSynchronized
  have hin : ∀ w ∈ wsX10, w ∈ wsX1_present := fun _ h => List.mem_cons_of_mem _ (List.mem_append_right _ h)
  subst hsz
  have hD := hD0.self (sz := s.heap.size)
  generalize hAe : va_A (wM ad cL cZ cI S ro hd) s.heap.size = A at hD ⊢
  have hA : ∀ q : Nat, s.heap.size ≤ q → A q := fun q h => by rw [← hAe]; exact Or.inr h
  have hS : va_S A s.heap s.heap [] := va_S.rf
  have hl := lv_entry ([.ref (ad 0), .long v]) (n := 3) (Nat.le_of_ble_eq_true rfl)
  rw [lg_entry_eq]
  generalize (lg_sl ([.ref (ad 0), .long v]) ++ List.replicate (3 - (lg_sl ([.ref (ad 0), .long v])).length) Slot.unset).toArray = ls at hl ⊢
  have hl : lv_has ls 3 [(0, .ref (ad 0)), (1, .long v)] := hl
  refine lv_aload_n hx hb dX1_present_0 rfl (lv_at hl 0 rfl) ?_
  refine lv_lload_n hx hb dX1_present_1 rfl (lv_at hl 1 rfl) ?_
  refine p_m_pr hx hb hts hin hown hK hP hD hS (hts (.fieldLink RX1 117 RX1 "proof" "J") (by decide +kernel)) dX1_present_2 (fun H locs hP hD hS => ?_)
  exact W.vret hx hb hr (fun t ht hW => ⟨⟨((mu_pr S v), ro, hd), rfl, rfl, by rw [ht]; exact hP, va_K.moved hW.alike hK, hD⟩, hS.F ht⟩) hS.2.2 dX1_present_5
set_option maxHeartbeats 4000000 in
set_option maxRecDepth 100000 in
theorem c_X1_prove (l : Launch) (dC : Nat → ClassId) (dI : Nat → Nat → Nat) (ad : Nat → Nat) (cL cZ cI : ClassId) (S : SM) (ro hd : Nat → Int64) (sz : Nat) (se : Int64) (q : Int32) (cm : Int32) (a : Int32) (b : Int64) (hB : okB (m_bc S)) : Met l yX1_prove wsX1_prove ({ frames := 4, cells := 0, slots := 0, locals := 100 }) (va_Pc [.ref (ad 0), .long se, .int q, .int cm, .int a, .long b] (fun U => U.heap.size = sz ∧ va_P (dC, dI) vwCl (wM ad cL cZ cI S ro hd) U.heap ∧ va_K (dC, dI) vwCl (tyM cL cZ cI) U ∧ va_D (fun _ => True) (wM ad cL cZ cI S ro hd))) (va_Qi (fun r (u : SMr) => r = (M_prove S se q cm a b).1 ∧ u.1 = (M_prove S se q cm a b).2) (xB (dC, dI) (wMr ad cL cZ cI) (tyM cL cZ cI) (va_A (wM ad cL cZ cI S ro hd) sz)) (va_A (wM ad cL cZ cI S ro hd) sz)) 0 0 (va_A (wM ad cL cZ cI S ro hd) sz) := by
  refine Met.ofW (cc := cX1_prove) (maxL := 10) (ret := (some .boolean)) (by decide) rfl ?_
  intro p e s m args below meth c s₁ B hml hv
  obtain ⟨rfl, hsz, hP, hK, hD0⟩ := hv
  have hx := B.exec
  have hb := B.bytes
  have hr := B.returns
  have hts := atoms_spec (ws := wsX1_prove) B.pre
  have hown : s.vm.findClass RX1 = some m.cls := findClass_of_methodNamed B.named
  have hlocks := B.notSynchronized
  have hin : ∀ w ∈ wsX10, w ∈ wsX1_prove := fun _ h => List.mem_cons_of_mem _ (List.mem_append_right _ h)
  subst hsz
  have hD := hD0.self (sz := s.heap.size)
  generalize hAe : va_A (wM ad cL cZ cI S ro hd) s.heap.size = A at hD ⊢
  have hA : ∀ q : Nat, s.heap.size ≤ q → A q := fun q h => by rw [← hAe]; exact Or.inr h
  have hS : va_S A s.heap s.heap [] := va_S.rf
  have hl := lv_entry ([.ref (ad 0), .long se, .int q, .int cm, .int a, .long b]) (n := 10) (Nat.le_of_ble_eq_true rfl)
  rw [lg_entry_eq]
  generalize (lg_sl ([.ref (ad 0), .long se, .int q, .int cm, .int a, .long b]) ++ List.replicate (10 - (lg_sl ([.ref (ad 0), .long se, .int q, .int cm, .int a, .long b])).length) Slot.unset).toArray = ls at hl ⊢
  have hl : lv_has ls 10 [(0, .ref (ad 0)), (1, .long se), (3, .int q), (4, .int cm), (5, .int a), (6, .long b)] := hl
  refine lv_aload_n hx hb dX1_prove_0 rfl (lv_at hl 0 rfl) ?_
  refine lv_iload_n hx hb dX1_prove_1 rfl (lv_at hl 2 rfl) ?_
  refine vp_callSi (va_Run.run (va_runV (As := [.int q]) (rest := []) ⟨hx, hb, hml, hown, hts⟩ (c_X1_hasSession l dC dI ad cL cZ cI S ro hd q ) (cwV 1 hts gX1_prove_X1_hasSession rfl rfl rfl (by decide +kernel) ⟨Nat.le_of_ble_eq_true rfl, Nat.le_of_ble_eq_true rfl⟩) (xpV_r [.int q] hK hP (va_recv hK hP (ci := 1) (q0 := 0) rfl rfl)) rfl rfl hl.1 rfl (lv_room (Nat.le_of_ble_eq_true rfl)) dX1_prove_2 ⟨Nat.le_of_ble_eq_true rfl, Nat.le_of_ble_eq_true rfl⟩)) (fun r hr9 => ?_)
  subst hr9
  refine lv_if_eq (tgt := 35) hx hb dX1_prove_5 (by decide) (fun c5 => ?_) (fun c5 => ?_)
  · skip
    refine lv_iconst (v := 0) hx hb dX1_prove_35 (by decide) ?_
    exact W.zret (v := (0 : Int32)) hx hb hr rfl (fun t ht hW => ⟨⟨_, (S, ro, hd), rfl, ⟨(by simp only [M_prove, M_param, if_pos c5] <;> rfl), (by simp only [M_prove, M_param, if_pos c5] <;> rfl)⟩, by rw [ht]; exact hP, va_K.moved hW.alike hK, hD⟩, hS.F ht⟩) hS.2.2 dX1_prove_36
  · skip
    have hq := M_hasSession_in c5
    refine lv_iload hx hb dX1_prove_8 (lv_at hl 3 rfl) ?_
    refine lv_iconst (v := 1) hx hb dX1_prove_10 (by decide) ?_
    refine lv_icmp_lt (tgt := 35) hx hb dX1_prove_11 (by decide) (fun c11 => ?_) (fun c11 => ?_)
    · skip
      refine lv_iconst (v := 0) hx hb dX1_prove_35 (by decide) ?_
      exact W.zret (v := (0 : Int32)) hx hb hr rfl (fun t ht hW => ⟨⟨_, (S, ro, hd), rfl, ⟨(by simp only [M_prove, M_param, if_neg c5, if_pos c11] <;> rfl), (by simp only [M_prove, M_param, if_neg c5, if_pos c11] <;> rfl)⟩, by rw [ht]; exact hP, va_K.moved hW.alike hK, hD⟩, hS.F ht⟩) hS.2.2 dX1_prove_36
    · skip
      refine lv_iload hx hb dX1_prove_14 (lv_at hl 3 rfl) ?_
      refine lv_iconst (v := 3) hx hb dX1_prove_16 (by decide) ?_
      refine lv_icmp_gt (tgt := 35) hx hb dX1_prove_17 (by decide) (fun c17 => ?_) (fun c17 => ?_)
      · skip
        refine lv_iconst (v := 0) hx hb dX1_prove_35 (by decide) ?_
        exact W.zret (v := (0 : Int32)) hx hb hr rfl (fun t ht hW => ⟨⟨_, (S, ro, hd), rfl, ⟨(by simp only [M_prove, M_param, if_neg c5, if_neg c11, if_pos c17] <;> rfl), (by simp only [M_prove, M_param, if_neg c5, if_neg c11, if_pos c17] <;> rfl)⟩, by rw [ht]; exact hP, va_K.moved hW.alike hK, hD⟩, hS.F ht⟩) hS.2.2 dX1_prove_36
      · skip
        refine lv_iload hx hb dX1_prove_20 (lv_at hl 3 rfl) ?_
        refine lv_iconst (v := 2) hx hb dX1_prove_22 (by decide) ?_
        refine lv_icmp_ne (tgt := 37) hx hb dX1_prove_23 (by decide) (fun c23 => ?_) (fun c23 => ?_)
        · skip
          refine lv_iload hx hb dX1_prove_37 (lv_at hl 3 rfl) ?_
          refine lv_iconst (v := 2) hx hb dX1_prove_39 (by decide) ?_
          refine lv_icmp_ne (tgt := 58) hx hb dX1_prove_40 (by decide) (fun c40 => ?_) (fun c40 => ?_)
          · skip
            refine lv_aload_n hx hb dX1_prove_58 rfl (lv_at hl 0 rfl) ?_
            refine lv_iload hx hb dX1_prove_59 (lv_at hl 4 rfl) ?_
            refine lv_i2l hx hb dX1_prove_61 rfl ?_
            refine lv_lload hx hb dX1_prove_62 (lv_at hl 5 rfl) ?_
            refine xcall_l (va_runV (As := [.long a.toInt64, .long b]) (rest := []) ⟨hx, hb, hml, hown, hts⟩ (c_X1_two l dC dI ad cL cZ cI S ro hd s.heap.size a.toInt64 b ) (cwV 2 hts gX1_prove_X1_two rfl rfl rfl (by decide +kernel) ⟨Nat.le_of_ble_eq_true rfl, Nat.le_of_ble_eq_true rfl⟩) (xpV_w [.long a.toInt64, .long b] hK hP hD (va_recv hK hP (ci := 1) (q0 := 0) rfl rfl)) rfl rfl hl.1 rfl (lv_room (Nat.le_of_ble_eq_true rfl)) dX1_prove_64 ⟨Nat.le_of_ble_eq_true rfl, Nat.le_of_ble_eq_true rfl⟩) hD hS hA (fun r u H locs hw hP hD hS => ?_)
            obtain ⟨u1, rw1, hd1⟩ := u
            obtain ⟨rfl, hu1, hh1⟩ := hw
            change hd1 = hd at hh1
            change u1 = S at hu1
            change va_P _ vwCl (wM ad cL cZ cI u1 rw1 hd1) _ at hP
            change va_D _ (wM ad cL cZ cI u1 rw1 hd1) at hD
            rw [hu1, hh1] at hP hD
            refine lv_lstore (lv' := [(8, .long (h2 a.toInt64 b)), (0, .ref (ad 0)), (1, .long se), (3, .int q), (4, .int cm), (5, .int a), (6, .long b)]) hx hb dX1_prove_67 hl (by decide) rfl (fun ls hl => ?_)
            refine lv_aload_n hx hb dX1_prove_69 rfl (lv_at hl 1 rfl) ?_
            refine lv_aload_n hx hb dX1_prove_70 rfl (lv_at hl 1 rfl) ?_
            refine lv_lload_n hx hb dX1_prove_71 rfl (lv_at hl 2 rfl) ?_
            refine lv_iload_n hx hb dX1_prove_72 rfl (lv_at hl 3 rfl) ?_
            refine lv_iload hx hb dX1_prove_73 (lv_at hl 4 rfl) ?_
            refine lv_lload hx hb dX1_prove_75 (lv_at hl 0 rfl) ?_
            refine xcall_l (va_runV (As := [.long se, .int q, .int cm, .long (h2 a.toInt64 b)]) (rest := [.ref (ad 0)]) ⟨hx, hb, hml, hown, hts⟩ (c_X1_rightFor l dC dI ad cL cZ cI S rw1 hd H.size se q cm (h2 a.toInt64 b) hq ) (cwV 4 hts gX1_prove_X1_rightFor rfl rfl rfl (by decide +kernel) ⟨Nat.le_of_ble_eq_true rfl, Nat.le_of_ble_eq_true rfl⟩) (xpV_w [.long se, .int q, .int cm, .long (h2 a.toInt64 b)] hK hP hD (va_recv hK hP (ci := 1) (q0 := 0) rfl rfl)) rfl rfl hl.1 rfl (lv_room (Nat.le_of_ble_eq_true rfl)) dX1_prove_77 ⟨Nat.le_of_ble_eq_true rfl, Nat.le_of_ble_eq_true rfl⟩) hD hS hA (fun r u H locs hw hP hD hS => ?_)
            obtain ⟨u2, rw2, hd2⟩ := u
            obtain ⟨rfl, hu2⟩ := hw
            change u2 = S at hu2
            change va_P _ vwCl (wM ad cL cZ cI u2 rw2 hd2) _ at hP
            change va_D _ (wM ad cL cZ cI u2 rw2 hd2) at hD
            rw [hu2] at hP hD
            refine p_m_pr hx hb hts hin hown hK hP hD hS (hts (.fieldLink RX1 117 RX1 "proof" "J") (by decide +kernel)) dX1_prove_80 (fun H locs hP hD hS => ?_)
            refine lv_iconst (v := 1) hx hb dX1_prove_83 (by decide) ?_
            exact W.zret (v := (1 : Int32)) hx hb hr rfl (fun t ht hW => ⟨⟨_, ((mu_pr S (M_rightFor S se q cm (h2 a.toInt64 b))), rw2, hd2), rfl, ⟨(by simp only [M_prove, M_param, if_neg c5, if_neg c11, if_neg c17, if_neg c23, if_neg c40] <;> rfl), (by simp only [M_prove, M_param, if_neg c5, if_neg c11, if_neg c17, if_neg c23, if_neg c40] <;> rfl)⟩, by rw [ht]; exact hP, va_K.moved hW.alike hK, hD⟩, hS.F ht⟩) hS.2.2 dX1_prove_84
          · skip
            exact absurd c40 c23
        · skip
          refine lv_aload_n hx hb dX1_prove_26 rfl (lv_at hl 0 rfl) ?_
          refine lv_iload hx hb dX1_prove_27 (lv_at hl 4 rfl) ?_
          refine vp_callSi (va_Run.run (va_runV (As := [.int a]) (rest := []) ⟨hx, hb, hml, hown, hts⟩ (c_X1_hasBlob l dC dI ad cL cZ cI S ro hd a ) (cwV 1 hts gX1_prove_X1_hasBlob rfl rfl rfl (by decide +kernel) ⟨Nat.le_of_ble_eq_true rfl, Nat.le_of_ble_eq_true rfl⟩) (xpV_r [.int a] hK hP (va_recv hK hP (ci := 1) (q0 := 0) rfl rfl)) rfl rfl hl.1 rfl (lv_room (Nat.le_of_ble_eq_true rfl)) dX1_prove_29 ⟨Nat.le_of_ble_eq_true rfl, Nat.le_of_ble_eq_true rfl⟩)) (fun r hr9 => ?_)
          subst hr9
          refine lv_if_ne (tgt := 37) hx hb dX1_prove_32 (by decide) (fun c32 => ?_) (fun c32 => ?_)
          · skip
            have ha := M_hasBlob_in hB c32
            refine lv_iload hx hb dX1_prove_37 (lv_at hl 3 rfl) ?_
            refine lv_iconst (v := 2) hx hb dX1_prove_39 (by decide) ?_
            refine lv_icmp_ne (tgt := 58) hx hb dX1_prove_40 (by decide) (fun c40 => ?_) (fun c40 => ?_)
            · skip
              exact absurd c23 c40
            · skip
              refine lv_aload_n hx hb dX1_prove_43 rfl (lv_at hl 0 rfl) ?_
              refine g_m_abw hx hb hts hin hown hK hP (hts (.fieldLink RX1 36 RX1 "blobWord" "[J") (by decide +kernel)) dX1_prove_44 ?_
              refine lv_bipush (v := 6) hx hb dX1_prove_47 (by decide) ?_
              refine lv_iload hx hb dX1_prove_49 (lv_at hl 4 rfl) ?_
              refine lv_imul hx hb dX1_prove_51 ?_
              refine lv_iconst (v := 5) hx hb dX1_prove_52 (by decide) ?_
              refine lv_iadd hx hb dX1_prove_53 ?_
              refine l_m_bw hx hb hK hP (xat6 ha (xat_nI (by decide) (by decide))) dX1_prove_54 ?_
              refine lv_goto (tgt := 67) hx hb dX1_prove_55 (by decide) ?_
              refine lv_lstore (lv' := [(8, .long (m_bw S (6 * a.toNatClampNeg + 5))), (0, .ref (ad 0)), (1, .long se), (3, .int q), (4, .int cm), (5, .int a), (6, .long b)]) hx hb dX1_prove_67 hl (by decide) rfl (fun ls hl => ?_)
              refine lv_aload_n hx hb dX1_prove_69 rfl (lv_at hl 1 rfl) ?_
              refine lv_aload_n hx hb dX1_prove_70 rfl (lv_at hl 1 rfl) ?_
              refine lv_lload_n hx hb dX1_prove_71 rfl (lv_at hl 2 rfl) ?_
              refine lv_iload_n hx hb dX1_prove_72 rfl (lv_at hl 3 rfl) ?_
              refine lv_iload hx hb dX1_prove_73 (lv_at hl 4 rfl) ?_
              refine lv_lload hx hb dX1_prove_75 (lv_at hl 0 rfl) ?_
              refine xcall_l (va_runV (As := [.long se, .int q, .int cm, .long (m_bw S (6 * a.toNatClampNeg + 5))]) (rest := [.ref (ad 0)]) ⟨hx, hb, hml, hown, hts⟩ (c_X1_rightFor l dC dI ad cL cZ cI S ro hd s.heap.size se q cm (m_bw S (6 * a.toNatClampNeg + 5)) hq ) (cwV 4 hts gX1_prove_X1_rightFor rfl rfl rfl (by decide +kernel) ⟨Nat.le_of_ble_eq_true rfl, Nat.le_of_ble_eq_true rfl⟩) (xpV_w [.long se, .int q, .int cm, .long (m_bw S (6 * a.toNatClampNeg + 5))] hK hP hD (va_recv hK hP (ci := 1) (q0 := 0) rfl rfl)) rfl rfl hl.1 rfl (lv_room (Nat.le_of_ble_eq_true rfl)) dX1_prove_77 ⟨Nat.le_of_ble_eq_true rfl, Nat.le_of_ble_eq_true rfl⟩) hD hS hA (fun r u H locs hw hP hD hS => ?_)
              obtain ⟨u1, rw1, hd1⟩ := u
              obtain ⟨rfl, hu1⟩ := hw
              change u1 = S at hu1
              change va_P _ vwCl (wM ad cL cZ cI u1 rw1 hd1) _ at hP
              change va_D _ (wM ad cL cZ cI u1 rw1 hd1) at hD
              rw [hu1] at hP hD
              refine p_m_pr hx hb hts hin hown hK hP hD hS (hts (.fieldLink RX1 117 RX1 "proof" "J") (by decide +kernel)) dX1_prove_80 (fun H locs hP hD hS => ?_)
              refine lv_iconst (v := 1) hx hb dX1_prove_83 (by decide) ?_
              exact W.zret (v := (1 : Int32)) hx hb hr rfl (fun t ht hW => ⟨⟨_, ((mu_pr S (M_rightFor S se q cm (m_bw S (6 * a.toNatClampNeg + 5)))), rw1, hd1), rfl, ⟨(by simp only [M_prove, M_param, if_neg c5, if_neg c11, if_neg c17, if_pos c23, if_neg c32, if_pos c40] <;> rfl), (by simp only [M_prove, M_param, if_neg c5, if_neg c11, if_neg c17, if_pos c23, if_neg c32, if_pos c40] <;> rfl)⟩, by rw [ht]; exact hP, va_K.moved hW.alike hK, hD⟩, hS.F ht⟩) hS.2.2 dX1_prove_84
          · skip
            refine lv_iconst (v := 0) hx hb dX1_prove_35 (by decide) ?_
            exact W.zret (v := (0 : Int32)) hx hb hr rfl (fun t ht hW => ⟨⟨_, (S, ro, hd), rfl, ⟨(by simp only [M_prove, M_param, if_neg c5, if_neg c11, if_neg c17, if_pos c23, if_pos c32] <;> rfl), (by simp only [M_prove, M_param, if_neg c5, if_neg c11, if_neg c17, if_pos c23, if_pos c32] <;> rfl)⟩, by rw [ht]; exact hP, va_K.moved hW.alike hK, hD⟩, hS.F ht⟩) hS.2.2 dX1_prove_36
set_option maxHeartbeats 4000000 in
set_option maxRecDepth 100000 in
theorem c_X1_proved (l : Launch) (dC : Nat → ClassId) (dI : Nat → Nat → Nat) (ad : Nat → Nat) (cL cZ cI : ClassId) (S : SM) (ro hd : Nat → Int64) (sz : Nat) (q : Int32) (k : Int32) (cm : Int32) (pa : Int64) (hq : vp_in q 4) (hk : vp_in k 6) : Met l yX1_proved wsX1_proved ({ frames := 4, cells := 0, slots := 0, locals := 100 }) (va_Pc [.ref (ad 0), .int q, .int k, .int cm, .long pa] (fun U => U.heap.size = sz ∧ va_P (dC, dI) vwCl (wM ad cL cZ cI S ro hd) U.heap ∧ va_K (dC, dI) vwCl (tyM cL cZ cI) U ∧ va_D (fun _ => True) (wM ad cL cZ cI S ro hd))) (va_Qi (fun r (u : SMr) => r = (M_proved S q k cm pa).1 ∧ u.1 = (M_proved S q k cm pa).2) (xB (dC, dI) (wMr ad cL cZ cI) (tyM cL cZ cI) (va_A (wM ad cL cZ cI S ro hd) sz)) (va_A (wM ad cL cZ cI S ro hd) sz)) 0 0 (va_A (wM ad cL cZ cI S ro hd) sz) := by
  refine Met.ofW (cc := cX1_proved) (maxL := 7) (ret := (some .boolean)) (by decide) rfl ?_
  intro p e s m args below meth c s₁ B hml hv
  obtain ⟨rfl, hsz, hP, hK, hD0⟩ := hv
  have hx := B.exec
  have hb := B.bytes
  have hr := B.returns
  have hts := atoms_spec (ws := wsX1_proved) B.pre
  have hown : s.vm.findClass RX1 = some m.cls := findClass_of_methodNamed B.named
  have hlocks := B.notSynchronized
  have hin : ∀ w ∈ wsX10, w ∈ wsX1_proved := fun _ h => List.mem_cons_of_mem _ (List.mem_append_right _ h)
  subst hsz
  have hD := hD0.self (sz := s.heap.size)
  generalize hAe : va_A (wM ad cL cZ cI S ro hd) s.heap.size = A at hD ⊢
  have hA : ∀ q : Nat, s.heap.size ≤ q → A q := fun q h => by rw [← hAe]; exact Or.inr h
  have hS : va_S A s.heap s.heap [] := va_S.rf
  have hl := lv_entry ([.ref (ad 0), .int q, .int k, .int cm, .long pa]) (n := 7) (Nat.le_of_ble_eq_true rfl)
  rw [lg_entry_eq]
  generalize (lg_sl ([.ref (ad 0), .int q, .int k, .int cm, .long pa]) ++ List.replicate (7 - (lg_sl ([.ref (ad 0), .int q, .int k, .int cm, .long pa])).length) Slot.unset).toArray = ls at hl ⊢
  have hl : lv_has ls 7 [(0, .ref (ad 0)), (1, .int q), (2, .int k), (3, .int cm), (4, .long pa)] := hl
  refine lv_aload_n hx hb dX1_proved_0 rfl (lv_at hl 0 rfl) ?_
  refine g_m_pr hx hb hts hin hown hK hP (hts (.fieldLink RX1 117 RX1 "proof" "J") (by decide +kernel)) dX1_proved_1 ?_
  refine lv_aload_n hx hb dX1_proved_4 rfl (lv_at hl 0 rfl) ?_
  refine lv_aload_n hx hb dX1_proved_5 rfl (lv_at hl 0 rfl) ?_
  refine g_m_aks hx hb hts hin hown hK hP (hts (.fieldLink RX1 21 RX1 "keySecret" "[J") (by decide +kernel)) dX1_proved_6 ?_
  refine lv_iload_n hx hb dX1_proved_9 rfl (lv_at hl 2 rfl) ?_
  refine l_m_ks hx hb hK hP (xat_self hk) dX1_proved_10 ?_
  refine lv_iload_n hx hb dX1_proved_11 rfl (lv_at hl 1 rfl) ?_
  refine lv_iload_n hx hb dX1_proved_12 rfl (lv_at hl 3 rfl) ?_
  refine lv_lload hx hb dX1_proved_13 (lv_at hl 4 rfl) ?_
  refine xcall_l (va_runV (As := [.long (m_ks S k.toNatClampNeg), .int q, .int cm, .long pa]) (rest := [.long (m_pr S)]) ⟨hx, hb, hml, hown, hts⟩ (c_X1_rightFor l dC dI ad cL cZ cI S ro hd s.heap.size (m_ks S k.toNatClampNeg) q cm pa hq ) (cwV 4 hts gX1_proved_X1_rightFor rfl rfl rfl (by decide +kernel) ⟨Nat.le_of_ble_eq_true rfl, Nat.le_of_ble_eq_true rfl⟩) (xpV_w [.long (m_ks S k.toNatClampNeg), .int q, .int cm, .long pa] hK hP hD (va_recv hK hP (ci := 1) (q0 := 0) rfl rfl)) rfl rfl hl.1 rfl (lv_room (Nat.le_of_ble_eq_true rfl)) dX1_proved_15 ⟨Nat.le_of_ble_eq_true rfl, Nat.le_of_ble_eq_true rfl⟩) hD hS hA (fun r u H locs hw hP hD hS => ?_)
  obtain ⟨u1, rw1, hd1⟩ := u
  obtain ⟨rfl, hu1⟩ := hw
  change u1 = S at hu1
  change va_P _ vwCl (wM ad cL cZ cI u1 rw1 hd1) _ at hP
  change va_D _ (wM ad cL cZ cI u1 rw1 hd1) at hD
  rw [hu1] at hP hD
  refine W.lcmp hx hb dX1_proved_18 ?_
  refine lv_if_ne (tgt := 26) hx hb dX1_proved_19 (by decide) (fun c19 => ?_) (fun c19 => ?_)
  · skip
    refine lv_iconst (v := 0) hx hb dX1_proved_26 (by decide) ?_
    refine lv_istore (lv' := [(6, .int (0 : Int32)), (0, .ref (ad 0)), (1, .int q), (2, .int k), (3, .int cm), (4, .long pa)]) hx hb dX1_proved_27 hl (by decide) rfl (fun ls hl => ?_)
    refine lv_aload_n hx hb dX1_proved_29 rfl (lv_at hl 1 rfl) ?_
    refine lv_dup hx hb dX1_proved_30 rfl ?_
    refine g_m_dr hx hb hts hin hown hK hP (hts (.fieldLink RX1 93 RX1 "drawn" "J") (by decide +kernel)) dX1_proved_31 ?_
    refine lv_lconst (v := 1) hx hb dX1_proved_34 (by decide) ?_
    refine lv_ladd hx hb dX1_proved_35 ?_
    refine p_m_dr hx hb hts hin hown hK hP hD hS (hts (.fieldLink RX1 93 RX1 "drawn" "J") (by decide +kernel)) dX1_proved_36 (fun H locs hP hD hS => ?_)
    refine lv_aload_n hx hb dX1_proved_39 rfl (lv_at hl 1 rfl) ?_
    refine g_m_asd hx hb hts hin hown hK hP (hts (.fieldLink RX1 33 RX1 "sessionDrawn" "[J") (by decide +kernel)) dX1_proved_40 ?_
    refine lv_iload_n hx hb dX1_proved_43 rfl (lv_at hl 2 rfl) ?_
    refine lv_aload_n hx hb dX1_proved_44 rfl (lv_at hl 1 rfl) ?_
    refine g_m_dr hx hb hts hin hown hK hP (hts (.fieldLink RX1 93 RX1 "drawn" "J") (by decide +kernel)) dX1_proved_45 ?_
    refine s_m_sd hx hb hK hP hD hS (xat_self hq) dX1_proved_48 (fun H locs hP hD hS => ?_)
    have hP : va_P (dC, dI) vwCl (wM ad cL cZ cI (M_anew S q) rw1 hd1) H := hP
    have hD : va_D A (wM ad cL cZ cI (M_anew S q) rw1 hd1) := hD
    refine lv_aload_n hx hb dX1_proved_49 rfl (lv_at hl 1 rfl) ?_
    refine lv_iload hx hb dX1_proved_50 (lv_at hl 0 rfl) ?_
    refine lv_if_eq (tgt := 59) hx hb dX1_proved_52 (by decide) (fun c52 => ?_) (fun c52 => ?_)
    · skip
      refine lv_aload_n hx hb dX1_proved_59 rfl (lv_at hl 1 rfl) ?_
      refine g_m_fa hx hb hts hin hown hK hP (hts (.fieldLink RX1 120 RX1 "failures" "I") (by decide +kernel)) dX1_proved_60 ?_
      refine lv_iconst (v := 1) hx hb dX1_proved_63 (by decide) ?_
      refine lv_iadd hx hb dX1_proved_64 ?_
      refine p_m_fa hx hb hts hin hown hK hP hD hS (hts (.fieldLink RX1 120 RX1 "failures" "I") (by decide +kernel)) dX1_proved_65 (fun H locs hP hD hS => ?_)
      refine lv_aload_n hx hb dX1_proved_68 rfl (lv_at hl 1 rfl) ?_
      refine lv_iload hx hb dX1_proved_69 (lv_at hl 0 rfl) ?_
      refine lv_if_eq (tgt := 81) hx hb dX1_proved_71 (by decide) (fun c71 => ?_) (fun c71 => ?_)
      · skip
        refine lv_lconst (v := 0) hx hb dX1_proved_81 (by decide) ?_
        refine p_m_ou hx hb hts hin hown hK hP hD hS (hts (.fieldLink RX1 123 RX1 "output" "J") (by decide +kernel)) dX1_proved_82 (fun H locs hP hD hS => ?_)
        refine lv_iload hx hb dX1_proved_85 (lv_at hl 0 rfl) ?_
        exact W.zret (v := (0 : Int32)) hx hb hr rfl (fun t ht hW => ⟨⟨_, ((mu_ou (mu_fa (M_anew S q) ((m_fa (M_anew S q)) + (1 : Int32))) (0 : Int64)), rw1, hd1), rfl, ⟨(by simp only [M_proved, if_neg c19, if_pos c52, if_pos c71] <;> rfl), (by simp only [M_proved, if_neg c19, if_pos c52, if_pos c71] <;> rfl)⟩, by rw [ht]; exact hP, va_K.moved hW.alike hK, hD⟩, hS.F ht⟩) hS.2.2 dX1_proved_87
      · skip
        exact absurd c52 c71
    · skip
      exact absurd c52 (by decide)
  · skip
    refine lv_iconst (v := 1) hx hb dX1_proved_22 (by decide) ?_
    refine lv_goto (tgt := 27) hx hb dX1_proved_23 (by decide) ?_
    refine lv_istore (lv' := [(6, .int (1 : Int32)), (0, .ref (ad 0)), (1, .int q), (2, .int k), (3, .int cm), (4, .long pa)]) hx hb dX1_proved_27 hl (by decide) rfl (fun ls hl => ?_)
    refine lv_aload_n hx hb dX1_proved_29 rfl (lv_at hl 1 rfl) ?_
    refine lv_dup hx hb dX1_proved_30 rfl ?_
    refine g_m_dr hx hb hts hin hown hK hP (hts (.fieldLink RX1 93 RX1 "drawn" "J") (by decide +kernel)) dX1_proved_31 ?_
    refine lv_lconst (v := 1) hx hb dX1_proved_34 (by decide) ?_
    refine lv_ladd hx hb dX1_proved_35 ?_
    refine p_m_dr hx hb hts hin hown hK hP hD hS (hts (.fieldLink RX1 93 RX1 "drawn" "J") (by decide +kernel)) dX1_proved_36 (fun H locs hP hD hS => ?_)
    refine lv_aload_n hx hb dX1_proved_39 rfl (lv_at hl 1 rfl) ?_
    refine g_m_asd hx hb hts hin hown hK hP (hts (.fieldLink RX1 33 RX1 "sessionDrawn" "[J") (by decide +kernel)) dX1_proved_40 ?_
    refine lv_iload_n hx hb dX1_proved_43 rfl (lv_at hl 2 rfl) ?_
    refine lv_aload_n hx hb dX1_proved_44 rfl (lv_at hl 1 rfl) ?_
    refine g_m_dr hx hb hts hin hown hK hP (hts (.fieldLink RX1 93 RX1 "drawn" "J") (by decide +kernel)) dX1_proved_45 ?_
    refine s_m_sd hx hb hK hP hD hS (xat_self hq) dX1_proved_48 (fun H locs hP hD hS => ?_)
    have hP : va_P (dC, dI) vwCl (wM ad cL cZ cI (M_anew S q) rw1 hd1) H := hP
    have hD : va_D A (wM ad cL cZ cI (M_anew S q) rw1 hd1) := hD
    refine lv_aload_n hx hb dX1_proved_49 rfl (lv_at hl 1 rfl) ?_
    refine lv_iload hx hb dX1_proved_50 (lv_at hl 0 rfl) ?_
    refine lv_if_eq (tgt := 59) hx hb dX1_proved_52 (by decide) (fun c52 => ?_) (fun c52 => ?_)
    · skip
      exact absurd c52 (by decide)
    · skip
      refine lv_iconst (v := 0) hx hb dX1_proved_55 (by decide) ?_
      refine lv_goto (tgt := 65) hx hb dX1_proved_56 (by decide) ?_
      refine p_m_fa hx hb hts hin hown hK hP hD hS (hts (.fieldLink RX1 120 RX1 "failures" "I") (by decide +kernel)) dX1_proved_65 (fun H locs hP hD hS => ?_)
      refine lv_aload_n hx hb dX1_proved_68 rfl (lv_at hl 1 rfl) ?_
      refine lv_iload hx hb dX1_proved_69 (lv_at hl 0 rfl) ?_
      refine lv_if_eq (tgt := 81) hx hb dX1_proved_71 (by decide) (fun c71 => ?_) (fun c71 => ?_)
      · skip
        exact absurd c71 c52
      · skip
        refine lv_aload_n hx hb dX1_proved_74 rfl (lv_at hl 1 rfl) ?_
        refine g_m_ou hx hb hts hin hown hK hP (hts (.fieldLink RX1 123 RX1 "output" "J") (by decide +kernel)) dX1_proved_75 ?_
        refine lv_goto (tgt := 82) hx hb dX1_proved_78 (by decide) ?_
        refine p_m_ou hx hb hts hin hown hK hP hD hS (hts (.fieldLink RX1 123 RX1 "output" "J") (by decide +kernel)) dX1_proved_82 (fun H locs hP hD hS => ?_)
        refine lv_iload hx hb dX1_proved_85 (lv_at hl 0 rfl) ?_
        exact W.zret (v := (1 : Int32)) hx hb hr rfl (fun t ht hW => ⟨⟨_, ((mu_ou (mu_fa (M_anew S q) (0 : Int32)) (m_ou (mu_fa (M_anew S q) (0 : Int32)))), rw1, hd1), rfl, ⟨(by simp only [M_proved, if_pos c19, if_neg c52, if_neg c71] <;> rfl), (by simp only [M_proved, if_pos c19, if_neg c52, if_neg c71] <;> rfl)⟩, by rw [ht]; exact hP, va_K.moved hW.alike hK, hD⟩, hS.F ht⟩) hS.2.2 dX1_proved_87
