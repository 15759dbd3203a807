set_option maxHeartbeats 4000000 in
set_option maxRecDepth 100000 in
theorem c_X0_prove (l : Launch) (dC : Nat → ClassId) (dI : Nat → Nat → Nat) (ad : Nat → Nat) (cL cZ cO : ClassId) (S : SX) (sz : Nat) (secret : Int64) (q : Int32) (cm : Int32) (a : Int32) (b : Int64) (hB : okB (x_bc S)) : Met l yX0_prove wsX0_prove ({ frames := 4, cells := 0, slots := 0, locals := 99 }) (va_Pc [.ref (ad 0), .long secret, .int q, .int cm, .int a, .long b] (fun U => U.heap.size = sz ∧ va_P (dC, dI) vwCl (wX ad cL cZ cO S) U.heap ∧ va_K (dC, dI) vwCl (tyX cL cZ cO) U ∧ va_D (fun _ => True) (wX ad cL cZ cO S))) (va_Qi (fun r u => r = (X_prove S secret q cm a b).1 ∧ u = (X_prove S secret q cm a b).2) (xB (dC, dI) (wX ad cL cZ cO) (tyX cL cZ cO) (va_A (wX ad cL cZ cO S) sz)) (va_A (wX ad cL cZ cO S) sz)) 0 0 (va_A (wX ad cL cZ cO S) sz) := by
  refine Met.ofW (cc := cX0_prove) (maxL := 10) (ret := (some .boolean)) (by decide) rfl ?_
  intro p e s m args below meth c s₁ B hml hv
  obtain ⟨rfl, hsz, hP, hK, hD0⟩ := hv
  have hx := B.exec
  have hb := B.bytes
  have hr := B.returns
  have hts := atoms_spec (ws := wsX0_prove) B.pre
  have hown : s.vm.findClass RX0 = some m.cls := findClass_of_methodNamed B.named
  have hlocks := B.notSynchronized
  have hin : ∀ w ∈ wsX00, w ∈ wsX0_prove := fun _ h => List.mem_cons_of_mem _ (List.mem_append_right _ h)
  subst hsz
  have hD := hD0.self (sz := s.heap.size)
  generalize hAe : va_A (wX ad cL cZ cO S) s.heap.size = A at hD ⊢
  have hA : ∀ q : Nat, s.heap.size ≤ q → A q := fun q h => by rw [← hAe]; exact Or.inr h
  have hS : va_S A s.heap s.heap [] := va_S.rf
  have hl := lv_entry ([.ref (ad 0), .long secret, .int q, .int cm, .int a, .long b]) (n := 10) (Nat.le_of_ble_eq_true rfl)
  rw [lg_entry_eq]
  generalize (lg_sl ([.ref (ad 0), .long secret, .int q, .int cm, .int a, .long b]) ++ List.replicate (10 - (lg_sl ([.ref (ad 0), .long secret, .int q, .int cm, .int a, .long b])).length) Slot.unset).toArray = ls at hl ⊢
  have hl : lv_has ls 10 [(0, .ref (ad 0)), (1, .long secret), (3, .int q), (4, .int cm), (5, .int a), (6, .long b)] := hl
  refine lv_aload_n hx hb dX0_prove_0 rfl (lv_at hl 0 rfl) ?_
  refine lv_iload_n hx hb dX0_prove_1 rfl (lv_at hl 2 rfl) ?_
  refine vp_callSi (va_Run.run (va_runV (As := [.int q]) (rest := []) ⟨hx, hb, hml, hown, hts⟩ (c_X0_isSession l dC dI ad cL cZ cO S q ) (cwV 1 hts gX0_prove_X0_isSession rfl rfl rfl (by decide +kernel) ⟨Nat.le_of_ble_eq_true rfl, Nat.le_of_ble_eq_true rfl⟩) (xpV_r [.int q] hK hP (va_recv hK hP (ci := 0) (q0 := 0) rfl rfl)) rfl rfl hl.1 rfl (lv_room (Nat.le_of_ble_eq_true rfl)) dX0_prove_2 ⟨Nat.le_of_ble_eq_true rfl, Nat.le_of_ble_eq_true rfl⟩)) (fun r hr9 => ?_)
  subst hr9
  refine lv_if_eq (tgt := 20) hx hb dX0_prove_5 (by decide) (fun c5 => ?_) (fun c5 => ?_)
  · skip
    refine lv_iconst (v := 0) hx hb dX0_prove_20 (by decide) ?_
    exact W.zret (v := (0 : Int32)) hx hb hr rfl (fun t ht hW => ⟨⟨_, S, rfl, ⟨(by simp only [X_prove, X_param, if_pos c5] <;> rfl), (by simp only [X_prove, X_param, if_pos c5] <;> rfl)⟩, by rw [ht]; exact hP, va_K.moved hW.alike hK, hD⟩, hS.F ht⟩) hS.2.2 dX0_prove_21
  · skip
    have hq := X_isSession_in c5
    refine lv_iload hx hb dX0_prove_8 (lv_at hl 3 rfl) ?_
    refine lv_iconst (v := 1) hx hb dX0_prove_10 (by decide) ?_
    refine lv_icmp_lt (tgt := 20) hx hb dX0_prove_11 (by decide) (fun c11 => ?_) (fun c11 => ?_)
    · skip
      refine lv_iconst (v := 0) hx hb dX0_prove_20 (by decide) ?_
      exact W.zret (v := (0 : Int32)) hx hb hr rfl (fun t ht hW => ⟨⟨_, S, rfl, ⟨(by simp only [X_prove, X_param, if_neg c5, if_pos c11] <;> rfl), (by simp only [X_prove, X_param, if_neg c5, if_pos c11] <;> rfl)⟩, by rw [ht]; exact hP, va_K.moved hW.alike hK, hD⟩, hS.F ht⟩) hS.2.2 dX0_prove_21
    · skip
      refine lv_iload hx hb dX0_prove_14 (lv_at hl 3 rfl) ?_
      refine lv_iconst (v := 3) hx hb dX0_prove_16 (by decide) ?_
      refine lv_icmp_le (tgt := 22) hx hb dX0_prove_17 (by decide) (fun c17 => ?_) (fun c17 => ?_)
      · skip
        refine lv_iload hx hb dX0_prove_22 (lv_at hl 3 rfl) ?_
        refine lv_iconst (v := 2) hx hb dX0_prove_24 (by decide) ?_
        refine lv_icmp_ne (tgt := 39) hx hb dX0_prove_25 (by decide) (fun c25 => ?_) (fun c25 => ?_)
        · skip
          refine lv_iload hx hb dX0_prove_39 (lv_at hl 3 rfl) ?_
          refine lv_iconst (v := 2) hx hb dX0_prove_41 (by decide) ?_
          refine lv_icmp_ne (tgt := 57) hx hb dX0_prove_42 (by decide) (fun c42 => ?_) (fun c42 => ?_)
          · skip
            refine lv_iload hx hb dX0_prove_57 (lv_at hl 4 rfl) ?_
            refine lv_i2l hx hb dX0_prove_59 rfl ?_
            refine lv_lload hx hb dX0_prove_60 (lv_at hl 5 rfl) ?_
            refine vp_callSl (va_Run.run (va_runS (As := [.long a.toInt64, .long b]) (rest := []) ⟨hx, hb, hml, hown, hts⟩ (c_X0_hash2 l a.toInt64 b ) (va_cwS 2 hts gX0_prove_X0_hash2 rfl rfl rfl (by decide +kernel) ⟨Nat.le_of_ble_eq_true rfl, Nat.le_of_ble_eq_true rfl⟩) (xpS_n _) rfl rfl hl.1 rfl (lv_room (Nat.le_of_ble_eq_true rfl)) dX0_prove_62 ⟨Nat.le_of_ble_eq_true rfl, Nat.le_of_ble_eq_true rfl⟩)) (fun r hr9 => ?_)
            subst hr9
            refine lv_lstore (lv' := [(8, .long (h2 a.toInt64 b)), (0, .ref (ad 0)), (1, .long secret), (3, .int q), (4, .int cm), (5, .int a), (6, .long b)]) hx hb dX0_prove_65 hl (by decide) rfl (fun ls hl => ?_)
            refine lv_aload_n hx hb dX0_prove_67 rfl (lv_at hl 1 rfl) ?_
            refine lv_aload_n hx hb dX0_prove_68 rfl (lv_at hl 1 rfl) ?_
            refine lv_lload_n hx hb dX0_prove_69 rfl (lv_at hl 2 rfl) ?_
            refine lv_iload_n hx hb dX0_prove_70 rfl (lv_at hl 3 rfl) ?_
            refine lv_iload hx hb dX0_prove_71 (lv_at hl 4 rfl) ?_
            refine lv_lload hx hb dX0_prove_73 (lv_at hl 0 rfl) ?_
            refine vp_callSl (va_Run.run (va_runV (As := [.long secret, .int q, .int cm, .long (h2 a.toInt64 b)]) (rest := [.ref (ad 0)]) ⟨hx, hb, hml, hown, hts⟩ (c_X0_rightProof l dC dI ad cL cZ cO S secret q cm (h2 a.toInt64 b) hq) (cwV 4 hts gX0_prove_X0_rightProof rfl rfl rfl (by decide +kernel) ⟨Nat.le_of_ble_eq_true rfl, Nat.le_of_ble_eq_true rfl⟩) (xpV_r [.long secret, .int q, .int cm, .long (h2 a.toInt64 b)] hK hP (va_recv hK hP (ci := 0) (q0 := 0) rfl rfl)) rfl rfl hl.1 rfl (lv_room (Nat.le_of_ble_eq_true rfl)) dX0_prove_75 ⟨Nat.le_of_ble_eq_true rfl, Nat.le_of_ble_eq_true rfl⟩)) (fun r hr9 => ?_)
            subst hr9
            refine p_x_pr hx hb hts hin hown hK hP hD hS (hts (.fieldLink RX0 85 RX0 "proof" "J") (by decide +kernel)) dX0_prove_78 (fun H locs hP hD hS => ?_)
            refine lv_iconst (v := 1) hx hb dX0_prove_81 (by decide) ?_
            exact W.zret (v := (1 : Int32)) hx hb hr rfl (fun t ht hW => ⟨⟨_, (xu_pr S (X_rightProof S secret q cm (h2 a.toInt64 b))), rfl, ⟨(by simp only [X_prove, X_param, if_neg c5, if_neg c11, if_pos c17, if_neg c25, if_neg c42] <;> rfl), (by simp only [X_prove, X_param, if_neg c5, if_neg c11, if_pos c17, if_neg c25, if_neg c42] <;> rfl)⟩, by rw [ht]; exact hP, va_K.moved hW.alike hK, hD⟩, hS.F ht⟩) hS.2.2 dX0_prove_82
          · skip
            exact absurd c42 c25
        · skip
          refine lv_aload_n hx hb dX0_prove_28 rfl (lv_at hl 0 rfl) ?_
          refine lv_iload hx hb dX0_prove_29 (lv_at hl 4 rfl) ?_
          refine vp_callSi (va_Run.run (va_runV (As := [.int a]) (rest := []) ⟨hx, hb, hml, hown, hts⟩ (c_X0_isBlob l dC dI ad cL cZ cO S a ) (cwV 1 hts gX0_prove_X0_isBlob rfl rfl rfl (by decide +kernel) ⟨Nat.le_of_ble_eq_true rfl, Nat.le_of_ble_eq_true rfl⟩) (xpV_r [.int a] hK hP (va_recv hK hP (ci := 0) (q0 := 0) rfl rfl)) rfl rfl hl.1 rfl (lv_room (Nat.le_of_ble_eq_true rfl)) dX0_prove_31 ⟨Nat.le_of_ble_eq_true rfl, Nat.le_of_ble_eq_true rfl⟩)) (fun r hr9 => ?_)
          subst hr9
          refine lv_if_ne (tgt := 39) hx hb dX0_prove_34 (by decide) (fun c34 => ?_) (fun c34 => ?_)
          · skip
            have ha := X_isBlob_in hB c34
            refine lv_iload hx hb dX0_prove_39 (lv_at hl 3 rfl) ?_
            refine lv_iconst (v := 2) hx hb dX0_prove_41 (by decide) ?_
            refine lv_icmp_ne (tgt := 57) hx hb dX0_prove_42 (by decide) (fun c42 => ?_) (fun c42 => ?_)
            · skip
              exact absurd c25 c42
            · skip
              refine lv_aload_n hx hb dX0_prove_45 rfl (lv_at hl 0 rfl) ?_
              refine g_x_abl hx hb hts hin hown hK hP (hts (.fieldLink RX0 42 RX0 "blobs" "[[J") (by decide +kernel)) dX0_prove_46 ?_
              refine lv_iload hx hb dX0_prove_49 (lv_at hl 4 rfl) ?_
              refine l_x_bl hx hb hK hP (xat_self ha) dX0_prove_51 ?_
              refine lv_iconst (v := 5) hx hb dX0_prove_52 (by decide) ?_
              refine l_x_row hx hb hK hP (xat_lt (xat_self ha)) (xat_nI (by decide) (by decide)) dX0_prove_53 ?_
              refine lv_goto (tgt := 65) hx hb dX0_prove_54 (by decide) ?_
              refine lv_lstore (lv' := [(8, .long (x_bl S a.toNatClampNeg 5)), (0, .ref (ad 0)), (1, .long secret), (3, .int q), (4, .int cm), (5, .int a), (6, .long b)]) hx hb dX0_prove_65 hl (by decide) rfl (fun ls hl => ?_)
              refine lv_aload_n hx hb dX0_prove_67 rfl (lv_at hl 1 rfl) ?_
              refine lv_aload_n hx hb dX0_prove_68 rfl (lv_at hl 1 rfl) ?_
              refine lv_lload_n hx hb dX0_prove_69 rfl (lv_at hl 2 rfl) ?_
              refine lv_iload_n hx hb dX0_prove_70 rfl (lv_at hl 3 rfl) ?_
              refine lv_iload hx hb dX0_prove_71 (lv_at hl 4 rfl) ?_
              refine lv_lload hx hb dX0_prove_73 (lv_at hl 0 rfl) ?_
              refine vp_callSl (va_Run.run (va_runV (As := [.long secret, .int q, .int cm, .long (x_bl S a.toNatClampNeg 5)]) (rest := [.ref (ad 0)]) ⟨hx, hb, hml, hown, hts⟩ (c_X0_rightProof l dC dI ad cL cZ cO S secret q cm (x_bl S a.toNatClampNeg 5) hq) (cwV 4 hts gX0_prove_X0_rightProof rfl rfl rfl (by decide +kernel) ⟨Nat.le_of_ble_eq_true rfl, Nat.le_of_ble_eq_true rfl⟩) (xpV_r [.long secret, .int q, .int cm, .long (x_bl S a.toNatClampNeg 5)] hK hP (va_recv hK hP (ci := 0) (q0 := 0) rfl rfl)) rfl rfl hl.1 rfl (lv_room (Nat.le_of_ble_eq_true rfl)) dX0_prove_75 ⟨Nat.le_of_ble_eq_true rfl, Nat.le_of_ble_eq_true rfl⟩)) (fun r hr9 => ?_)
              subst hr9
              refine p_x_pr hx hb hts hin hown hK hP hD hS (hts (.fieldLink RX0 85 RX0 "proof" "J") (by decide +kernel)) dX0_prove_78 (fun H locs hP hD hS => ?_)
              refine lv_iconst (v := 1) hx hb dX0_prove_81 (by decide) ?_
              exact W.zret (v := (1 : Int32)) hx hb hr rfl (fun t ht hW => ⟨⟨_, (xu_pr S (X_rightProof S secret q cm (x_bl S a.toNatClampNeg 5))), rfl, ⟨(by simp only [X_prove, X_param, if_neg c5, if_neg c11, if_pos c17, if_pos c25, if_neg c34, if_pos c42] <;> rfl), (by simp only [X_prove, X_param, if_neg c5, if_neg c11, if_pos c17, if_pos c25, if_neg c34, if_pos c42] <;> rfl)⟩, by rw [ht]; exact hP, va_K.moved hW.alike hK, hD⟩, hS.F ht⟩) hS.2.2 dX0_prove_82
          · skip
            refine lv_iconst (v := 0) hx hb dX0_prove_37 (by decide) ?_
            exact W.zret (v := (0 : Int32)) hx hb hr rfl (fun t ht hW => ⟨⟨_, S, rfl, ⟨(by simp only [X_prove, X_param, if_neg c5, if_neg c11, if_pos c17, if_pos c25, if_pos c34] <;> rfl), (by simp only [X_prove, X_param, if_neg c5, if_neg c11, if_pos c17, if_pos c25, if_pos c34] <;> rfl)⟩, by rw [ht]; exact hP, va_K.moved hW.alike hK, hD⟩, hS.F ht⟩) hS.2.2 dX0_prove_38
      · skip
        refine lv_iconst (v := 0) hx hb dX0_prove_20 (by decide) ?_
        exact W.zret (v := (0 : Int32)) hx hb hr rfl (fun t ht hW => ⟨⟨_, S, rfl, ⟨(by simp only [X_prove, X_param, if_neg c5, if_neg c11, if_neg c17] <;> rfl), (by simp only [X_prove, X_param, if_neg c5, if_neg c11, if_neg c17] <;> rfl)⟩, by rw [ht]; exact hP, va_K.moved hW.alike hK, hD⟩, hS.F ht⟩) hS.2.2 dX0_prove_21
set_option maxHeartbeats 4000000 in
set_option maxRecDepth 100000 in
theorem c_X0_addBlob (l : Launch) (dC : Nat → ClassId) (dI : Nat → Nat → Nat) (ad : Nat → Nat) (cL cZ cO : ClassId) (S : SX) (sz : Nat) (name : Int64) (mask : Int32) (data : Int64) (hB : vp_in (x_bc S) 10) : Met l yX0_addBlob wsX0_addBlob ({ frames := 4, cells := 0, slots := 0, locals := 95 }) (va_Pc [.ref (ad 0), .long name, .int mask, .long data] (fun U => U.heap.size = sz ∧ va_P (dC, dI) vwCl (wX ad cL cZ cO S) U.heap ∧ va_K (dC, dI) vwCl (tyX cL cZ cO) U ∧ va_D (fun _ => True) (wX ad cL cZ cO S))) (va_Qi (fun r u => r = (X_addBlob S name mask data).1 ∧ u = (X_addBlob S name mask data).2) (xB (dC, dI) (wX ad cL cZ cO) (tyX cL cZ cO) (va_A (wX ad cL cZ cO S) sz)) (va_A (wX ad cL cZ cO S) sz)) 0 0 (va_A (wX ad cL cZ cO S) sz) := by
  refine Met.ofW (cc := cX0_addBlob) (maxL := 12) (ret := (some .int)) (by decide) rfl ?_
  intro p e s m args below meth c s₁ B hml hv
  obtain ⟨rfl, hsz, hP, hK, hD0⟩ := hv
  have hx := B.exec
  have hb := B.bytes
  have hr := B.returns
  have hts := atoms_spec (ws := wsX0_addBlob) B.pre
  have hown : s.vm.findClass RX0 = some m.cls := findClass_of_methodNamed B.named
  have hlocks := B.notSynchronized
  have hin : ∀ w ∈ wsX00, w ∈ wsX0_addBlob := fun _ h => List.mem_cons_of_mem _ (List.mem_append_right _ h)
  subst hsz
  have hD := hD0.self (sz := s.heap.size)
  generalize hAe : va_A (wX ad cL cZ cO S) s.heap.size = A at hD ⊢
  have hA : ∀ q : Nat, s.heap.size ≤ q → A q := fun q h => by rw [← hAe]; exact Or.inr h
  have hS : va_S A s.heap s.heap [] := va_S.rf
  have hl := lv_entry ([.ref (ad 0), .long name, .int mask, .long data]) (n := 12) (Nat.le_of_ble_eq_true rfl)
  rw [lg_entry_eq]
  generalize (lg_sl ([.ref (ad 0), .long name, .int mask, .long data]) ++ List.replicate (12 - (lg_sl ([.ref (ad 0), .long name, .int mask, .long data])).length) Slot.unset).toArray = ls at hl ⊢
  have hl : lv_has ls 12 [(0, .ref (ad 0)), (1, .long name), (3, .int mask), (4, .long data)] := hl
  refine lv_aload_n hx hb dX0_addBlob_0 rfl (lv_at hl 0 rfl) ?_
  refine g_x_bc hx hb hts hin hown hK hP (hts (.fieldLink RX0 92 RX0 "blobCount" "I") (by decide +kernel)) dX0_addBlob_1 ?_
  refine lv_istore (lv' := [(6, .int (x_bc S)), (0, .ref (ad 0)), (1, .long name), (3, .int mask), (4, .long data)]) hx hb dX0_addBlob_4 hl (by decide) rfl (fun ls hl => ?_)
  refine lv_aload_n hx hb dX0_addBlob_6 rfl (lv_at hl 1 rfl) ?_
  refine g_x_abl hx hb hts hin hown hK hP (hts (.fieldLink RX0 42 RX0 "blobs" "[[J") (by decide +kernel)) dX0_addBlob_7 ?_
  refine lv_iload hx hb dX0_addBlob_10 (lv_at hl 0 rfl) ?_
  refine l_x_bl hx hb hK hP (xat_self hB) dX0_addBlob_12 ?_
  refine lv_astore (lv' := [(7, .ref (ad (9 + ((x_bc S).toNatClampNeg)))), (6, .int (x_bc S)), (0, .ref (ad 0)), (1, .long name), (3, .int mask), (4, .long data)]) hx hb dX0_addBlob_13 hl (by decide) rfl (fun ls hl => ?_)
  refine lv_aload_n hx hb dX0_addBlob_15 rfl (lv_at hl 2 rfl) ?_
  refine lv_iload_n hx hb dX0_addBlob_16 rfl (lv_at hl 4 rfl) ?_
  refine vp_callSl (va_Run.run (va_runV (As := [.int mask]) (rest := []) ⟨hx, hb, hml, hown, hts⟩ (c_X0_digestNow l dC dI ad cL cZ cO S mask ) (cwV 1 hts gX0_addBlob_X0_digestNow rfl rfl rfl (by decide +kernel) ⟨Nat.le_of_ble_eq_true rfl, Nat.le_of_ble_eq_true rfl⟩) (xpV_r [.int mask] hK hP (va_recv hK hP (ci := 0) (q0 := 0) rfl rfl)) rfl rfl hl.1 rfl (lv_room (Nat.le_of_ble_eq_true rfl)) dX0_addBlob_17 ⟨Nat.le_of_ble_eq_true rfl, Nat.le_of_ble_eq_true rfl⟩)) (fun r hr9 => ?_)
  subst hr9
  refine lv_lstore (lv' := [(8, .long (X_digestNow S mask)), (7, .ref (ad (9 + ((x_bc S).toNatClampNeg)))), (6, .int (x_bc S)), (0, .ref (ad 0)), (1, .long name), (3, .int mask), (4, .long data)]) hx hb dX0_addBlob_20 hl (by decide) rfl (fun ls hl => ?_)
  refine lv_aload_n hx hb dX0_addBlob_22 rfl (lv_at hl 3 rfl) ?_
  refine xcall_l (va_runV (As := []) (rest := []) ⟨hx, hb, hml, hown, hts⟩ (c_X0_draw l dC dI ad cL cZ cO S s.heap.size  ) (cwV 0 hts gX0_addBlob_X0_draw rfl rfl rfl (by decide +kernel) ⟨Nat.le_of_ble_eq_true rfl, Nat.le_of_ble_eq_true rfl⟩) (xpV_w [] hK hP hD (va_recv hK hP (ci := 0) (q0 := 0) rfl rfl)) rfl rfl hl.1 rfl (lv_room (Nat.le_of_ble_eq_true rfl)) dX0_addBlob_23 ⟨Nat.le_of_ble_eq_true rfl, Nat.le_of_ble_eq_true rfl⟩) hD hS hA (fun r u H locs hw hP hD hS => ?_)
  obtain ⟨rfl, rfl⟩ := hw
  refine lv_lstore (lv' := [(10, .long ((X_draw S).1)), (8, .long (X_digestNow S mask)), (7, .ref (ad (9 + ((x_bc S).toNatClampNeg)))), (6, .int (x_bc S)), (0, .ref (ad 0)), (1, .long name), (3, .int mask), (4, .long data)]) hx hb dX0_addBlob_26 hl (by decide) rfl (fun ls hl => ?_)
  refine lv_aload hx hb dX0_addBlob_28 (lv_at hl 2 rfl) ?_
  refine lv_iconst (v := 0) hx hb dX0_addBlob_30 (by decide) ?_
  refine lv_lload_n hx hb dX0_addBlob_31 rfl (lv_at hl 5 rfl) ?_
  refine s_x_row hx hb hK hP hD hS (xat_lt (xat_self hB)) (xat_nI (by decide) (by decide)) dX0_addBlob_32 (fun H locs hP hD hS => ?_)
  have hP : va_P (dC, dI) vwCl (wX ad cL cZ cO (X_put ((X_draw S).2) ((x_bc S).toNatClampNeg) 0 name)) H := hP
  have hD : va_D A (wX ad cL cZ cO (X_put ((X_draw S).2) ((x_bc S).toNatClampNeg) 0 name)) := hD
  refine lv_aload hx hb dX0_addBlob_33 (lv_at hl 2 rfl) ?_
  refine lv_iconst (v := 1) hx hb dX0_addBlob_35 (by decide) ?_
  refine lv_iload_n hx hb dX0_addBlob_36 rfl (lv_at hl 6 rfl) ?_
  refine lv_i2l hx hb dX0_addBlob_37 rfl ?_
  refine s_x_row hx hb hK hP hD hS (xat_lt (xat_self hB)) (xat_nI (by decide) (by decide)) dX0_addBlob_38 (fun H locs hP hD hS => ?_)
  have hP : va_P (dC, dI) vwCl (wX ad cL cZ cO (X_put (X_put ((X_draw S).2) ((x_bc S).toNatClampNeg) 0 name) ((x_bc S).toNatClampNeg) 1 mask.toInt64)) H := hP
  have hD : va_D A (wX ad cL cZ cO (X_put (X_put ((X_draw S).2) ((x_bc S).toNatClampNeg) 0 name) ((x_bc S).toNatClampNeg) 1 mask.toInt64)) := hD
  refine lv_aload hx hb dX0_addBlob_39 (lv_at hl 2 rfl) ?_
  refine lv_iconst (v := 2) hx hb dX0_addBlob_41 (by decide) ?_
  refine lv_lload hx hb dX0_addBlob_42 (lv_at hl 1 rfl) ?_
  refine s_x_row hx hb hK hP hD hS (xat_lt (xat_self hB)) (xat_nI (by decide) (by decide)) dX0_addBlob_44 (fun H locs hP hD hS => ?_)
  have hP : va_P (dC, dI) vwCl (wX ad cL cZ cO (X_put (X_put (X_put ((X_draw S).2) ((x_bc S).toNatClampNeg) 0 name) ((x_bc S).toNatClampNeg) 1 mask.toInt64) ((x_bc S).toNatClampNeg) 2 (X_digestNow S mask))) H := hP
  have hD : va_D A (wX ad cL cZ cO (X_put (X_put (X_put ((X_draw S).2) ((x_bc S).toNatClampNeg) 0 name) ((x_bc S).toNatClampNeg) 1 mask.toInt64) ((x_bc S).toNatClampNeg) 2 (X_digestNow S mask))) := hD
  refine lv_aload hx hb dX0_addBlob_45 (lv_at hl 2 rfl) ?_
  refine lv_iconst (v := 3) hx hb dX0_addBlob_47 (by decide) ?_
  refine lv_lload hx hb dX0_addBlob_48 (lv_at hl 0 rfl) ?_
  refine s_x_row hx hb hK hP hD hS (xat_lt (xat_self hB)) (xat_nI (by decide) (by decide)) dX0_addBlob_50 (fun H locs hP hD hS => ?_)
  have hP : va_P (dC, dI) vwCl (wX ad cL cZ cO (X_put (X_put (X_put (X_put ((X_draw S).2) ((x_bc S).toNatClampNeg) 0 name) ((x_bc S).toNatClampNeg) 1 mask.toInt64) ((x_bc S).toNatClampNeg) 2 (X_digestNow S mask)) ((x_bc S).toNatClampNeg) 3 ((X_draw S).1))) H := hP
  have hD : va_D A (wX ad cL cZ cO (X_put (X_put (X_put (X_put ((X_draw S).2) ((x_bc S).toNatClampNeg) 0 name) ((x_bc S).toNatClampNeg) 1 mask.toInt64) ((x_bc S).toNatClampNeg) 2 (X_digestNow S mask)) ((x_bc S).toNatClampNeg) 3 ((X_draw S).1))) := hD
  refine lv_aload hx hb dX0_addBlob_51 (lv_at hl 2 rfl) ?_
  refine lv_iconst (v := 4) hx hb dX0_addBlob_53 (by decide) ?_
  refine lv_lload hx hb dX0_addBlob_54 (lv_at hl 7 rfl) ?_
  refine lv_aload_n hx hb dX0_addBlob_56 rfl (lv_at hl 4 rfl) ?_
  refine lv_lload hx hb dX0_addBlob_57 (lv_at hl 0 rfl) ?_
  refine lv_lload hx hb dX0_addBlob_59 (lv_at hl 1 rfl) ?_
  refine vp_callSl (va_Run.run (va_runV (As := [.long ((X_draw S).1), .long (X_digestNow S mask)]) (rest := [.long data, .int (4 : Int32), .ref (ad (9 + ((x_bc S).toNatClampNeg)))]) ⟨hx, hb, hml, hown, hts⟩ (c_X0_cover l dC dI ad cL cZ cO (X_put (X_put (X_put (X_put ((X_draw S).2) ((x_bc S).toNatClampNeg) 0 name) ((x_bc S).toNatClampNeg) 1 mask.toInt64) ((x_bc S).toNatClampNeg) 2 (X_digestNow S mask)) ((x_bc S).toNatClampNeg) 3 ((X_draw S).1)) ((X_draw S).1) (X_digestNow S mask) ) (cwV 2 hts gX0_addBlob_X0_cover rfl rfl rfl (by decide +kernel) ⟨Nat.le_of_ble_eq_true rfl, Nat.le_of_ble_eq_true rfl⟩) (xpV_r [.long ((X_draw S).1), .long (X_digestNow S mask)] hK hP (va_recv hK hP (ci := 0) (q0 := 0) rfl rfl)) rfl rfl hl.1 rfl (lv_room (Nat.le_of_ble_eq_true rfl)) dX0_addBlob_61 ⟨Nat.le_of_ble_eq_true rfl, Nat.le_of_ble_eq_true rfl⟩)) (fun r hr9 => ?_)
  subst hr9
  refine lv_lxor hx hb dX0_addBlob_64 ?_
  refine s_x_row hx hb hK hP hD hS (xat_lt (xat_self hB)) (xat_nI (by decide) (by decide)) dX0_addBlob_65 (fun H locs hP hD hS => ?_)
  have hP : va_P (dC, dI) vwCl (wX ad cL cZ cO (X_put (X_put (X_put (X_put (X_put ((X_draw S).2) ((x_bc S).toNatClampNeg) 0 name) ((x_bc S).toNatClampNeg) 1 mask.toInt64) ((x_bc S).toNatClampNeg) 2 (X_digestNow S mask)) ((x_bc S).toNatClampNeg) 3 ((X_draw S).1)) ((x_bc S).toNatClampNeg) 4 (data ^^^ (X_cover (X_put (X_put (X_put (X_put ((X_draw S).2) ((x_bc S).toNatClampNeg) 0 name) ((x_bc S).toNatClampNeg) 1 mask.toInt64) ((x_bc S).toNatClampNeg) 2 (X_digestNow S mask)) ((x_bc S).toNatClampNeg) 3 ((X_draw S).1)) ((X_draw S).1) (X_digestNow S mask))))) H := hP
  have hD : va_D A (wX ad cL cZ cO (X_put (X_put (X_put (X_put (X_put ((X_draw S).2) ((x_bc S).toNatClampNeg) 0 name) ((x_bc S).toNatClampNeg) 1 mask.toInt64) ((x_bc S).toNatClampNeg) 2 (X_digestNow S mask)) ((x_bc S).toNatClampNeg) 3 ((X_draw S).1)) ((x_bc S).toNatClampNeg) 4 (data ^^^ (X_cover (X_put (X_put (X_put (X_put ((X_draw S).2) ((x_bc S).toNatClampNeg) 0 name) ((x_bc S).toNatClampNeg) 1 mask.toInt64) ((x_bc S).toNatClampNeg) 2 (X_digestNow S mask)) ((x_bc S).toNatClampNeg) 3 ((X_draw S).1)) ((X_draw S).1) (X_digestNow S mask))))) := hD
  have hP : va_P (dC, dI) vwCl (wX ad cL cZ cO (X_ab5 S (X_draw S).2 (x_bc S).toNatClampNeg name mask data (X_draw S).1)) H := hP
  have hD : va_D A (wX ad cL cZ cO (X_ab5 S (X_draw S).2 (x_bc S).toNatClampNeg name mask data (X_draw S).1)) := hD
  refine lv_aload hx hb dX0_addBlob_66 (lv_at hl 2 rfl) ?_
  refine lv_iconst (v := 5) hx hb dX0_addBlob_68 (by decide) ?_
  refine lv_aload_n hx hb dX0_addBlob_69 rfl (lv_at hl 4 rfl) ?_
  refine lv_aload hx hb dX0_addBlob_70 (lv_at hl 2 rfl) ?_
  refine vp_callSl (va_Run.run (va_runV (As := [.ref (ad (9 + ((x_bc S).toNatClampNeg)))]) (rest := [.int (5 : Int32), .ref (ad (9 + ((x_bc S).toNatClampNeg)))]) ⟨hx, hb, hml, hown, hts⟩ (c_X0_sealOf l dC dI ad cL cZ cO (X_ab5 S (X_draw S).2 (x_bc S).toNatClampNeg name mask data (X_draw S).1) ((x_bc S).toNatClampNeg) (xat_lt (xat_self hB)) ) (cwV 1 hts gX0_addBlob_X0_sealOf rfl rfl rfl (by decide +kernel) ⟨Nat.le_of_ble_eq_true rfl, Nat.le_of_ble_eq_true rfl⟩) (xpV_r [.ref (ad (9 + ((x_bc S).toNatClampNeg)))] hK hP (va_recv hK hP (ci := 0) (q0 := 0) rfl rfl)) rfl rfl hl.1 rfl (lv_room (Nat.le_of_ble_eq_true rfl)) dX0_addBlob_72 ⟨Nat.le_of_ble_eq_true rfl, Nat.le_of_ble_eq_true rfl⟩)) (fun r hr9 => ?_)
  subst hr9
  refine s_x_row hx hb hK hP hD hS (xat_lt (xat_self hB)) (xat_nI (by decide) (by decide)) dX0_addBlob_75 (fun H locs hP hD hS => ?_)
  have hP : va_P (dC, dI) vwCl (wX ad cL cZ cO (X_put (X_ab5 S (X_draw S).2 (x_bc S).toNatClampNeg name mask data (X_draw S).1) ((x_bc S).toNatClampNeg) 5 (X_sealOf (X_ab5 S (X_draw S).2 (x_bc S).toNatClampNeg name mask data (X_draw S).1) ((x_bc S).toNatClampNeg)))) H := hP
  have hD : va_D A (wX ad cL cZ cO (X_put (X_ab5 S (X_draw S).2 (x_bc S).toNatClampNeg name mask data (X_draw S).1) ((x_bc S).toNatClampNeg) 5 (X_sealOf (X_ab5 S (X_draw S).2 (x_bc S).toNatClampNeg name mask data (X_draw S).1) ((x_bc S).toNatClampNeg)))) := hD
  refine lv_aload_n hx hb dX0_addBlob_76 rfl (lv_at hl 4 rfl) ?_
  refine lv_iload hx hb dX0_addBlob_77 (lv_at hl 3 rfl) ?_
  refine lv_iconst (v := 1) hx hb dX0_addBlob_79 (by decide) ?_
  refine lv_iadd hx hb dX0_addBlob_80 ?_
  refine p_x_bc hx hb hts hin hown hK hP hD hS (hts (.fieldLink RX0 92 RX0 "blobCount" "I") (by decide +kernel)) dX0_addBlob_81 (fun H locs hP hD hS => ?_)
  refine lv_iload hx hb dX0_addBlob_84 (lv_at hl 3 rfl) ?_
  exact W.iret (v := (x_bc S)) hx hb hr (fun t ht hW => ⟨⟨_, (xu_bc (X_put (X_ab5 S (X_draw S).2 (x_bc S).toNatClampNeg name mask data (X_draw S).1) ((x_bc S).toNatClampNeg) 5 (X_sealOf (X_ab5 S (X_draw S).2 (x_bc S).toNatClampNeg name mask data (X_draw S).1) ((x_bc S).toNatClampNeg))) ((x_bc S) + (1 : Int32))), rfl, ⟨rfl, rfl⟩, by rw [ht]; exact hP, va_K.moved hW.alike hK, hD⟩, hS.F ht⟩) hS.2.2 dX0_addBlob_86
set_option maxHeartbeats 4000000 in
set_option maxRecDepth 100000 in
theorem c_X0_seal (l : Launch) (dC : Nat → ClassId) (dI : Nat → Nat → Nat) (ad : Nat → Nat) (cL cZ cO : ClassId) (S : SX) (sz : Nat) (q : Int32) (k : Int32) (mask : Int32) (data : Int64) (hB : okB (x_bc S)) : Met l yX0_seal wsX0_seal ({ frames := 5, cells := 0, slots := 0, locals := 126 }) (va_Pc [.ref (ad 0), .int q, .int k, .int mask, .long data] (fun U => U.heap.size = sz ∧ va_P (dC, dI) vwCl (wX ad cL cZ cO S) U.heap ∧ va_K (dC, dI) vwCl (tyX cL cZ cO) U ∧ va_D (fun _ => True) (wX ad cL cZ cO S))) (va_Qi (fun r u => r = (X_seal S q k mask data).1 ∧ u = (X_seal S q k mask data).2) (xB (dC, dI) (wX ad cL cZ cO) (tyX cL cZ cO) (va_A (wX ad cL cZ cO S) sz)) (va_A (wX ad cL cZ cO S) sz)) 0 0 (va_A (wX ad cL cZ cO S) sz) := by
  refine Met.ofW (cc := cX0_seal) (maxL := 6) (ret := (some .int)) (by decide) rfl ?_
  intro p e s m args below meth c s₁ B hml hv
  obtain ⟨rfl, hsz, hP, hK, hD0⟩ := hv
  have hx := B.exec
  have hb := B.bytes
  have hr := B.returns
  have hts := atoms_spec (ws := wsX0_seal) B.pre
  have hown : s.vm.findClass RX0 = some m.cls := findClass_of_methodNamed B.named
  have hlocks := B.notSynchronized
  have hin : ∀ w ∈ wsX00, w ∈ wsX0_seal := fun _ h => List.mem_cons_of_mem _ (List.mem_append_right _ h)
  subst hsz
  have hD := hD0.self (sz := s.heap.size)
  generalize hAe : va_A (wX ad cL cZ cO S) s.heap.size = A at hD ⊢
  have hA : ∀ q : Nat, s.heap.size ≤ q → A q := fun q h => by rw [← hAe]; exact Or.inr h
  have hS : va_S A s.heap s.heap [] := va_S.rf
  have hl := lv_entry ([.ref (ad 0), .int q, .int k, .int mask, .long data]) (n := 6) (Nat.le_of_ble_eq_true rfl)
  rw [lg_entry_eq]
  generalize (lg_sl ([.ref (ad 0), .int q, .int k, .int mask, .long data]) ++ List.replicate (6 - (lg_sl ([.ref (ad 0), .int q, .int k, .int mask, .long data])).length) Slot.unset).toArray = ls at hl ⊢
  have hl : lv_has ls 6 [(0, .ref (ad 0)), (1, .int q), (2, .int k), (3, .int mask), (4, .long data)] := hl
  refine lv_aload_n hx hb dX0_seal_0 rfl (lv_at hl 0 rfl) ?_
  refine lv_iload_n hx hb dX0_seal_1 rfl (lv_at hl 1 rfl) ?_
  refine vp_callSi (va_Run.run (va_runV (As := [.int q]) (rest := []) ⟨hx, hb, hml, hown, hts⟩ (c_X0_isSession l dC dI ad cL cZ cO S q ) (cwV 1 hts gX0_seal_X0_isSession rfl rfl rfl (by decide +kernel) ⟨Nat.le_of_ble_eq_true rfl, Nat.le_of_ble_eq_true rfl⟩) (xpV_r [.int q] hK hP (va_recv hK hP (ci := 0) (q0 := 0) rfl rfl)) rfl rfl hl.1 rfl (lv_room (Nat.le_of_ble_eq_true rfl)) dX0_seal_2 ⟨Nat.le_of_ble_eq_true rfl, Nat.le_of_ble_eq_true rfl⟩)) (fun r hr9 => ?_)
  subst hr9
  refine lv_if_eq (tgt := 24) hx hb dX0_seal_5 (by decide) (fun c5 => ?_) (fun c5 => ?_)
  · skip
    refine lv_iconst (v := -1) hx hb dX0_seal_24 (by decide) ?_
    exact W.iret (v := (-1 : Int32)) hx hb hr (fun t ht hW => ⟨⟨_, S, rfl, ⟨(by simp only [X_seal, if_pos c5] <;> rfl), (by simp only [X_seal, if_pos c5] <;> rfl)⟩, by rw [ht]; exact hP, va_K.moved hW.alike hK, hD⟩, hS.F ht⟩) hS.2.2 dX0_seal_25
  · skip
    have hq := X_isSession_in c5
    refine lv_aload_n hx hb dX0_seal_8 rfl (lv_at hl 0 rfl) ?_
    refine lv_iload_n hx hb dX0_seal_9 rfl (lv_at hl 2 rfl) ?_
    refine vp_callSi (va_Run.run (va_runV (As := [.int k]) (rest := []) ⟨hx, hb, hml, hown, hts⟩ (c_X0_isKey l dC dI ad cL cZ cO S k ) (cwV 1 hts gX0_seal_X0_isKey rfl rfl rfl (by decide +kernel) ⟨Nat.le_of_ble_eq_true rfl, Nat.le_of_ble_eq_true rfl⟩) (xpV_r [.int k] hK hP (va_recv hK hP (ci := 0) (q0 := 0) rfl rfl)) rfl rfl hl.1 rfl (lv_room (Nat.le_of_ble_eq_true rfl)) dX0_seal_10 ⟨Nat.le_of_ble_eq_true rfl, Nat.le_of_ble_eq_true rfl⟩)) (fun r hr9 => ?_)
    subst hr9
    refine lv_if_eq (tgt := 24) hx hb dX0_seal_13 (by decide) (fun c13 => ?_) (fun c13 => ?_)
    · skip
      refine lv_iconst (v := -1) hx hb dX0_seal_24 (by decide) ?_
      exact W.iret (v := (-1 : Int32)) hx hb hr (fun t ht hW => ⟨⟨_, S, rfl, ⟨(by simp only [X_seal, if_neg c5, if_pos c13] <;> rfl), (by simp only [X_seal, if_neg c5, if_pos c13] <;> rfl)⟩, by rw [ht]; exact hP, va_K.moved hW.alike hK, hD⟩, hS.F ht⟩) hS.2.2 dX0_seal_25
    · skip
      have hk := X_isKey_in c13
      refine lv_iload_n hx hb dX0_seal_16 rfl (lv_at hl 3 rfl) ?_
      refine lv_i2l hx hb dX0_seal_17 rfl ?_
      refine vp_callSi (va_Run.run (va_runS (As := [.long mask.toInt64]) (rest := []) ⟨hx, hb, hml, hown, hts⟩ (c_X0_isMask l mask.toInt64 ) (va_cwS 1 hts gX0_seal_X0_isMask rfl rfl rfl (by decide +kernel) ⟨Nat.le_of_ble_eq_true rfl, Nat.le_of_ble_eq_true rfl⟩) (xpS_n _) rfl rfl hl.1 rfl (lv_room (Nat.le_of_ble_eq_true rfl)) dX0_seal_18 ⟨Nat.le_of_ble_eq_true rfl, Nat.le_of_ble_eq_true rfl⟩)) (fun r hr9 => ?_)
      subst hr9
      refine lv_if_ne (tgt := 26) hx hb dX0_seal_21 (by decide) (fun c21 => ?_) (fun c21 => ?_)
      · skip
        refine lv_aload_n hx hb dX0_seal_26 rfl (lv_at hl 0 rfl) ?_
        refine vp_callSi (va_Run.run (va_runV (As := []) (rest := []) ⟨hx, hb, hml, hown, hts⟩ (c_X0_isLocked l dC dI ad cL cZ cO S  ) (cwV 0 hts gX0_seal_X0_isLocked rfl rfl rfl (by decide +kernel) ⟨Nat.le_of_ble_eq_true rfl, Nat.le_of_ble_eq_true rfl⟩) (xpV_r [] hK hP (va_recv hK hP (ci := 0) (q0 := 0) rfl rfl)) rfl rfl hl.1 rfl (lv_room (Nat.le_of_ble_eq_true rfl)) dX0_seal_27 ⟨Nat.le_of_ble_eq_true rfl, Nat.le_of_ble_eq_true rfl⟩)) (fun r hr9 => ?_)
        subst hr9
        refine lv_if_eq (tgt := 36) hx hb dX0_seal_30 (by decide) (fun c30 => ?_) (fun c30 => ?_)
        · skip
          refine lv_aload_n hx hb dX0_seal_36 rfl (lv_at hl 0 rfl) ?_
          refine g_x_bc hx hb hts hin hown hK hP (hts (.fieldLink RX0 92 RX0 "blobCount" "I") (by decide +kernel)) dX0_seal_37 ?_
          refine lv_bipush (v := 10) hx hb dX0_seal_40 (by decide) ?_
          refine lv_icmp_lt (tgt := 48) hx hb dX0_seal_42 (by decide) (fun c42 => ?_) (fun c42 => ?_)
          · skip
            have hb9 := okB_lt hB c42
            refine lv_aload_n hx hb dX0_seal_48 rfl (lv_at hl 0 rfl) ?_
            refine lv_aload_n hx hb dX0_seal_49 rfl (lv_at hl 0 rfl) ?_
            refine g_x_aks hx hb hts hin hown hK hP (hts (.fieldLink RX0 25 RX0 "keySecrets" "[J") (by decide +kernel)) dX0_seal_50 ?_
            refine lv_iload_n hx hb dX0_seal_53 rfl (lv_at hl 2 rfl) ?_
            refine l_x_ks hx hb hK hP (xat_self hk) dX0_seal_54 ?_
            refine lv_iload_n hx hb dX0_seal_55 rfl (lv_at hl 1 rfl) ?_
            refine lv_iconst (v := 1) hx hb dX0_seal_56 (by decide) ?_
            refine lv_iload_n hx hb dX0_seal_57 rfl (lv_at hl 3 rfl) ?_
            refine lv_i2l hx hb dX0_seal_58 rfl ?_
            refine lv_lload hx hb dX0_seal_59 (lv_at hl 4 rfl) ?_
            refine vp_callSl (va_Run.run (va_runS (As := [.long mask.toInt64, .long data]) (rest := [.int (1 : Int32), .int q, .long (x_ks S k.toNatClampNeg), .ref (ad 0)]) ⟨hx, hb, hml, hown, hts⟩ (c_X0_hash2 l mask.toInt64 data ) (va_cwS 2 hts gX0_seal_X0_hash2 rfl rfl rfl (by decide +kernel) ⟨Nat.le_of_ble_eq_true rfl, Nat.le_of_ble_eq_true rfl⟩) (xpS_n _) rfl rfl hl.1 rfl (lv_room (Nat.le_of_ble_eq_true rfl)) dX0_seal_61 ⟨Nat.le_of_ble_eq_true rfl, Nat.le_of_ble_eq_true rfl⟩)) (fun r hr9 => ?_)
            subst hr9
            refine xcall_i (va_runV (As := [.long (x_ks S k.toNatClampNeg), .int q, .int (1 : Int32), .long (h2 mask.toInt64 data)]) (rest := []) ⟨hx, hb, hml, hown, hts⟩ (c_X0_passesProving l dC dI ad cL cZ cO S s.heap.size (x_ks S k.toNatClampNeg) q (1 : Int32) (h2 mask.toInt64 data) hq) (cwV 4 hts gX0_seal_X0_passesProving rfl rfl rfl (by decide +kernel) ⟨Nat.le_of_ble_eq_true rfl, Nat.le_of_ble_eq_true rfl⟩) (xpV_w [.long (x_ks S k.toNatClampNeg), .int q, .int (1 : Int32), .long (h2 mask.toInt64 data)] hK hP hD (va_recv hK hP (ci := 0) (q0 := 0) rfl rfl)) rfl rfl hl.1 rfl (lv_room (Nat.le_of_ble_eq_true rfl)) dX0_seal_64 ⟨Nat.le_of_ble_eq_true rfl, Nat.le_of_ble_eq_true rfl⟩) hD hS hA (fun r u H locs hw hP hD hS => ?_)
            obtain ⟨rfl, rfl⟩ := hw
            refine lv_if_ne (tgt := 73) hx hb dX0_seal_67 (by decide) (fun c67 => ?_) (fun c67 => ?_)
            · skip
              refine lv_aload_n hx hb dX0_seal_73 rfl (lv_at hl 0 rfl) ?_
              refine lv_aload_n hx hb dX0_seal_74 rfl (lv_at hl 0 rfl) ?_
              refine g_x_akn hx hb hts hin hown hK hP (hts (.fieldLink RX0 28 RX0 "keyNames" "[J") (by decide +kernel)) dX0_seal_75 ?_
              refine lv_iload_n hx hb dX0_seal_78 rfl (lv_at hl 2 rfl) ?_
              refine l_x_kn hx hb hK hP (xat_self hk) dX0_seal_79 ?_
              refine lv_iload_n hx hb dX0_seal_80 rfl (lv_at hl 3 rfl) ?_
              refine lv_lload hx hb dX0_seal_81 (lv_at hl 4 rfl) ?_
              refine xcall_i (va_runV (As := [.long (x_kn ((X_passesProving S (x_ks S k.toNatClampNeg) q (1 : Int32) (h2 mask.toInt64 data)).2) k.toNatClampNeg), .int mask, .long data]) (rest := []) ⟨hx, hb, hml, hown, hts⟩ (c_X0_addBlob l dC dI ad cL cZ cO ((X_passesProving S (x_ks S k.toNatClampNeg) q (1 : Int32) (h2 mask.toInt64 data)).2) H.size (x_kn ((X_passesProving S (x_ks S k.toNatClampNeg) q (1 : Int32) (h2 mask.toInt64 data)).2) k.toNatClampNeg) mask data (X_pass_in hb9)) (cwV 3 hts gX0_seal_X0_addBlob rfl rfl rfl (by decide +kernel) ⟨Nat.le_of_ble_eq_true rfl, Nat.le_of_ble_eq_true rfl⟩) (xpV_w [.long (x_kn ((X_passesProving S (x_ks S k.toNatClampNeg) q (1 : Int32) (h2 mask.toInt64 data)).2) k.toNatClampNeg), .int mask, .long data] hK hP hD (va_recv hK hP (ci := 0) (q0 := 0) rfl rfl)) rfl rfl hl.1 rfl (lv_room (Nat.le_of_ble_eq_true rfl)) dX0_seal_83 ⟨Nat.le_of_ble_eq_true rfl, Nat.le_of_ble_eq_true rfl⟩) hD hS hA (fun r u H locs hw hP hD hS => ?_)
              obtain ⟨rfl, rfl⟩ := hw
              exact W.iret (v := (X_addBlob ((X_passesProving S (x_ks S k.toNatClampNeg) q (1 : Int32) (h2 mask.toInt64 data)).2) (x_kn ((X_passesProving S (x_ks S k.toNatClampNeg) q (1 : Int32) (h2 mask.toInt64 data)).2) k.toNatClampNeg) mask data).1) hx hb hr (fun t ht hW => ⟨⟨_, (X_addBlob ((X_passesProving S (x_ks S k.toNatClampNeg) q (1 : Int32) (h2 mask.toInt64 data)).2) (x_kn ((X_passesProving S (x_ks S k.toNatClampNeg) q (1 : Int32) (h2 mask.toInt64 data)).2) k.toNatClampNeg) mask data).2, rfl, ⟨(by simp only [X_seal, if_neg c5, if_neg c13, if_neg c21, if_pos c30, if_pos c42, if_neg c67] <;> rfl), (by simp only [X_seal, if_neg c5, if_neg c13, if_neg c21, if_pos c30, if_pos c42, if_neg c67] <;> rfl)⟩, by rw [ht]; exact hP, va_K.moved hW.alike hK, hD⟩, hS.F ht⟩) hS.2.2 dX0_seal_86
            · skip
              refine lv_bipush (v := -6) hx hb dX0_seal_70 (by decide) ?_
              exact W.iret (v := (-6 : Int32)) hx hb hr (fun t ht hW => ⟨⟨_, (X_passesProving S (x_ks S k.toNatClampNeg) q (1 : Int32) (h2 mask.toInt64 data)).2, rfl, ⟨(by simp only [X_seal, if_neg c5, if_neg c13, if_neg c21, if_pos c30, if_pos c42, if_pos c67] <;> rfl), (by simp only [X_seal, if_neg c5, if_neg c13, if_neg c21, if_pos c30, if_pos c42, if_pos c67] <;> rfl)⟩, by rw [ht]; exact hP, va_K.moved hW.alike hK, hD⟩, hS.F ht⟩) hS.2.2 dX0_seal_72
          · skip
            refine lv_bipush (v := -5) hx hb dX0_seal_45 (by decide) ?_
            exact W.iret (v := (-5 : Int32)) hx hb hr (fun t ht hW => ⟨⟨_, S, rfl, ⟨(by simp only [X_seal, if_neg c5, if_neg c13, if_neg c21, if_pos c30, if_neg c42] <;> rfl), (by simp only [X_seal, if_neg c5, if_neg c13, if_neg c21, if_pos c30, if_neg c42] <;> rfl)⟩, by rw [ht]; exact hP, va_K.moved hW.alike hK, hD⟩, hS.F ht⟩) hS.2.2 dX0_seal_47
        · skip
          refine lv_bipush (v := -2) hx hb dX0_seal_33 (by decide) ?_
          exact W.iret (v := (-2 : Int32)) hx hb hr (fun t ht hW => ⟨⟨_, S, rfl, ⟨(by simp only [X_seal, if_neg c5, if_neg c13, if_neg c21, if_neg c30] <;> rfl), (by simp only [X_seal, if_neg c5, if_neg c13, if_neg c21, if_neg c30] <;> rfl)⟩, by rw [ht]; exact hP, va_K.moved hW.alike hK, hD⟩, hS.F ht⟩) hS.2.2 dX0_seal_35
      · skip
        refine lv_iconst (v := -1) hx hb dX0_seal_24 (by decide) ?_
        exact W.iret (v := (-1 : Int32)) hx hb hr (fun t ht hW => ⟨⟨_, S, rfl, ⟨(by simp only [X_seal, if_neg c5, if_neg c13, if_pos c21] <;> rfl), (by simp only [X_seal, if_neg c5, if_neg c13, if_pos c21] <;> rfl)⟩, by rw [ht]; exact hP, va_K.moved hW.alike hK, hD⟩, hS.F ht⟩) hS.2.2 dX0_seal_25
