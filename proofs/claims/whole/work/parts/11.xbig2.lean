set_option maxHeartbeats 4000000 in
set_option maxRecDepth 100000 in
theorem c_X0_unseal (l : Launch) (dC : Nat → ClassId) (dI : Nat → Nat → Nat) (ad : Nat → Nat) (cL cZ cO : ClassId) (S : SX) (sz : Nat) (q : Int32) (a : Int32) (hB : okB (x_bc S)) : Met l yX0_unseal wsX0_unseal ({ frames := 5, cells := 0, slots := 0, locals := 126 }) (va_Pc [.ref (ad 0), .int q, .int a] (fun U => U.heap.size = sz ∧ va_P (dC, dI) vwCl (wX ad cL cZ cO S) U.heap ∧ va_K (dC, dI) vwCl (tyX cL cZ cO) U ∧ va_D (fun _ => True) (wX ad cL cZ cO S))) (va_Qi (fun r u => r = (X_unseal S q a).1 ∧ u = (X_unseal S q a).2) (xB (dC, dI) (wX ad cL cZ cO) (tyX cL cZ cO) (va_A (wX ad cL cZ cO S) sz)) (va_A (wX ad cL cZ cO S) sz)) 0 0 (va_A (wX ad cL cZ cO S) sz) := by
  refine Met.ofW (cc := cX0_unseal) (maxL := 5) (ret := (some .int)) (by decide) rfl ?_
  intro p e s m args below meth c s₁ B hml hv
  obtain ⟨rfl, hsz, hP, hK, hD0⟩ := hv
  have hx := B.exec
  have hb := B.bytes
  have hr := B.returns
  have hts := atoms_spec (ws := wsX0_unseal) B.pre
  have hown : s.vm.findClass RX0 = some m.cls := findClass_of_methodNamed B.named
  have hlocks := B.notSynchronized
  have hin : ∀ w ∈ wsX00, w ∈ wsX0_unseal := fun _ h => List.mem_cons_of_mem _ (List.mem_append_right _ h)
  subst hsz
  have hD := hD0.self (sz := s.heap.size)
  generalize hAe : va_A (wX ad cL cZ cO S) s.heap.size = A at hD ⊢
  have hA : ∀ q : Nat, s.heap.size ≤ q → A q := fun q h => by rw [← hAe]; exact Or.inr h
  have hS : va_S A s.heap s.heap [] := va_S.rf
  have hl := lv_entry ([.ref (ad 0), .int q, .int a]) (n := 5) (Nat.le_of_ble_eq_true rfl)
  rw [lg_entry_eq]
  generalize (lg_sl ([.ref (ad 0), .int q, .int a]) ++ List.replicate (5 - (lg_sl ([.ref (ad 0), .int q, .int a])).length) Slot.unset).toArray = ls at hl ⊢
  have hl : lv_has ls 5 [(0, .ref (ad 0)), (1, .int q), (2, .int a)] := hl
  refine lv_aload_n hx hb dX0_unseal_0 rfl (lv_at hl 0 rfl) ?_
  refine lv_iload_n hx hb dX0_unseal_1 rfl (lv_at hl 1 rfl) ?_
  refine vp_callSi (va_Run.run (va_runV (As := [.int q]) (rest := []) ⟨hx, hb, hml, hown, hts⟩ (c_X0_isSession l dC dI ad cL cZ cO S q ) (cwV 1 hts gX0_unseal_X0_isSession rfl rfl rfl (by decide +kernel) ⟨Nat.le_of_ble_eq_true rfl, Nat.le_of_ble_eq_true rfl⟩) (xpV_r [.int q] hK hP (va_recv hK hP (ci := 0) (q0 := 0) rfl rfl)) rfl rfl hl.1 rfl (lv_room (Nat.le_of_ble_eq_true rfl)) dX0_unseal_2 ⟨Nat.le_of_ble_eq_true rfl, Nat.le_of_ble_eq_true rfl⟩)) (fun r hr9 => ?_)
  subst hr9
  refine lv_if_eq (tgt := 16) hx hb dX0_unseal_5 (by decide) (fun c5 => ?_) (fun c5 => ?_)
  · skip
    refine lv_iconst (v := -1) hx hb dX0_unseal_16 (by decide) ?_
    exact W.iret (v := (-1 : Int32)) hx hb hr (fun t ht hW => ⟨⟨_, S, rfl, ⟨(by unfold X_unseal X_unsealP; simp only [if_pos c5] <;> rfl), (by unfold X_unseal X_unsealP; simp only [if_pos c5] <;> rfl)⟩, by rw [ht]; exact hP, va_K.moved hW.alike hK, hD⟩, hS.F ht⟩) hS.2.2 dX0_unseal_17
  · skip
    have hq := X_isSession_in c5
    refine lv_aload_n hx hb dX0_unseal_8 rfl (lv_at hl 0 rfl) ?_
    refine lv_iload_n hx hb dX0_unseal_9 rfl (lv_at hl 2 rfl) ?_
    refine vp_callSi (va_Run.run (va_runV (As := [.int a]) (rest := []) ⟨hx, hb, hml, hown, hts⟩ (c_X0_isBlob l dC dI ad cL cZ cO S a ) (cwV 1 hts gX0_unseal_X0_isBlob rfl rfl rfl (by decide +kernel) ⟨Nat.le_of_ble_eq_true rfl, Nat.le_of_ble_eq_true rfl⟩) (xpV_r [.int a] hK hP (va_recv hK hP (ci := 0) (q0 := 0) rfl rfl)) rfl rfl hl.1 rfl (lv_room (Nat.le_of_ble_eq_true rfl)) dX0_unseal_10 ⟨Nat.le_of_ble_eq_true rfl, Nat.le_of_ble_eq_true rfl⟩)) (fun r hr9 => ?_)
    subst hr9
    refine lv_if_ne (tgt := 18) hx hb dX0_unseal_13 (by decide) (fun c13 => ?_) (fun c13 => ?_)
    · skip
      have ha := X_isBlob_in hB c13
      refine lv_aload_n hx hb dX0_unseal_18 rfl (lv_at hl 0 rfl) ?_
      refine vp_callSi (va_Run.run (va_runV (As := []) (rest := []) ⟨hx, hb, hml, hown, hts⟩ (c_X0_isLocked l dC dI ad cL cZ cO S  ) (cwV 0 hts gX0_unseal_X0_isLocked rfl rfl rfl (by decide +kernel) ⟨Nat.le_of_ble_eq_true rfl, Nat.le_of_ble_eq_true rfl⟩) (xpV_r [] hK hP (va_recv hK hP (ci := 0) (q0 := 0) rfl rfl)) rfl rfl hl.1 rfl (lv_room (Nat.le_of_ble_eq_true rfl)) dX0_unseal_19 ⟨Nat.le_of_ble_eq_true rfl, Nat.le_of_ble_eq_true rfl⟩)) (fun r hr9 => ?_)
      subst hr9
      refine lv_if_eq (tgt := 28) hx hb dX0_unseal_22 (by decide) (fun c22 => ?_) (fun c22 => ?_)
      · skip
        refine lv_aload_n hx hb dX0_unseal_28 rfl (lv_at hl 0 rfl) ?_
        refine g_x_abl hx hb hts hin hown hK hP (hts (.fieldLink RX0 42 RX0 "blobs" "[[J") (by decide +kernel)) dX0_unseal_29 ?_
        refine lv_iload_n hx hb dX0_unseal_32 rfl (lv_at hl 2 rfl) ?_
        refine l_x_bl hx hb hK hP (xat_self ha) dX0_unseal_33 ?_
        refine lv_astore_n (lv' := [(3, .ref (ad (9 + a.toNatClampNeg))), (0, .ref (ad 0)), (1, .int q), (2, .int a)]) hx hb dX0_unseal_34 rfl hl (by decide) rfl (fun ls hl => ?_)
        refine lv_aload_n hx hb dX0_unseal_35 rfl (lv_at hl 0 rfl) ?_
        refine lv_iconst (v := 5) hx hb dX0_unseal_36 (by decide) ?_
        refine l_x_row hx hb hK hP (xat_lt (xat_self ha)) (xat_nI (by decide) (by decide)) dX0_unseal_37 ?_
        refine lv_aload_n hx hb dX0_unseal_38 rfl (lv_at hl 1 rfl) ?_
        refine lv_aload_n hx hb dX0_unseal_39 rfl (lv_at hl 0 rfl) ?_
        refine vp_callSl (va_Run.run (va_runV (As := [.ref (ad (9 + a.toNatClampNeg))]) (rest := [.long (x_bl S a.toNatClampNeg 5)]) ⟨hx, hb, hml, hown, hts⟩ (c_X0_sealOf l dC dI ad cL cZ cO S a.toNatClampNeg (xat_lt (xat_self ha)) ) (cwV 1 hts gX0_unseal_X0_sealOf rfl rfl rfl (by decide +kernel) ⟨Nat.le_of_ble_eq_true rfl, Nat.le_of_ble_eq_true rfl⟩) (xpV_r [.ref (ad (9 + a.toNatClampNeg))] hK hP (va_recv hK hP (ci := 0) (q0 := 0) rfl rfl)) rfl rfl hl.1 rfl (lv_room (Nat.le_of_ble_eq_true rfl)) dX0_unseal_40 ⟨Nat.le_of_ble_eq_true rfl, Nat.le_of_ble_eq_true rfl⟩)) (fun r hr9 => ?_)
        subst hr9
        refine W.lcmp hx hb dX0_unseal_43 ?_
        refine lv_if_eq (tgt := 50) hx hb dX0_unseal_44 (by decide) (fun c44 => ?_) (fun c44 => ?_)
        · skip
          refine lv_aload_n hx hb dX0_unseal_50 rfl (lv_at hl 1 rfl) ?_
          refine lv_aload_n hx hb dX0_unseal_51 rfl (lv_at hl 0 rfl) ?_
          refine lv_iconst (v := 0) hx hb dX0_unseal_52 (by decide) ?_
          refine l_x_row hx hb hK hP (xat_lt (xat_self ha)) (xat_nI (by decide) (by decide)) dX0_unseal_53 ?_
          refine vp_callSi (va_Run.run (va_runV (As := [.long (x_bl S a.toNatClampNeg 0)]) (rest := []) ⟨hx, hb, hml, hown, hts⟩ (c_X0_leastKeyNamed l dC dI ad cL cZ cO S (x_bl S a.toNatClampNeg 0) ) (cwV 1 hts gX0_unseal_X0_leastKeyNamed rfl rfl rfl (by decide +kernel) ⟨Nat.le_of_ble_eq_true rfl, Nat.le_of_ble_eq_true rfl⟩) (xpV_r [.long (x_bl S a.toNatClampNeg 0)] hK hP (va_recv hK hP (ci := 0) (q0 := 0) rfl rfl)) rfl rfl hl.1 rfl (lv_room (Nat.le_of_ble_eq_true rfl)) dX0_unseal_54 ⟨Nat.le_of_ble_eq_true rfl, Nat.le_of_ble_eq_true rfl⟩)) (fun r hr9 => ?_)
          subst hr9
          refine lv_istore (lv' := [(4, .int (X_leastKeyNamed S (x_bl S a.toNatClampNeg 0))), (3, .ref (ad (9 + a.toNatClampNeg))), (0, .ref (ad 0)), (1, .int q), (2, .int a)]) hx hb dX0_unseal_57 hl (by decide) rfl (fun ls hl => ?_)
          refine lv_iload hx hb dX0_unseal_59 (lv_at hl 0 rfl) ?_
          refine lv_if_ge (tgt := 67) hx hb dX0_unseal_61 (by decide) (fun c61 => ?_) (fun c61 => ?_)
          · skip
            have hk : vp_in (X_leastKeyNamed S (x_bl S a.toNatClampNeg 0)) 6 := lkN_at c61
            refine lv_aload_n hx hb dX0_unseal_67 rfl (lv_at hl 2 rfl) ?_
            refine lv_aload_n hx hb dX0_unseal_68 rfl (lv_at hl 2 rfl) ?_
            refine g_x_aks hx hb hts hin hown hK hP (hts (.fieldLink RX0 25 RX0 "keySecrets" "[J") (by decide +kernel)) dX0_unseal_69 ?_
            refine lv_iload hx hb dX0_unseal_72 (lv_at hl 0 rfl) ?_
            refine l_x_ks hx hb hK hP (xat_self hk) dX0_unseal_74 ?_
            refine lv_iload_n hx hb dX0_unseal_75 rfl (lv_at hl 3 rfl) ?_
            refine lv_iconst (v := 2) hx hb dX0_unseal_76 (by decide) ?_
            refine lv_aload_n hx hb dX0_unseal_77 rfl (lv_at hl 1 rfl) ?_
            refine lv_iconst (v := 5) hx hb dX0_unseal_78 (by decide) ?_
            refine l_x_row hx hb hK hP (xat_lt (xat_self ha)) (xat_nI (by decide) (by decide)) dX0_unseal_79 ?_
            refine xcall_i (va_runV (As := [.long (x_ks S ((X_leastKeyNamed S (x_bl S a.toNatClampNeg 0)).toNatClampNeg)), .int q, .int (2 : Int32), .long (x_bl S a.toNatClampNeg 5)]) (rest := []) ⟨hx, hb, hml, hown, hts⟩ (c_X0_passesProving l dC dI ad cL cZ cO S s.heap.size (x_ks S ((X_leastKeyNamed S (x_bl S a.toNatClampNeg 0)).toNatClampNeg)) q (2 : Int32) (x_bl S a.toNatClampNeg 5) hq) (cwV 4 hts gX0_unseal_X0_passesProving rfl rfl rfl (by decide +kernel) ⟨Nat.le_of_ble_eq_true rfl, Nat.le_of_ble_eq_true rfl⟩) (xpV_w [.long (x_ks S ((X_leastKeyNamed S (x_bl S a.toNatClampNeg 0)).toNatClampNeg)), .int q, .int (2 : Int32), .long (x_bl S a.toNatClampNeg 5)] hK hP hD (va_recv hK hP (ci := 0) (q0 := 0) rfl rfl)) rfl rfl hl.1 rfl (lv_room (Nat.le_of_ble_eq_true rfl)) dX0_unseal_80 ⟨Nat.le_of_ble_eq_true rfl, Nat.le_of_ble_eq_true rfl⟩) hD hS hA (fun r u H locs hw hP hD hS => ?_)
            obtain ⟨rfl, rfl⟩ := hw
            refine lv_if_ne (tgt := 89) hx hb dX0_unseal_83 (by decide) (fun c83 => ?_) (fun c83 => ?_)
            · skip
              refine lv_aload_n hx hb dX0_unseal_89 rfl (lv_at hl 2 rfl) ?_
              refine lv_aload_n hx hb dX0_unseal_90 rfl (lv_at hl 1 rfl) ?_
              refine vp_callSi (va_Run.run (va_runV (As := [.ref (ad (9 + a.toNatClampNeg))]) (rest := []) ⟨hx, hb, hml, hown, hts⟩ (c_X0_isPolicyMet l dC dI ad cL cZ cO ((X_passesProving S (x_ks S ((X_leastKeyNamed S (x_bl S a.toNatClampNeg 0)).toNatClampNeg)) q (2 : Int32) (x_bl S a.toNatClampNeg 5)).2) a.toNatClampNeg (xat_lt (xat_self ha)) ) (cwV 1 hts gX0_unseal_X0_isPolicyMet rfl rfl rfl (by decide +kernel) ⟨Nat.le_of_ble_eq_true rfl, Nat.le_of_ble_eq_true rfl⟩) (xpV_r [.ref (ad (9 + a.toNatClampNeg))] hK hP (va_recv hK hP (ci := 0) (q0 := 0) rfl rfl)) rfl rfl hl.1 rfl (lv_room (Nat.le_of_ble_eq_true rfl)) dX0_unseal_91 ⟨Nat.le_of_ble_eq_true rfl, Nat.le_of_ble_eq_true rfl⟩)) (fun r hr9 => ?_)
              subst hr9
              refine lv_if_ne (tgt := 105) hx hb dX0_unseal_94 (by decide) (fun c94 => ?_) (fun c94 => ?_)
              · skip
                refine lv_aload_n hx hb dX0_unseal_105 rfl (lv_at hl 2 rfl) ?_
                refine lv_aload_n hx hb dX0_unseal_106 rfl (lv_at hl 1 rfl) ?_
                refine lv_iconst (v := 4) hx hb dX0_unseal_107 (by decide) ?_
                refine l_x_row hx hb hK hP (xat_lt (xat_self ha)) (xat_nI (by decide) (by decide)) dX0_unseal_108 ?_
                refine lv_aload_n hx hb dX0_unseal_109 rfl (lv_at hl 2 rfl) ?_
                refine lv_aload_n hx hb dX0_unseal_110 rfl (lv_at hl 1 rfl) ?_
                refine lv_iconst (v := 3) hx hb dX0_unseal_111 (by decide) ?_
                refine l_x_row hx hb hK hP (xat_lt (xat_self ha)) (xat_nI (by decide) (by decide)) dX0_unseal_112 ?_
                refine lv_aload_n hx hb dX0_unseal_113 rfl (lv_at hl 1 rfl) ?_
                refine lv_iconst (v := 2) hx hb dX0_unseal_114 (by decide) ?_
                refine l_x_row hx hb hK hP (xat_lt (xat_self ha)) (xat_nI (by decide) (by decide)) dX0_unseal_115 ?_
                refine vp_callSl (va_Run.run (va_runV (As := [.long (x_bl ((X_passesProving S (x_ks S ((X_leastKeyNamed S (x_bl S a.toNatClampNeg 0)).toNatClampNeg)) q (2 : Int32) (x_bl S a.toNatClampNeg 5)).2) a.toNatClampNeg 3), .long (x_bl ((X_passesProving S (x_ks S ((X_leastKeyNamed S (x_bl S a.toNatClampNeg 0)).toNatClampNeg)) q (2 : Int32) (x_bl S a.toNatClampNeg 5)).2) a.toNatClampNeg 2)]) (rest := [.long (x_bl ((X_passesProving S (x_ks S ((X_leastKeyNamed S (x_bl S a.toNatClampNeg 0)).toNatClampNeg)) q (2 : Int32) (x_bl S a.toNatClampNeg 5)).2) a.toNatClampNeg 4), .ref (ad 0)]) ⟨hx, hb, hml, hown, hts⟩ (c_X0_cover l dC dI ad cL cZ cO ((X_passesProving S (x_ks S ((X_leastKeyNamed S (x_bl S a.toNatClampNeg 0)).toNatClampNeg)) q (2 : Int32) (x_bl S a.toNatClampNeg 5)).2) (x_bl ((X_passesProving S (x_ks S ((X_leastKeyNamed S (x_bl S a.toNatClampNeg 0)).toNatClampNeg)) q (2 : Int32) (x_bl S a.toNatClampNeg 5)).2) a.toNatClampNeg 3) (x_bl ((X_passesProving S (x_ks S ((X_leastKeyNamed S (x_bl S a.toNatClampNeg 0)).toNatClampNeg)) q (2 : Int32) (x_bl S a.toNatClampNeg 5)).2) a.toNatClampNeg 2) ) (cwV 2 hts gX0_unseal_X0_cover rfl rfl rfl (by decide +kernel) ⟨Nat.le_of_ble_eq_true rfl, Nat.le_of_ble_eq_true rfl⟩) (xpV_r [.long (x_bl ((X_passesProving S (x_ks S ((X_leastKeyNamed S (x_bl S a.toNatClampNeg 0)).toNatClampNeg)) q (2 : Int32) (x_bl S a.toNatClampNeg 5)).2) a.toNatClampNeg 3), .long (x_bl ((X_passesProving S (x_ks S ((X_leastKeyNamed S (x_bl S a.toNatClampNeg 0)).toNatClampNeg)) q (2 : Int32) (x_bl S a.toNatClampNeg 5)).2) a.toNatClampNeg 2)] hK hP (va_recv hK hP (ci := 0) (q0 := 0) rfl rfl)) rfl rfl hl.1 rfl (lv_room (Nat.le_of_ble_eq_true rfl)) dX0_unseal_116 ⟨Nat.le_of_ble_eq_true rfl, Nat.le_of_ble_eq_true rfl⟩)) (fun r hr9 => ?_)
                subst hr9
                refine lv_lxor hx hb dX0_unseal_119 ?_
                refine p_x_ou hx hb hts hin hown hK hP hD hS (hts (.fieldLink RX0 115 RX0 "output" "J") (by decide +kernel)) dX0_unseal_120 (fun H locs hP hD hS => ?_)
                refine lv_iconst (v := 0) hx hb dX0_unseal_123 (by decide) ?_
                exact W.iret (v := (0 : Int32)) hx hb hr (fun t ht hW => ⟨⟨_, (xu_ou ((X_passesProving S (x_ks S ((X_leastKeyNamed S (x_bl S a.toNatClampNeg 0)).toNatClampNeg)) q (2 : Int32) (x_bl S a.toNatClampNeg 5)).2) ((x_bl ((X_passesProving S (x_ks S ((X_leastKeyNamed S (x_bl S a.toNatClampNeg 0)).toNatClampNeg)) q (2 : Int32) (x_bl S a.toNatClampNeg 5)).2) a.toNatClampNeg 4) ^^^ (X_cover ((X_passesProving S (x_ks S ((X_leastKeyNamed S (x_bl S a.toNatClampNeg 0)).toNatClampNeg)) q (2 : Int32) (x_bl S a.toNatClampNeg 5)).2) (x_bl ((X_passesProving S (x_ks S ((X_leastKeyNamed S (x_bl S a.toNatClampNeg 0)).toNatClampNeg)) q (2 : Int32) (x_bl S a.toNatClampNeg 5)).2) a.toNatClampNeg 3) (x_bl ((X_passesProving S (x_ks S ((X_leastKeyNamed S (x_bl S a.toNatClampNeg 0)).toNatClampNeg)) q (2 : Int32) (x_bl S a.toNatClampNeg 5)).2) a.toNatClampNeg 2)))), rfl, ⟨(by unfold X_unseal X_unsealP; simp only [if_neg c5, if_neg c13, if_pos c22, if_pos c44, if_pos c61, if_neg c83, if_neg c94] <;> rfl), (by unfold X_unseal X_unsealP; simp only [if_neg c5, if_neg c13, if_pos c22, if_pos c44, if_pos c61, if_neg c83, if_neg c94] <;> rfl)⟩, by rw [ht]; exact hP, va_K.moved hW.alike hK, hD⟩, hS.F ht⟩) hS.2.2 dX0_unseal_124
              · skip
                refine lv_aload_n hx hb dX0_unseal_97 rfl (lv_at hl 2 rfl) ?_
                refine lv_lconst (v := 0) hx hb dX0_unseal_98 (by decide) ?_
                refine p_x_ou hx hb hts hin hown hK hP hD hS (hts (.fieldLink RX0 115 RX0 "output" "J") (by decide +kernel)) dX0_unseal_99 (fun H locs hP hD hS => ?_)
                refine lv_bipush (v := -7) hx hb dX0_unseal_102 (by decide) ?_
                exact W.iret (v := (-7 : Int32)) hx hb hr (fun t ht hW => ⟨⟨_, (xu_ou ((X_passesProving S (x_ks S ((X_leastKeyNamed S (x_bl S a.toNatClampNeg 0)).toNatClampNeg)) q (2 : Int32) (x_bl S a.toNatClampNeg 5)).2) (0 : Int64)), rfl, ⟨(by unfold X_unseal X_unsealP; simp only [if_neg c5, if_neg c13, if_pos c22, if_pos c44, if_pos c61, if_neg c83, if_pos c94] <;> rfl), (by unfold X_unseal X_unsealP; simp only [if_neg c5, if_neg c13, if_pos c22, if_pos c44, if_pos c61, if_neg c83, if_pos c94] <;> rfl)⟩, by rw [ht]; exact hP, va_K.moved hW.alike hK, hD⟩, hS.F ht⟩) hS.2.2 dX0_unseal_104
            · skip
              refine lv_bipush (v := -6) hx hb dX0_unseal_86 (by decide) ?_
              exact W.iret (v := (-6 : Int32)) hx hb hr (fun t ht hW => ⟨⟨_, (X_passesProving S (x_ks S ((X_leastKeyNamed S (x_bl S a.toNatClampNeg 0)).toNatClampNeg)) q (2 : Int32) (x_bl S a.toNatClampNeg 5)).2, rfl, ⟨(by unfold X_unseal X_unsealP; simp only [if_neg c5, if_neg c13, if_pos c22, if_pos c44, if_pos c61, if_pos c83] <;> rfl), (by unfold X_unseal X_unsealP; simp only [if_neg c5, if_neg c13, if_pos c22, if_pos c44, if_pos c61, if_pos c83] <;> rfl)⟩, by rw [ht]; exact hP, va_K.moved hW.alike hK, hD⟩, hS.F ht⟩) hS.2.2 dX0_unseal_88
          · skip
            refine lv_bipush (v := -4) hx hb dX0_unseal_64 (by decide) ?_
            exact W.iret (v := (-4 : Int32)) hx hb hr (fun t ht hW => ⟨⟨_, S, rfl, ⟨(by unfold X_unseal X_unsealP; simp only [if_neg c5, if_neg c13, if_pos c22, if_pos c44, if_neg c61] <;> rfl), (by unfold X_unseal X_unsealP; simp only [if_neg c5, if_neg c13, if_pos c22, if_pos c44, if_neg c61] <;> rfl)⟩, by rw [ht]; exact hP, va_K.moved hW.alike hK, hD⟩, hS.F ht⟩) hS.2.2 dX0_unseal_66
        · skip
          refine lv_bipush (v := -3) hx hb dX0_unseal_47 (by decide) ?_
          exact W.iret (v := (-3 : Int32)) hx hb hr (fun t ht hW => ⟨⟨_, S, rfl, ⟨(by unfold X_unseal X_unsealP; simp only [if_neg c5, if_neg c13, if_pos c22, if_neg c44] <;> rfl), (by unfold X_unseal X_unsealP; simp only [if_neg c5, if_neg c13, if_pos c22, if_neg c44] <;> rfl)⟩, by rw [ht]; exact hP, va_K.moved hW.alike hK, hD⟩, hS.F ht⟩) hS.2.2 dX0_unseal_49
      · skip
        refine lv_bipush (v := -2) hx hb dX0_unseal_25 (by decide) ?_
        exact W.iret (v := (-2 : Int32)) hx hb hr (fun t ht hW => ⟨⟨_, S, rfl, ⟨(by unfold X_unseal X_unsealP; simp only [if_neg c5, if_neg c13, if_neg c22] <;> rfl), (by unfold X_unseal X_unsealP; simp only [if_neg c5, if_neg c13, if_neg c22] <;> rfl)⟩, by rw [ht]; exact hP, va_K.moved hW.alike hK, hD⟩, hS.F ht⟩) hS.2.2 dX0_unseal_27
    · skip
      refine lv_iconst (v := -1) hx hb dX0_unseal_16 (by decide) ?_
      exact W.iret (v := (-1 : Int32)) hx hb hr (fun t ht hW => ⟨⟨_, S, rfl, ⟨(by unfold X_unseal X_unsealP; simp only [if_neg c5, if_pos c13] <;> rfl), (by unfold X_unseal X_unsealP; simp only [if_neg c5, if_pos c13] <;> rfl)⟩, by rw [ht]; exact hP, va_K.moved hW.alike hK, hD⟩, hS.F ht⟩) hS.2.2 dX0_unseal_17
set_option maxHeartbeats 4000000 in
set_option maxRecDepth 100000 in
theorem c_X0_quote (l : Launch) (dC : Nat → ClassId) (dI : Nat → Nat → Nat) (ad : Nat → Nat) (cL cZ cO : ClassId) (S : SX) (sz : Nat) (q : Int32) (k : Int32) (mask : Int32) (ch : Int64) (hB : okB (x_bc S)) : Met l yX0_quote wsX0_quote ({ frames := 5, cells := 0, slots := 0, locals := 126 }) (va_Pc [.ref (ad 0), .int q, .int k, .int mask, .long ch] (fun U => U.heap.size = sz ∧ va_P (dC, dI) vwCl (wX ad cL cZ cO S) U.heap ∧ va_K (dC, dI) vwCl (tyX cL cZ cO) U ∧ va_D (fun _ => True) (wX ad cL cZ cO S))) (va_Qi (fun r u => r = (X_quote S q k mask ch).1 ∧ u = (X_quote S q k mask ch).2) (xB (dC, dI) (wX ad cL cZ cO) (tyX cL cZ cO) (va_A (wX ad cL cZ cO S) sz)) (va_A (wX ad cL cZ cO S) sz)) 0 0 (va_A (wX ad cL cZ cO S) sz) := by
  refine Met.ofW (cc := cX0_quote) (maxL := 8) (ret := (some .int)) (by decide) rfl ?_
  intro p e s m args below meth c s₁ B hml hv
  obtain ⟨rfl, hsz, hP, hK, hD0⟩ := hv
  have hx := B.exec
  have hb := B.bytes
  have hr := B.returns
  have hts := atoms_spec (ws := wsX0_quote) B.pre
  have hown : s.vm.findClass RX0 = some m.cls := findClass_of_methodNamed B.named
  have hlocks := B.notSynchronized
  have hin : ∀ w ∈ wsX00, w ∈ wsX0_quote := fun _ h => List.mem_cons_of_mem _ (List.mem_append_right _ h)
  subst hsz
  have hD := hD0.self (sz := s.heap.size)
  generalize hAe : va_A (wX ad cL cZ cO S) s.heap.size = A at hD ⊢
  have hA : ∀ q : Nat, s.heap.size ≤ q → A q := fun q h => by rw [← hAe]; exact Or.inr h
  have hS : va_S A s.heap s.heap [] := va_S.rf
  have hl := lv_entry ([.ref (ad 0), .int q, .int k, .int mask, .long ch]) (n := 8) (Nat.le_of_ble_eq_true rfl)
  rw [lg_entry_eq]
  generalize (lg_sl ([.ref (ad 0), .int q, .int k, .int mask, .long ch]) ++ List.replicate (8 - (lg_sl ([.ref (ad 0), .int q, .int k, .int mask, .long ch])).length) Slot.unset).toArray = ls at hl ⊢
  have hl : lv_has ls 8 [(0, .ref (ad 0)), (1, .int q), (2, .int k), (3, .int mask), (4, .long ch)] := hl
  refine lv_aload_n hx hb dX0_quote_0 rfl (lv_at hl 0 rfl) ?_
  refine lv_iload_n hx hb dX0_quote_1 rfl (lv_at hl 1 rfl) ?_
  refine vp_callSi (va_Run.run (va_runV (As := [.int q]) (rest := []) ⟨hx, hb, hml, hown, hts⟩ (c_X0_isSession l dC dI ad cL cZ cO S q ) (cwV 1 hts gX0_quote_X0_isSession rfl rfl rfl (by decide +kernel) ⟨Nat.le_of_ble_eq_true rfl, Nat.le_of_ble_eq_true rfl⟩) (xpV_r [.int q] hK hP (va_recv hK hP (ci := 0) (q0 := 0) rfl rfl)) rfl rfl hl.1 rfl (lv_room (Nat.le_of_ble_eq_true rfl)) dX0_quote_2 ⟨Nat.le_of_ble_eq_true rfl, Nat.le_of_ble_eq_true rfl⟩)) (fun r hr9 => ?_)
  subst hr9
  refine lv_if_eq (tgt := 24) hx hb dX0_quote_5 (by decide) (fun c5 => ?_) (fun c5 => ?_)
  · skip
    refine lv_iconst (v := -1) hx hb dX0_quote_24 (by decide) ?_
    exact W.iret (v := (-1 : Int32)) hx hb hr (fun t ht hW => ⟨⟨_, S, rfl, ⟨(by simp only [X_quote, if_pos c5] <;> rfl), (by simp only [X_quote, if_pos c5] <;> rfl)⟩, by rw [ht]; exact hP, va_K.moved hW.alike hK, hD⟩, hS.F ht⟩) hS.2.2 dX0_quote_25
  · skip
    have hq := X_isSession_in c5
    refine lv_aload_n hx hb dX0_quote_8 rfl (lv_at hl 0 rfl) ?_
    refine lv_iload_n hx hb dX0_quote_9 rfl (lv_at hl 2 rfl) ?_
    refine vp_callSi (va_Run.run (va_runV (As := [.int k]) (rest := []) ⟨hx, hb, hml, hown, hts⟩ (c_X0_isKey l dC dI ad cL cZ cO S k ) (cwV 1 hts gX0_quote_X0_isKey rfl rfl rfl (by decide +kernel) ⟨Nat.le_of_ble_eq_true rfl, Nat.le_of_ble_eq_true rfl⟩) (xpV_r [.int k] hK hP (va_recv hK hP (ci := 0) (q0 := 0) rfl rfl)) rfl rfl hl.1 rfl (lv_room (Nat.le_of_ble_eq_true rfl)) dX0_quote_10 ⟨Nat.le_of_ble_eq_true rfl, Nat.le_of_ble_eq_true rfl⟩)) (fun r hr9 => ?_)
    subst hr9
    refine lv_if_eq (tgt := 24) hx hb dX0_quote_13 (by decide) (fun c13 => ?_) (fun c13 => ?_)
    · skip
      refine lv_iconst (v := -1) hx hb dX0_quote_24 (by decide) ?_
      exact W.iret (v := (-1 : Int32)) hx hb hr (fun t ht hW => ⟨⟨_, S, rfl, ⟨(by simp only [X_quote, if_neg c5, if_pos c13] <;> rfl), (by simp only [X_quote, if_neg c5, if_pos c13] <;> rfl)⟩, by rw [ht]; exact hP, va_K.moved hW.alike hK, hD⟩, hS.F ht⟩) hS.2.2 dX0_quote_25
    · skip
      have hk := X_isKey_in c13
      refine lv_iload_n hx hb dX0_quote_16 rfl (lv_at hl 3 rfl) ?_
      refine lv_i2l hx hb dX0_quote_17 rfl ?_
      refine vp_callSi (va_Run.run (va_runS (As := [.long mask.toInt64]) (rest := []) ⟨hx, hb, hml, hown, hts⟩ (c_X0_isMask l mask.toInt64 ) (va_cwS 1 hts gX0_quote_X0_isMask rfl rfl rfl (by decide +kernel) ⟨Nat.le_of_ble_eq_true rfl, Nat.le_of_ble_eq_true rfl⟩) (xpS_n _) rfl rfl hl.1 rfl (lv_room (Nat.le_of_ble_eq_true rfl)) dX0_quote_18 ⟨Nat.le_of_ble_eq_true rfl, Nat.le_of_ble_eq_true rfl⟩)) (fun r hr9 => ?_)
      subst hr9
      refine lv_if_ne (tgt := 26) hx hb dX0_quote_21 (by decide) (fun c21 => ?_) (fun c21 => ?_)
      · skip
        refine lv_aload_n hx hb dX0_quote_26 rfl (lv_at hl 0 rfl) ?_
        refine vp_callSi (va_Run.run (va_runV (As := []) (rest := []) ⟨hx, hb, hml, hown, hts⟩ (c_X0_isLocked l dC dI ad cL cZ cO S  ) (cwV 0 hts gX0_quote_X0_isLocked rfl rfl rfl (by decide +kernel) ⟨Nat.le_of_ble_eq_true rfl, Nat.le_of_ble_eq_true rfl⟩) (xpV_r [] hK hP (va_recv hK hP (ci := 0) (q0 := 0) rfl rfl)) rfl rfl hl.1 rfl (lv_room (Nat.le_of_ble_eq_true rfl)) dX0_quote_27 ⟨Nat.le_of_ble_eq_true rfl, Nat.le_of_ble_eq_true rfl⟩)) (fun r hr9 => ?_)
        subst hr9
        refine lv_if_eq (tgt := 36) hx hb dX0_quote_30 (by decide) (fun c30 => ?_) (fun c30 => ?_)
        · skip
          refine lv_aload_n hx hb dX0_quote_36 rfl (lv_at hl 0 rfl) ?_
          refine g_x_aks hx hb hts hin hown hK hP (hts (.fieldLink RX0 25 RX0 "keySecrets" "[J") (by decide +kernel)) dX0_quote_37 ?_
          refine lv_iload_n hx hb dX0_quote_40 rfl (lv_at hl 2 rfl) ?_
          refine l_x_ks hx hb hK hP (xat_self hk) dX0_quote_41 ?_
          refine lv_lstore (lv' := [(6, .long (x_ks S k.toNatClampNeg)), (0, .ref (ad 0)), (1, .int q), (2, .int k), (3, .int mask), (4, .long ch)]) hx hb dX0_quote_42 hl (by decide) rfl (fun ls hl => ?_)
          refine lv_aload_n hx hb dX0_quote_44 rfl (lv_at hl 1 rfl) ?_
          refine lv_lload hx hb dX0_quote_45 (lv_at hl 0 rfl) ?_
          refine lv_iload_n hx hb dX0_quote_47 rfl (lv_at hl 2 rfl) ?_
          refine lv_iconst (v := 3) hx hb dX0_quote_48 (by decide) ?_
          refine lv_iload_n hx hb dX0_quote_49 rfl (lv_at hl 4 rfl) ?_
          refine lv_i2l hx hb dX0_quote_50 rfl ?_
          refine lv_lload hx hb dX0_quote_51 (lv_at hl 5 rfl) ?_
          refine vp_callSl (va_Run.run (va_runS (As := [.long mask.toInt64, .long ch]) (rest := [.int (3 : Int32), .int q, .long (x_ks S k.toNatClampNeg), .ref (ad 0)]) ⟨hx, hb, hml, hown, hts⟩ (c_X0_hash2 l mask.toInt64 ch ) (va_cwS 2 hts gX0_quote_X0_hash2 rfl rfl rfl (by decide +kernel) ⟨Nat.le_of_ble_eq_true rfl, Nat.le_of_ble_eq_true rfl⟩) (xpS_n _) rfl rfl hl.1 rfl (lv_room (Nat.le_of_ble_eq_true rfl)) dX0_quote_53 ⟨Nat.le_of_ble_eq_true rfl, Nat.le_of_ble_eq_true rfl⟩)) (fun r hr9 => ?_)
          subst hr9
          refine xcall_i (va_runV (As := [.long (x_ks S k.toNatClampNeg), .int q, .int (3 : Int32), .long (h2 mask.toInt64 ch)]) (rest := []) ⟨hx, hb, hml, hown, hts⟩ (c_X0_passesProving l dC dI ad cL cZ cO S s.heap.size (x_ks S k.toNatClampNeg) q (3 : Int32) (h2 mask.toInt64 ch) hq) (cwV 4 hts gX0_quote_X0_passesProving rfl rfl rfl (by decide +kernel) ⟨Nat.le_of_ble_eq_true rfl, Nat.le_of_ble_eq_true rfl⟩) (xpV_w [.long (x_ks S k.toNatClampNeg), .int q, .int (3 : Int32), .long (h2 mask.toInt64 ch)] hK hP hD (va_recv hK hP (ci := 0) (q0 := 0) rfl rfl)) rfl rfl hl.1 rfl (lv_room (Nat.le_of_ble_eq_true rfl)) dX0_quote_56 ⟨Nat.le_of_ble_eq_true rfl, Nat.le_of_ble_eq_true rfl⟩) hD hS hA (fun r u H locs hw hP hD hS => ?_)
          obtain ⟨rfl, rfl⟩ := hw
          refine lv_if_ne (tgt := 65) hx hb dX0_quote_59 (by decide) (fun c59 => ?_) (fun c59 => ?_)
          · skip
            refine lv_aload_n hx hb dX0_quote_65 rfl (lv_at hl 1 rfl) ?_
            refine lv_aload_n hx hb dX0_quote_66 rfl (lv_at hl 1 rfl) ?_
            refine lv_lload hx hb dX0_quote_67 (lv_at hl 0 rfl) ?_
            refine lv_iload_n hx hb dX0_quote_69 rfl (lv_at hl 4 rfl) ?_
            refine lv_lload hx hb dX0_quote_70 (lv_at hl 5 rfl) ?_
            refine vp_callSl (va_Run.run (va_runV (As := [.long (x_ks S k.toNatClampNeg), .int mask, .long ch]) (rest := [.ref (ad 0)]) ⟨hx, hb, hml, hown, hts⟩ (c_X0_signature l dC dI ad cL cZ cO ((X_passesProving S (x_ks S k.toNatClampNeg) q (3 : Int32) (h2 mask.toInt64 ch)).2) (x_ks S k.toNatClampNeg) mask ch ) (cwV 3 hts gX0_quote_X0_signature rfl rfl rfl (by decide +kernel) ⟨Nat.le_of_ble_eq_true rfl, Nat.le_of_ble_eq_true rfl⟩) (xpV_r [.long (x_ks S k.toNatClampNeg), .int mask, .long ch] hK hP (va_recv hK hP (ci := 0) (q0 := 0) rfl rfl)) rfl rfl hl.1 rfl (lv_room (Nat.le_of_ble_eq_true rfl)) dX0_quote_72 ⟨Nat.le_of_ble_eq_true rfl, Nat.le_of_ble_eq_true rfl⟩)) (fun r hr9 => ?_)
            subst hr9
            refine p_x_ou hx hb hts hin hown hK hP hD hS (hts (.fieldLink RX0 115 RX0 "output" "J") (by decide +kernel)) dX0_quote_75 (fun H locs hP hD hS => ?_)
            refine lv_iconst (v := 0) hx hb dX0_quote_78 (by decide) ?_
            exact W.iret (v := (0 : Int32)) hx hb hr (fun t ht hW => ⟨⟨_, (xu_ou ((X_passesProving S (x_ks S k.toNatClampNeg) q (3 : Int32) (h2 mask.toInt64 ch)).2) (X_signature ((X_passesProving S (x_ks S k.toNatClampNeg) q (3 : Int32) (h2 mask.toInt64 ch)).2) (x_ks S k.toNatClampNeg) mask ch)), rfl, ⟨(by simp only [X_quote, if_neg c5, if_neg c13, if_neg c21, if_pos c30, if_neg c59] <;> rfl), (by simp only [X_quote, if_neg c5, if_neg c13, if_neg c21, if_pos c30, if_neg c59] <;> rfl)⟩, by rw [ht]; exact hP, va_K.moved hW.alike hK, hD⟩, hS.F ht⟩) hS.2.2 dX0_quote_79
          · skip
            refine lv_bipush (v := -6) hx hb dX0_quote_62 (by decide) ?_
            exact W.iret (v := (-6 : Int32)) hx hb hr (fun t ht hW => ⟨⟨_, (X_passesProving S (x_ks S k.toNatClampNeg) q (3 : Int32) (h2 mask.toInt64 ch)).2, rfl, ⟨(by simp only [X_quote, if_neg c5, if_neg c13, if_neg c21, if_pos c30, if_pos c59] <;> rfl), (by simp only [X_quote, if_neg c5, if_neg c13, if_neg c21, if_pos c30, if_pos c59] <;> rfl)⟩, by rw [ht]; exact hP, va_K.moved hW.alike hK, hD⟩, hS.F ht⟩) hS.2.2 dX0_quote_64
        · skip
          refine lv_bipush (v := -2) hx hb dX0_quote_33 (by decide) ?_
          exact W.iret (v := (-2 : Int32)) hx hb hr (fun t ht hW => ⟨⟨_, S, rfl, ⟨(by simp only [X_quote, if_neg c5, if_neg c13, if_neg c21, if_neg c30] <;> rfl), (by simp only [X_quote, if_neg c5, if_neg c13, if_neg c21, if_neg c30] <;> rfl)⟩, by rw [ht]; exact hP, va_K.moved hW.alike hK, hD⟩, hS.F ht⟩) hS.2.2 dX0_quote_35
      · skip
        refine lv_iconst (v := -1) hx hb dX0_quote_24 (by decide) ?_
        exact W.iret (v := (-1 : Int32)) hx hb hr (fun t ht hW => ⟨⟨_, S, rfl, ⟨(by simp only [X_quote, if_neg c5, if_neg c13, if_pos c21] <;> rfl), (by simp only [X_quote, if_neg c5, if_neg c13, if_pos c21] <;> rfl)⟩, by rw [ht]; exact hP, va_K.moved hW.alike hK, hD⟩, hS.F ht⟩) hS.2.2 dX0_quote_25
