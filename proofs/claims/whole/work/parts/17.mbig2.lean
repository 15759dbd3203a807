set_option maxHeartbeats 4000000 in
set_option maxRecDepth 100000 in
theorem c_X1_seal (l : Launch) (dC : Nat → ClassId) (dI : Nat → Nat → Nat) (ad : Nat → Nat) (cL cZ cI : ClassId) (S : SM) (ro hd : Nat → Int64) (sz : Nat) (q : Int32) (k : Int32) (mask : Int32) (data : Int64) (hB : okB (m_bc S)) (hd9 : okD (m_dn S)) : Met l yX1_seal wsX1_seal ({ frames := 5, cells := 0, slots := 0, locals := 126 }) (va_Pc [.ref (ad 0), .int q, .int k, .int mask, .long data] (fun U => U.heap.size = sz ∧ va_P (dC, dI) vwCl (wM ad cL cZ cI S ro hd) U.heap ∧ va_K (dC, dI) vwCl (tyM cL cZ cI) U ∧ va_D (fun _ => True) (wM ad cL cZ cI S ro hd))) (va_Qi (fun r (u : SMr) => r = (M_seal S q k mask data).1 ∧ u.1 = (M_seal S q k mask data).2) (xB (dC, dI) (wMr ad cL cZ cI) (tyM cL cZ cI) (va_A (wM ad cL cZ cI S ro hd) sz)) (va_A (wM ad cL cZ cI S ro hd) sz)) 0 0 (va_A (wM ad cL cZ cI S ro hd) sz) := by
  refine Met.ofW (cc := cX1_seal) (maxL := 13) (ret := (some .int)) (by decide) rfl ?_
  intro p e s m args below meth c s₁ B hml hv
  obtain ⟨rfl, hsz, hP, hK, hD0⟩ := hv
  have hx := B.exec
  have hb := B.bytes
  have hr := B.returns
  have hts := atoms_spec (ws := wsX1_seal) B.pre
  have hown : s.vm.findClass RX1 = some m.cls := findClass_of_methodNamed B.named
  have hlocks := B.notSynchronized
  have hin : ∀ w ∈ wsX10, w ∈ wsX1_seal := fun _ h => List.mem_cons_of_mem _ (List.mem_append_right _ h)
  subst hsz
  have hD := hD0.self (sz := s.heap.size)
  generalize hAe : va_A (wM ad cL cZ cI S ro hd) s.heap.size = A at hD ⊢
  have hA : ∀ q : Nat, s.heap.size ≤ q → A q := fun q h => by rw [← hAe]; exact Or.inr h
  have hS : va_S A s.heap s.heap [] := va_S.rf
  have hl := lv_entry ([.ref (ad 0), .int q, .int k, .int mask, .long data]) (n := 13) (Nat.le_of_ble_eq_true rfl)
  rw [lg_entry_eq]
  generalize (lg_sl ([.ref (ad 0), .int q, .int k, .int mask, .long data]) ++ List.replicate (13 - (lg_sl ([.ref (ad 0), .int q, .int k, .int mask, .long data])).length) Slot.unset).toArray = ls at hl ⊢
  have hl : lv_has ls 13 [(0, .ref (ad 0)), (1, .int q), (2, .int k), (3, .int mask), (4, .long data)] := hl
  refine lv_aload_n hx hb dX1_seal_0 rfl (lv_at hl 0 rfl) ?_
  refine lv_iload_n hx hb dX1_seal_1 rfl (lv_at hl 1 rfl) ?_
  refine vp_callSi (va_Run.run (va_runV (As := [.int q]) (rest := []) ⟨hx, hb, hml, hown, hts⟩ (c_X1_hasSession l dC dI ad cL cZ cI S ro hd q ) (cwV 1 hts gX1_seal_X1_hasSession rfl rfl rfl (by decide +kernel) ⟨Nat.le_of_ble_eq_true rfl, Nat.le_of_ble_eq_true rfl⟩) (xpV_r [.int q] hK hP (va_recv hK hP (ci := 1) (q0 := 0) rfl rfl)) rfl rfl hl.1 rfl (lv_room (Nat.le_of_ble_eq_true rfl)) dX1_seal_2 ⟨Nat.le_of_ble_eq_true rfl, Nat.le_of_ble_eq_true rfl⟩)) (fun r hr9 => ?_)
  subst hr9
  refine lv_if_eq (tgt := 24) hx hb dX1_seal_5 (by decide) (fun c5 => ?_) (fun c5 => ?_)
  · skip
    refine lv_iconst (v := -1) hx hb dX1_seal_24 (by decide) ?_
    exact W.iret (v := (-1 : Int32)) hx hb hr (fun t ht hW => ⟨⟨_, (S, ro, hd), rfl, ⟨(by unfold M_seal M_sealP; simp only [if_pos c5] <;> rfl), (by unfold M_seal M_sealP; simp only [if_pos c5] <;> rfl)⟩, by rw [ht]; exact hP, va_K.moved hW.alike hK, hD⟩, hS.F ht⟩) hS.2.2 dX1_seal_25
  · skip
    have hq := M_hasSession_in c5
    refine lv_aload_n hx hb dX1_seal_8 rfl (lv_at hl 0 rfl) ?_
    refine lv_iload_n hx hb dX1_seal_9 rfl (lv_at hl 2 rfl) ?_
    refine vp_callSi (va_Run.run (va_runV (As := [.int k]) (rest := []) ⟨hx, hb, hml, hown, hts⟩ (c_X1_hasKey l dC dI ad cL cZ cI S ro hd k ) (cwV 1 hts gX1_seal_X1_hasKey rfl rfl rfl (by decide +kernel) ⟨Nat.le_of_ble_eq_true rfl, Nat.le_of_ble_eq_true rfl⟩) (xpV_r [.int k] hK hP (va_recv hK hP (ci := 1) (q0 := 0) rfl rfl)) rfl rfl hl.1 rfl (lv_room (Nat.le_of_ble_eq_true rfl)) dX1_seal_10 ⟨Nat.le_of_ble_eq_true rfl, Nat.le_of_ble_eq_true rfl⟩)) (fun r hr9 => ?_)
    subst hr9
    refine lv_if_eq (tgt := 24) hx hb dX1_seal_13 (by decide) (fun c13 => ?_) (fun c13 => ?_)
    · skip
      refine lv_iconst (v := -1) hx hb dX1_seal_24 (by decide) ?_
      exact W.iret (v := (-1 : Int32)) hx hb hr (fun t ht hW => ⟨⟨_, (S, ro, hd), rfl, ⟨(by unfold M_seal M_sealP; simp only [if_neg c5, if_pos c13] <;> rfl), (by unfold M_seal M_sealP; simp only [if_neg c5, if_pos c13] <;> rfl)⟩, by rw [ht]; exact hP, va_K.moved hW.alike hK, hD⟩, hS.F ht⟩) hS.2.2 dX1_seal_25
    · skip
      have hk := M_hasKey_in c13
      refine lv_iload_n hx hb dX1_seal_16 rfl (lv_at hl 3 rfl) ?_
      refine lv_i2l hx hb dX1_seal_17 rfl ?_
      refine vp_callSi (va_Run.run (va_runS (As := [.long mask.toInt64]) (rest := []) ⟨hx, hb, hml, hown, hts⟩ (c_X1_isMask l mask.toInt64 ) (va_cwS 1 hts gX1_seal_X1_isMask rfl rfl rfl (by decide +kernel) ⟨Nat.le_of_ble_eq_true rfl, Nat.le_of_ble_eq_true rfl⟩) (xpS_n _) rfl rfl hl.1 rfl (lv_room (Nat.le_of_ble_eq_true rfl)) dX1_seal_18 ⟨Nat.le_of_ble_eq_true rfl, Nat.le_of_ble_eq_true rfl⟩)) (fun r hr9 => ?_)
      subst hr9
      refine lv_if_ne (tgt := 26) hx hb dX1_seal_21 (by decide) (fun c21 => ?_) (fun c21 => ?_)
      · skip
        refine lv_aload_n hx hb dX1_seal_26 rfl (lv_at hl 0 rfl) ?_
        refine g_m_fa hx hb hts hin hown hK hP (hts (.fieldLink RX1 120 RX1 "failures" "I") (by decide +kernel)) dX1_seal_27 ?_
        refine lv_iconst (v := 3) hx hb dX1_seal_30 (by decide) ?_
        refine lv_icmp_ge (tgt := 43) hx hb dX1_seal_31 (by decide) (fun c31 => ?_) (fun c31 => ?_)
        · skip
          refine lv_aload_n hx hb dX1_seal_43 rfl (lv_at hl 0 rfl) ?_
          refine g_m_fa hx hb hts hin hown hK hP (hts (.fieldLink RX1 120 RX1 "failures" "I") (by decide +kernel)) dX1_seal_44 ?_
          refine lv_iconst (v := 3) hx hb dX1_seal_47 (by decide) ?_
          refine lv_icmp_lt (tgt := 56) hx hb dX1_seal_48 (by decide) (fun c48 => ?_) (fun c48 => ?_)
          · skip
            refine lv_bipush (v := -5) hx hb dX1_seal_56 (by decide) ?_
            exact W.iret (v := (-5 : Int32)) hx hb hr (fun t ht hW => ⟨⟨_, (S, ro, hd), rfl, ⟨(by unfold M_seal M_sealP; simp only [if_neg c5, if_neg c13, if_neg c21, if_pos c31, if_pos c48] <;> rfl), (by unfold M_seal M_sealP; simp only [if_neg c5, if_neg c13, if_neg c21, if_pos c31, if_pos c48] <;> rfl)⟩, by rw [ht]; exact hP, va_K.moved hW.alike hK, hD⟩, hS.F ht⟩) hS.2.2 dX1_seal_58
          · skip
            refine lv_bipush (v := -2) hx hb dX1_seal_51 (by decide) ?_
            refine lv_goto (tgt := 58) hx hb dX1_seal_53 (by decide) ?_
            exact W.iret (v := (-2 : Int32)) hx hb hr (fun t ht hW => ⟨⟨_, (S, ro, hd), rfl, ⟨(by unfold M_seal M_sealP; simp only [if_neg c5, if_neg c13, if_neg c21, if_pos c31, if_neg c48] <;> rfl), (by unfold M_seal M_sealP; simp only [if_neg c5, if_neg c13, if_neg c21, if_pos c31, if_neg c48] <;> rfl)⟩, by rw [ht]; exact hP, va_K.moved hW.alike hK, hD⟩, hS.F ht⟩) hS.2.2 dX1_seal_58
        · skip
          refine lv_aload_n hx hb dX1_seal_34 rfl (lv_at hl 0 rfl) ?_
          refine g_m_bc hx hb hts hin hown hK hP (hts (.fieldLink RX1 90 RX1 "blobs" "I") (by decide +kernel)) dX1_seal_35 ?_
          refine lv_bipush (v := 10) hx hb dX1_seal_38 (by decide) ?_
          refine lv_icmp_lt (tgt := 59) hx hb dX1_seal_40 (by decide) (fun c40 => ?_) (fun c40 => ?_)
          · skip
            have hb9 := okB_lt hB c40
            refine lv_aload_n hx hb dX1_seal_59 rfl (lv_at hl 0 rfl) ?_
            refine lv_iload_n hx hb dX1_seal_60 rfl (lv_at hl 3 rfl) ?_
            refine lv_i2l hx hb dX1_seal_61 rfl ?_
            refine lv_lload hx hb dX1_seal_62 (lv_at hl 4 rfl) ?_
            refine xcall_l (va_runV (As := [.long mask.toInt64, .long data]) (rest := []) ⟨hx, hb, hml, hown, hts⟩ (c_X1_two l dC dI ad cL cZ cI S ro hd s.heap.size mask.toInt64 data ) (cwV 2 hts gX1_seal_X1_two rfl rfl rfl (by decide +kernel) ⟨Nat.le_of_ble_eq_true rfl, Nat.le_of_ble_eq_true rfl⟩) (xpV_w [.long mask.toInt64, .long data] hK hP hD (va_recv hK hP (ci := 1) (q0 := 0) rfl rfl)) rfl rfl hl.1 rfl (lv_room (Nat.le_of_ble_eq_true rfl)) dX1_seal_64 ⟨Nat.le_of_ble_eq_true rfl, Nat.le_of_ble_eq_true rfl⟩) hD hS hA (fun r u H locs hw hP hD hS => ?_)
            obtain ⟨u1, rw1, hd1⟩ := u
            obtain ⟨rfl, hu1, hh1⟩ := hw
            change hd1 = hd at hh1
            change u1 = S at hu1
            change va_P _ vwCl (wM ad cL cZ cI u1 rw1 hd1) _ at hP
            change va_D _ (wM ad cL cZ cI u1 rw1 hd1) at hD
            rw [hu1, hh1] at hP hD
            refine lv_lstore (lv' := [(6, .long (h2 mask.toInt64 data)), (0, .ref (ad 0)), (1, .int q), (2, .int k), (3, .int mask), (4, .long data)]) hx hb dX1_seal_67 hl (by decide) rfl (fun ls hl => ?_)
            refine lv_aload_n hx hb dX1_seal_69 rfl (lv_at hl 1 rfl) ?_
            refine lv_iload_n hx hb dX1_seal_70 rfl (lv_at hl 2 rfl) ?_
            refine lv_iload_n hx hb dX1_seal_71 rfl (lv_at hl 3 rfl) ?_
            refine lv_iconst (v := 1) hx hb dX1_seal_72 (by decide) ?_
            refine lv_lload hx hb dX1_seal_73 (lv_at hl 0 rfl) ?_
            refine xcall_i (va_runV (As := [.int q, .int k, .int (1 : Int32), .long (h2 mask.toInt64 data)]) (rest := []) ⟨hx, hb, hml, hown, hts⟩ (c_X1_proved l dC dI ad cL cZ cI S rw1 hd H.size q k (1 : Int32) (h2 mask.toInt64 data) hq hk ) (cwV 4 hts gX1_seal_X1_proved rfl rfl rfl (by decide +kernel) ⟨Nat.le_of_ble_eq_true rfl, Nat.le_of_ble_eq_true rfl⟩) (xpV_w [.int q, .int k, .int (1 : Int32), .long (h2 mask.toInt64 data)] hK hP hD (va_recv hK hP (ci := 1) (q0 := 0) rfl rfl)) rfl rfl hl.1 rfl (lv_room (Nat.le_of_ble_eq_true rfl)) dX1_seal_75 ⟨Nat.le_of_ble_eq_true rfl, Nat.le_of_ble_eq_true rfl⟩) hD hS hA (fun r u H locs hw hP hD hS => ?_)
            obtain ⟨u2, rw2, hd2⟩ := u
            obtain ⟨rfl, hu2⟩ := hw
            change u2 = (M_proved S q k (1 : Int32) (h2 mask.toInt64 data)).2 at hu2
            change va_P _ vwCl (wM ad cL cZ cI u2 rw2 hd2) _ at hP
            change va_D _ (wM ad cL cZ cI u2 rw2 hd2) at hD
            rw [hu2] at hP hD
            refine lv_if_ne (tgt := 84) hx hb dX1_seal_78 (by decide) (fun c78 => ?_) (fun c78 => ?_)
            · skip
              have hb1 : vp_in (m_bc (mu_dr (M_proved S q k (1 : Int32) (h2 mask.toInt64 data)).2 (m_dr (M_proved S q k (1 : Int32) (h2 mask.toInt64 data)).2 + 1))) 10 := M_pass_B hb9
              have hd1 : okD (m_dn (mu_dr (M_proved S q k (1 : Int32) (h2 mask.toInt64 data)).2 (m_dr (M_proved S q k (1 : Int32) (h2 mask.toInt64 data)).2 + 1))) := M_pass_D hd9
              refine lv_aload_n hx hb dX1_seal_84 rfl (lv_at hl 1 rfl) ?_
              refine lv_dup hx hb dX1_seal_85 rfl ?_
              refine g_m_dr hx hb hts hin hown hK hP (hts (.fieldLink RX1 93 RX1 "drawn" "J") (by decide +kernel)) dX1_seal_86 ?_
              refine lv_lconst (v := 1) hx hb dX1_seal_89 (by decide) ?_
              refine lv_ladd hx hb dX1_seal_90 ?_
              refine p_m_dr hx hb hts hin hown hK hP hD hS (hts (.fieldLink RX1 93 RX1 "drawn" "J") (by decide +kernel)) dX1_seal_91 (fun H locs hP hD hS => ?_)
              have hP : va_P (dC, dI) vwCl (wM ad cL cZ cI (mu_dr (M_proved S q k (1 : Int32) (h2 mask.toInt64 data)).2 (m_dr (M_proved S q k (1 : Int32) (h2 mask.toInt64 data)).2 + 1)) rw2 hd2) H := hP
              have hD : va_D A (wM ad cL cZ cI (mu_dr (M_proved S q k (1 : Int32) (h2 mask.toInt64 data)).2 (m_dr (M_proved S q k (1 : Int32) (h2 mask.toInt64 data)).2 + 1)) rw2 hd2) := hD
              obtain ⟨T, hT⟩ : ∃ T, T = (mu_dr (M_proved S q k (1 : Int32) (h2 mask.toInt64 data)).2 (m_dr (M_proved S q k (1 : Int32) (h2 mask.toInt64 data)).2 + 1)) := ⟨_, rfl⟩
              rw [← hT] at hP hD hb1 hd1
              refine lv_aload_n hx hb dX1_seal_94 rfl (lv_at hl 1 rfl) ?_
              refine lv_aload_n hx hb dX1_seal_95 rfl (lv_at hl 1 rfl) ?_
              refine g_m_dr hx hb hts hin hown hK hP (hts (.fieldLink RX1 93 RX1 "drawn" "J") (by decide +kernel)) dX1_seal_96 ?_
              refine xcall_l (va_runV (As := [.long (m_dr T)]) (rest := []) ⟨hx, hb, hml, hown, hts⟩ (c_X1_word l dC dI ad cL cZ cI T rw2 hd2 H.size (m_dr T) ) (cwV 1 hts gX1_seal_X1_word rfl rfl rfl (by decide +kernel) ⟨Nat.le_of_ble_eq_true rfl, Nat.le_of_ble_eq_true rfl⟩) (xpV_w [.long (m_dr T)] hK hP hD (va_recv hK hP (ci := 1) (q0 := 0) rfl rfl)) rfl rfl hl.1 rfl (lv_room (Nat.le_of_ble_eq_true rfl)) dX1_seal_99 ⟨Nat.le_of_ble_eq_true rfl, Nat.le_of_ble_eq_true rfl⟩) hD hS hA (fun r u H locs hw hP hD hS => ?_)
              obtain ⟨u3, rw3, hd3⟩ := u
              obtain ⟨rfl, hu3⟩ := hw
              change u3 = T at hu3
              change va_P _ vwCl (wM ad cL cZ cI u3 rw3 hd3) _ at hP
              change va_D _ (wM ad cL cZ cI u3 rw3 hd3) at hD
              rw [hu3] at hP hD
              refine lv_lstore (lv' := [(8, .long (M_word T (m_dr T))), (6, .long (h2 mask.toInt64 data)), (0, .ref (ad 0)), (1, .int q), (2, .int k), (3, .int mask), (4, .long data)]) hx hb dX1_seal_102 hl (by decide) rfl (fun ls hl => ?_)
              refine lv_aload_n hx hb dX1_seal_104 rfl (lv_at hl 2 rfl) ?_
              refine lv_iload_n hx hb dX1_seal_105 rfl (lv_at hl 5 rfl) ?_
              refine xcall_l (va_runV (As := [.int mask]) (rest := []) ⟨hx, hb, hml, hown, hts⟩ (c_X1_digestOf l dC dI ad cL cZ cI T rw3 hd3 H.size mask hd1 ) (cwV 1 hts gX1_seal_X1_digestOf rfl rfl rfl (by decide +kernel) ⟨Nat.le_of_ble_eq_true rfl, Nat.le_of_ble_eq_true rfl⟩) (xpV_w [.int mask] hK hP hD (va_recv hK hP (ci := 1) (q0 := 0) rfl rfl)) rfl rfl hl.1 rfl (lv_room (Nat.le_of_ble_eq_true rfl)) dX1_seal_106 ⟨Nat.le_of_ble_eq_true rfl, Nat.le_of_ble_eq_true rfl⟩) hD hS hA (fun r u H locs hw hP hD hS => ?_)
              obtain ⟨u4, rw4, hd4⟩ := u
              obtain ⟨rfl, hu4⟩ := hw
              change u4 = T at hu4
              change va_P _ vwCl (wM ad cL cZ cI u4 rw4 hd4) _ at hP
              change va_D _ (wM ad cL cZ cI u4 rw4 hd4) at hD
              rw [hu4] at hP hD
              refine lv_lstore (lv' := [(10, .long (M_digestOf T mask)), (8, .long (M_word T (m_dr T))), (6, .long (h2 mask.toInt64 data)), (0, .ref (ad 0)), (1, .int q), (2, .int k), (3, .int mask), (4, .long data)]) hx hb dX1_seal_109 hl (by decide) rfl (fun ls hl => ?_)
              refine lv_bipush (v := 6) hx hb dX1_seal_111 (by decide) ?_
              refine lv_aload_n hx hb dX1_seal_113 rfl (lv_at hl 3 rfl) ?_
              refine g_m_bc hx hb hts hin hown hK hP (hts (.fieldLink RX1 90 RX1 "blobs" "I") (by decide +kernel)) dX1_seal_114 ?_
              refine lv_imul hx hb dX1_seal_117 ?_
              refine lv_istore (lv' := [(12, .int ((6 : Int32) * (m_bc T))), (10, .long (M_digestOf T mask)), (8, .long (M_word T (m_dr T))), (6, .long (h2 mask.toInt64 data)), (0, .ref (ad 0)), (1, .int q), (2, .int k), (3, .int mask), (4, .long data)]) hx hb dX1_seal_118 hl (by decide) rfl (fun ls hl => ?_)
              refine lv_aload_n hx hb dX1_seal_120 rfl (lv_at hl 4 rfl) ?_
              refine g_m_abw hx hb hts hin hown hK hP (hts (.fieldLink RX1 36 RX1 "blobWord" "[J") (by decide +kernel)) dX1_seal_121 ?_
              refine lv_iload hx hb dX1_seal_124 (lv_at hl 0 rfl) ?_
              refine lv_aload_n hx hb dX1_seal_126 rfl (lv_at hl 4 rfl) ?_
              refine lv_iload_n hx hb dX1_seal_127 rfl (lv_at hl 6 rfl) ?_
              refine xcall_l (va_runV (As := [.int k]) (rest := [.int ((6 : Int32) * (m_bc T)), .ref (ad 9)]) ⟨hx, hb, hml, hown, hts⟩ (c_X1_nameOf l dC dI ad cL cZ cI T rw4 hd4 H.size k hk ) (cwV 1 hts gX1_seal_X1_nameOf rfl rfl rfl (by decide +kernel) ⟨Nat.le_of_ble_eq_true rfl, Nat.le_of_ble_eq_true rfl⟩) (xpV_w [.int k] hK hP hD (va_recv hK hP (ci := 1) (q0 := 0) rfl rfl)) rfl rfl hl.1 rfl (lv_room (Nat.le_of_ble_eq_true rfl)) dX1_seal_128 ⟨Nat.le_of_ble_eq_true rfl, Nat.le_of_ble_eq_true rfl⟩) hD hS hA (fun r u H locs hw hP hD hS => ?_)
              obtain ⟨u5, rw5, hd5⟩ := u
              obtain ⟨rfl, hu5⟩ := hw
              change u5 = T at hu5
              change va_P _ vwCl (wM ad cL cZ cI u5 rw5 hd5) _ at hP
              change va_D _ (wM ad cL cZ cI u5 rw5 hd5) at hD
              rw [hu5] at hP hD
              refine s_m_bw hx hb hK hP hD hS (xat60 hb1) dX1_seal_131 (fun H locs hP hD hS => ?_)
              refine lv_aload_n hx hb dX1_seal_132 rfl (lv_at hl 4 rfl) ?_
              refine g_m_abw hx hb hts hin hown hK hP (hts (.fieldLink RX1 36 RX1 "blobWord" "[J") (by decide +kernel)) dX1_seal_133 ?_
              refine lv_iload hx hb dX1_seal_136 (lv_at hl 0 rfl) ?_
              refine lv_iconst (v := 1) hx hb dX1_seal_138 (by decide) ?_
              refine lv_iadd hx hb dX1_seal_139 ?_
              refine lv_iload_n hx hb dX1_seal_140 rfl (lv_at hl 7 rfl) ?_
              refine lv_i2l hx hb dX1_seal_141 rfl ?_
              refine s_m_bw hx hb hK hP hD hS (xat6 hb1 (xat_nI (by decide) (by decide))) dX1_seal_142 (fun H locs hP hD hS => ?_)
              refine lv_aload_n hx hb dX1_seal_143 rfl (lv_at hl 4 rfl) ?_
              refine g_m_abw hx hb hts hin hown hK hP (hts (.fieldLink RX1 36 RX1 "blobWord" "[J") (by decide +kernel)) dX1_seal_144 ?_
              refine lv_iload hx hb dX1_seal_147 (lv_at hl 0 rfl) ?_
              refine lv_iconst (v := 2) hx hb dX1_seal_149 (by decide) ?_
              refine lv_iadd hx hb dX1_seal_150 ?_
              refine lv_lload hx hb dX1_seal_151 (lv_at hl 1 rfl) ?_
              refine s_m_bw hx hb hK hP hD hS (xat6 hb1 (xat_nI (by decide) (by decide))) dX1_seal_153 (fun H locs hP hD hS => ?_)
              refine lv_aload_n hx hb dX1_seal_154 rfl (lv_at hl 4 rfl) ?_
              refine g_m_abw hx hb hts hin hown hK hP (hts (.fieldLink RX1 36 RX1 "blobWord" "[J") (by decide +kernel)) dX1_seal_155 ?_
              refine lv_iload hx hb dX1_seal_158 (lv_at hl 0 rfl) ?_
              refine lv_iconst (v := 3) hx hb dX1_seal_160 (by decide) ?_
              refine lv_iadd hx hb dX1_seal_161 ?_
              refine lv_lload hx hb dX1_seal_162 (lv_at hl 2 rfl) ?_
              refine s_m_bw hx hb hK hP hD hS (xat6 hb1 (xat_nI (by decide) (by decide))) dX1_seal_164 (fun H locs hP hD hS => ?_)
              refine lv_aload_n hx hb dX1_seal_165 rfl (lv_at hl 4 rfl) ?_
              refine g_m_abw hx hb hts hin hown hK hP (hts (.fieldLink RX1 36 RX1 "blobWord" "[J") (by decide +kernel)) dX1_seal_166 ?_
              refine lv_iload hx hb dX1_seal_169 (lv_at hl 0 rfl) ?_
              refine lv_iconst (v := 4) hx hb dX1_seal_171 (by decide) ?_
              refine lv_iadd hx hb dX1_seal_172 ?_
              refine lv_lload hx hb dX1_seal_173 (lv_at hl 8 rfl) ?_
              refine lv_aload_n hx hb dX1_seal_175 rfl (lv_at hl 4 rfl) ?_
              refine lv_lload hx hb dX1_seal_176 (lv_at hl 2 rfl) ?_
              refine lv_lload hx hb dX1_seal_178 (lv_at hl 1 rfl) ?_
              refine xcall_l (va_runV (As := [.long (M_word T (m_dr T)), .long (M_digestOf T mask)]) (rest := [.long data, .int (((6 : Int32) * (m_bc T)) + (4 : Int32)), .ref (ad 9)]) ⟨hx, hb, hml, hown, hts⟩ (c_X1_veil l dC dI ad cL cZ cI (mu_bw (mu_bw (mu_bw (mu_bw T (vp_updL (m_bw T) (6 * (m_bc T).toNatClampNeg) (M_nameOf T k))) (vp_updL (m_bw (mu_bw T (vp_updL (m_bw T) (6 * (m_bc T).toNatClampNeg) (M_nameOf T k)))) (6 * (m_bc T).toNatClampNeg + 1) mask.toInt64)) (vp_updL (m_bw (mu_bw (mu_bw T (vp_updL (m_bw T) (6 * (m_bc T).toNatClampNeg) (M_nameOf T k))) (vp_updL (m_bw (mu_bw T (vp_updL (m_bw T) (6 * (m_bc T).toNatClampNeg) (M_nameOf T k)))) (6 * (m_bc T).toNatClampNeg + 1) mask.toInt64))) (6 * (m_bc T).toNatClampNeg + 2) (M_digestOf T mask))) (vp_updL (m_bw (mu_bw (mu_bw (mu_bw T (vp_updL (m_bw T) (6 * (m_bc T).toNatClampNeg) (M_nameOf T k))) (vp_updL (m_bw (mu_bw T (vp_updL (m_bw T) (6 * (m_bc T).toNatClampNeg) (M_nameOf T k)))) (6 * (m_bc T).toNatClampNeg + 1) mask.toInt64)) (vp_updL (m_bw (mu_bw (mu_bw T (vp_updL (m_bw T) (6 * (m_bc T).toNatClampNeg) (M_nameOf T k))) (vp_updL (m_bw (mu_bw T (vp_updL (m_bw T) (6 * (m_bc T).toNatClampNeg) (M_nameOf T k)))) (6 * (m_bc T).toNatClampNeg + 1) mask.toInt64))) (6 * (m_bc T).toNatClampNeg + 2) (M_digestOf T mask)))) (6 * (m_bc T).toNatClampNeg + 3) (M_word T (m_dr T)))) rw5 hd5 H.size (M_word T (m_dr T)) (M_digestOf T mask) ) (cwV 2 hts gX1_seal_X1_veil rfl rfl rfl (by decide +kernel) ⟨Nat.le_of_ble_eq_true rfl, Nat.le_of_ble_eq_true rfl⟩) (xpV_w [.long (M_word T (m_dr T)), .long (M_digestOf T mask)] hK hP hD (va_recv hK hP (ci := 1) (q0 := 0) rfl rfl)) rfl rfl hl.1 rfl (lv_room (Nat.le_of_ble_eq_true rfl)) dX1_seal_180 ⟨Nat.le_of_ble_eq_true rfl, Nat.le_of_ble_eq_true rfl⟩) hD hS hA (fun r u H locs hw hP hD hS => ?_)
              obtain ⟨u6, rw6, hd6⟩ := u
              obtain ⟨rfl, hu6⟩ := hw
              change u6 = (mu_bw (mu_bw (mu_bw (mu_bw T (vp_updL (m_bw T) (6 * (m_bc T).toNatClampNeg) (M_nameOf T k))) (vp_updL (m_bw (mu_bw T (vp_updL (m_bw T) (6 * (m_bc T).toNatClampNeg) (M_nameOf T k)))) (6 * (m_bc T).toNatClampNeg + 1) mask.toInt64)) (vp_updL (m_bw (mu_bw (mu_bw T (vp_updL (m_bw T) (6 * (m_bc T).toNatClampNeg) (M_nameOf T k))) (vp_updL (m_bw (mu_bw T (vp_updL (m_bw T) (6 * (m_bc T).toNatClampNeg) (M_nameOf T k)))) (6 * (m_bc T).toNatClampNeg + 1) mask.toInt64))) (6 * (m_bc T).toNatClampNeg + 2) (M_digestOf T mask))) (vp_updL (m_bw (mu_bw (mu_bw (mu_bw T (vp_updL (m_bw T) (6 * (m_bc T).toNatClampNeg) (M_nameOf T k))) (vp_updL (m_bw (mu_bw T (vp_updL (m_bw T) (6 * (m_bc T).toNatClampNeg) (M_nameOf T k)))) (6 * (m_bc T).toNatClampNeg + 1) mask.toInt64)) (vp_updL (m_bw (mu_bw (mu_bw T (vp_updL (m_bw T) (6 * (m_bc T).toNatClampNeg) (M_nameOf T k))) (vp_updL (m_bw (mu_bw T (vp_updL (m_bw T) (6 * (m_bc T).toNatClampNeg) (M_nameOf T k)))) (6 * (m_bc T).toNatClampNeg + 1) mask.toInt64))) (6 * (m_bc T).toNatClampNeg + 2) (M_digestOf T mask)))) (6 * (m_bc T).toNatClampNeg + 3) (M_word T (m_dr T)))) at hu6
              change va_P _ vwCl (wM ad cL cZ cI u6 rw6 hd6) _ at hP
              change va_D _ (wM ad cL cZ cI u6 rw6 hd6) at hD
              rw [hu6] at hP hD
              refine lv_lxor hx hb dX1_seal_183 ?_
              refine s_m_bw hx hb hK hP hD hS (xat6 hb1 (xat_nI (by decide) (by decide))) dX1_seal_184 (fun H locs hP hD hS => ?_)
              have hP : va_P (dC, dI) vwCl (wM ad cL cZ cI (M_ab5 T k mask data) rw6 hd6) H := hP
              have hD : va_D A (wM ad cL cZ cI (M_ab5 T k mask data) rw6 hd6) := hD
              refine lv_aload_n hx hb dX1_seal_185 rfl (lv_at hl 4 rfl) ?_
              refine g_m_abw hx hb hts hin hown hK hP (hts (.fieldLink RX1 36 RX1 "blobWord" "[J") (by decide +kernel)) dX1_seal_186 ?_
              refine lv_iload hx hb dX1_seal_189 (lv_at hl 0 rfl) ?_
              refine lv_iconst (v := 5) hx hb dX1_seal_191 (by decide) ?_
              refine lv_iadd hx hb dX1_seal_192 ?_
              refine lv_aload_n hx hb dX1_seal_193 rfl (lv_at hl 4 rfl) ?_
              refine lv_aload_n hx hb dX1_seal_194 rfl (lv_at hl 4 rfl) ?_
              refine g_m_bc hx hb hts hin hown hK hP (hts (.fieldLink RX1 90 RX1 "blobs" "I") (by decide +kernel)) dX1_seal_195 ?_
              rw [M_ab5_bc]
              refine xcall_l (va_runV (As := [.int (m_bc T)]) (rest := [.int (((6 : Int32) * (m_bc T)) + (5 : Int32)), .ref (ad 9)]) ⟨hx, hb, hml, hown, hts⟩ (c_X1_sealOf l dC dI ad cL cZ cI (M_ab5 T k mask data) rw6 hd6 H.size (m_bc T) hb1 ) (cwV 1 hts gX1_seal_X1_sealOf rfl rfl rfl (by decide +kernel) ⟨Nat.le_of_ble_eq_true rfl, Nat.le_of_ble_eq_true rfl⟩) (xpV_w [.int (m_bc T)] hK hP hD (va_recv hK hP (ci := 1) (q0 := 0) rfl rfl)) rfl rfl hl.1 rfl (lv_room (Nat.le_of_ble_eq_true rfl)) dX1_seal_198 ⟨Nat.le_of_ble_eq_true rfl, Nat.le_of_ble_eq_true rfl⟩) hD hS hA (fun r u H locs hw hP hD hS => ?_)
              obtain ⟨u7, rw7, hd7⟩ := u
              obtain ⟨rfl, hu7⟩ := hw
              change u7 = (M_ab5 T k mask data) at hu7
              change va_P _ vwCl (wM ad cL cZ cI u7 rw7 hd7) _ at hP
              change va_D _ (wM ad cL cZ cI u7 rw7 hd7) at hD
              rw [hu7] at hP hD
              refine s_m_bw hx hb hK hP hD hS (xat6 hb1 (xat_nI (by decide) (by decide))) dX1_seal_201 (fun H locs hP hD hS => ?_)
              refine lv_aload_n hx hb dX1_seal_202 rfl (lv_at hl 4 rfl) ?_
              refine lv_dup hx hb dX1_seal_203 rfl ?_
              refine g_m_bc hx hb hts hin hown hK hP (hts (.fieldLink RX1 90 RX1 "blobs" "I") (by decide +kernel)) dX1_seal_204 ?_
              refine lv_iconst (v := 1) hx hb dX1_seal_207 (by decide) ?_
              refine lv_iadd hx hb dX1_seal_208 ?_
              refine p_m_bc hx hb hts hin hown hK hP hD hS (hts (.fieldLink RX1 90 RX1 "blobs" "I") (by decide +kernel)) dX1_seal_209 (fun H locs hP hD hS => ?_)
              have hP : va_P (dC, dI) vwCl (wM ad cL cZ cI (M_addBlob T k mask data) rw7 hd7) H := hP
              have hD : va_D A (wM ad cL cZ cI (M_addBlob T k mask data) rw7 hd7) := hD
              refine lv_aload_n hx hb dX1_seal_212 rfl (lv_at hl 4 rfl) ?_
              refine g_m_bc hx hb hts hin hown hK hP (hts (.fieldLink RX1 90 RX1 "blobs" "I") (by decide +kernel)) dX1_seal_213 ?_
              rw [M_addBlob_bc]
              refine lv_iconst (v := 1) hx hb dX1_seal_216 (by decide) ?_
              refine lv_isub hx hb dX1_seal_217 ?_
              exact W.iret (v := ((m_bc T + 1) - (1 : Int32))) hx hb hr (fun t ht hW => ⟨⟨_, ((M_addBlob T k mask data), rw7, hd7), rfl, ⟨(by subst hT; unfold M_seal M_sealP; simp only [if_neg c5, if_neg c13, if_neg c21, if_neg c31, if_pos c40, if_neg c78] <;> rfl), (by subst hT; unfold M_seal M_sealP; simp only [if_neg c5, if_neg c13, if_neg c21, if_neg c31, if_pos c40, if_neg c78] <;> rfl)⟩, by rw [ht]; exact hP, va_K.moved hW.alike hK, hD⟩, hS.F ht⟩) hS.2.2 dX1_seal_218
            · skip
              refine lv_bipush (v := -6) hx hb dX1_seal_81 (by decide) ?_
              exact W.iret (v := (-6 : Int32)) hx hb hr (fun t ht hW => ⟨⟨_, ((M_proved S q k (1 : Int32) (h2 mask.toInt64 data)).2, rw2, hd2), rfl, ⟨(by unfold M_seal M_sealP; simp only [if_neg c5, if_neg c13, if_neg c21, if_neg c31, if_pos c40, if_pos c78] <;> rfl), (by unfold M_seal M_sealP; simp only [if_neg c5, if_neg c13, if_neg c21, if_neg c31, if_pos c40, if_pos c78] <;> rfl)⟩, by rw [ht]; exact hP, va_K.moved hW.alike hK, hD⟩, hS.F ht⟩) hS.2.2 dX1_seal_83
          · skip
            refine lv_aload_n hx hb dX1_seal_43 rfl (lv_at hl 0 rfl) ?_
            refine g_m_fa hx hb hts hin hown hK hP (hts (.fieldLink RX1 120 RX1 "failures" "I") (by decide +kernel)) dX1_seal_44 ?_
            refine lv_iconst (v := 3) hx hb dX1_seal_47 (by decide) ?_
            refine lv_icmp_lt (tgt := 56) hx hb dX1_seal_48 (by decide) (fun c48 => ?_) (fun c48 => ?_)
            · skip
              refine lv_bipush (v := -5) hx hb dX1_seal_56 (by decide) ?_
              exact W.iret (v := (-5 : Int32)) hx hb hr (fun t ht hW => ⟨⟨_, (S, ro, hd), rfl, ⟨(by unfold M_seal M_sealP; simp only [if_neg c5, if_neg c13, if_neg c21, if_neg c31, if_neg c40, if_pos c48] <;> rfl), (by unfold M_seal M_sealP; simp only [if_neg c5, if_neg c13, if_neg c21, if_neg c31, if_neg c40, if_pos c48] <;> rfl)⟩, by rw [ht]; exact hP, va_K.moved hW.alike hK, hD⟩, hS.F ht⟩) hS.2.2 dX1_seal_58
            · skip
              refine lv_bipush (v := -2) hx hb dX1_seal_51 (by decide) ?_
              refine lv_goto (tgt := 58) hx hb dX1_seal_53 (by decide) ?_
              exact W.iret (v := (-2 : Int32)) hx hb hr (fun t ht hW => ⟨⟨_, (S, ro, hd), rfl, ⟨(by unfold M_seal M_sealP; simp only [if_neg c5, if_neg c13, if_neg c21, if_neg c31, if_neg c40, if_neg c48] <;> rfl), (by unfold M_seal M_sealP; simp only [if_neg c5, if_neg c13, if_neg c21, if_neg c31, if_neg c40, if_neg c48] <;> rfl)⟩, by rw [ht]; exact hP, va_K.moved hW.alike hK, hD⟩, hS.F ht⟩) hS.2.2 dX1_seal_58
      · skip
        refine lv_iconst (v := -1) hx hb dX1_seal_24 (by decide) ?_
        exact W.iret (v := (-1 : Int32)) hx hb hr (fun t ht hW => ⟨⟨_, (S, ro, hd), rfl, ⟨(by unfold M_seal M_sealP; simp only [if_neg c5, if_neg c13, if_pos c21] <;> rfl), (by unfold M_seal M_sealP; simp only [if_neg c5, if_neg c13, if_pos c21] <;> rfl)⟩, by rw [ht]; exact hP, va_K.moved hW.alike hK, hD⟩, hS.F ht⟩) hS.2.2 dX1_seal_25
