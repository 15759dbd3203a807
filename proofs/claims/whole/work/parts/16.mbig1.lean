set_option maxHeartbeats 4000000 in
set_option maxRecDepth 100000 in
theorem c_X1_output (l : Launch) (dC : Nat → ClassId) (dI : Nat → Nat → Nat) (ad : Nat → Nat) (cL cZ cI : ClassId) (S : SM) (ro hd : Nat → Int64)   : Met l yX1_output wsX1_output ({ frames := 0, cells := 0, slots := 0, locals := 0 }) (va_Pc [.ref (ad 0)] (fun U => va_P (dC, dI) vwCl (wM ad cL cZ cI S ro hd) U.heap ∧ va_K (dC, dI) vwCl (tyM cL cZ cI) U)) (vp_Sl (fun r => r = m_ou S)) 0 0 (fun _ => False) := by
  refine Met.ofW (cc := cX1_output) (maxL := 1) (ret := (some .long)) (by decide) rfl ?_
  intro p e s m args below meth c s₁ B hml hv
  obtain ⟨rfl, hP, hK⟩ := hv
  have hx := B.exec
  have hb := B.bytes
  have hr := B.returns
  have hts := atoms_spec (ws := wsX1_output) B.pre
  have hown : s.vm.findClass RX1 = some m.cls := findClass_of_methodNamed B.named
  have hlocks := B.notSynchronized
  have hin : ∀ w ∈ wsX10, w ∈ wsX1_output := fun _ h => List.mem_cons_of_mem _ (List.mem_append_right _ h)
  have hl := lv_entry ([.ref (ad 0)]) (n := 1) (Nat.le_of_ble_eq_true rfl)
  rw [lg_entry_eq]
  generalize (lg_sl ([.ref (ad 0)]) ++ List.replicate (1 - (lg_sl ([.ref (ad 0)])).length) Slot.unset).toArray = ls at hl ⊢
  have hl : lv_has ls 1 [(0, .ref (ad 0))] := hl
  refine lv_aload_n hx hb dX1_output_0 rfl (lv_at hl 0 rfl) ?_
  refine g_m_ou hx hb hts hin hown hK hP (hts (.fieldLink RX1 123 RX1 "output" "J") (by decide +kernel)) dX1_output_1 ?_
  exact W.lret (v := (m_ou S)) hx hb hr (fun t ht hW => ⟨_, rfl, rfl, ht⟩) (fun _ h => by cases h) dX1_output_4
set_option maxHeartbeats 4000000 in
set_option maxRecDepth 100000 in
theorem c_X1_failures (l : Launch) (dC : Nat → ClassId) (dI : Nat → Nat → Nat) (ad : Nat → Nat) (cL cZ cI : ClassId) (S : SM) (ro hd : Nat → Int64)   : Met l yX1_failures wsX1_failures ({ frames := 0, cells := 0, slots := 0, locals := 0 }) (va_Pc [.ref (ad 0)] (fun U => va_P (dC, dI) vwCl (wM ad cL cZ cI S ro hd) U.heap ∧ va_K (dC, dI) vwCl (tyM cL cZ cI) U)) (vp_Si (fun r => r = m_fa S)) 0 0 (fun _ => False) := by
  refine Met.ofW (cc := cX1_failures) (maxL := 1) (ret := (some .int)) (by decide) rfl ?_
  intro p e s m args below meth c s₁ B hml hv
  obtain ⟨rfl, hP, hK⟩ := hv
  have hx := B.exec
  have hb := B.bytes
  have hr := B.returns
  have hts := atoms_spec (ws := wsX1_failures) B.pre
  have hown : s.vm.findClass RX1 = some m.cls := findClass_of_methodNamed B.named
  have hlocks := B.notSynchronized
  have hin : ∀ w ∈ wsX10, w ∈ wsX1_failures := fun _ h => List.mem_cons_of_mem _ (List.mem_append_right _ h)
  have hl := lv_entry ([.ref (ad 0)]) (n := 1) (Nat.le_of_ble_eq_true rfl)
  rw [lg_entry_eq]
  generalize (lg_sl ([.ref (ad 0)]) ++ List.replicate (1 - (lg_sl ([.ref (ad 0)])).length) Slot.unset).toArray = ls at hl ⊢
  have hl : lv_has ls 1 [(0, .ref (ad 0))] := hl
  refine lv_aload_n hx hb dX1_failures_0 rfl (lv_at hl 0 rfl) ?_
  refine g_m_fa hx hb hts hin hown hK hP (hts (.fieldLink RX1 120 RX1 "failures" "I") (by decide +kernel)) dX1_failures_1 ?_
  exact W.iret (v := (m_fa S)) hx hb hr (fun t ht hW => ⟨_, rfl, rfl, ht⟩) (fun _ h => by cases h) dX1_failures_4
set_option maxHeartbeats 4000000 in
set_option maxRecDepth 100000 in
theorem c_X1_blob (l : Launch) (dC : Nat → ClassId) (dI : Nat → Nat → Nat) (ad : Nat → Nat) (cL cZ cI : ClassId) (S : SM) (ro hd : Nat → Int64) (k : Int32) (i : Int32) (hB : okB (m_bc S)) : Met l yX1_blob wsX1_blob ({ frames := 1, cells := 0, slots := 0, locals := 21 }) (va_Pc [.ref (ad 0), .int k, .int i] (fun U => va_P (dC, dI) vwCl (wM ad cL cZ cI S ro hd) U.heap ∧ va_K (dC, dI) vwCl (tyM cL cZ cI) U)) (vp_Sl (fun r => r = M_blob S k i)) 0 0 (fun _ => False) := by
  refine Met.ofW (cc := cX1_blob) (maxL := 3) (ret := (some .long)) (by decide) rfl ?_
  intro p e s m args below meth c s₁ B hml hv
  obtain ⟨rfl, hP, hK⟩ := hv
  have hx := B.exec
  have hb := B.bytes
  have hr := B.returns
  have hts := atoms_spec (ws := wsX1_blob) B.pre
  have hown : s.vm.findClass RX1 = some m.cls := findClass_of_methodNamed B.named
  have hlocks := B.notSynchronized
  have hin : ∀ w ∈ wsX10, w ∈ wsX1_blob := fun _ h => List.mem_cons_of_mem _ (List.mem_append_right _ h)
  have hl := lv_entry ([.ref (ad 0), .int k, .int i]) (n := 3) (Nat.le_of_ble_eq_true rfl)
  rw [lg_entry_eq]
  generalize (lg_sl ([.ref (ad 0), .int k, .int i]) ++ List.replicate (3 - (lg_sl ([.ref (ad 0), .int k, .int i])).length) Slot.unset).toArray = ls at hl ⊢
  have hl : lv_has ls 3 [(0, .ref (ad 0)), (1, .int k), (2, .int i)] := hl
  refine lv_aload_n hx hb dX1_blob_0 rfl (lv_at hl 0 rfl) ?_
  refine lv_iload_n hx hb dX1_blob_1 rfl (lv_at hl 1 rfl) ?_
  refine vp_callSi (va_Run.run (va_runV (As := [.int k]) (rest := []) ⟨hx, hb, hml, hown, hts⟩ (c_X1_hasBlob l dC dI ad cL cZ cI S ro hd k ) (cwV 1 hts gX1_blob_X1_hasBlob rfl rfl rfl (by decide +kernel) ⟨Nat.le_of_ble_eq_true rfl, Nat.le_of_ble_eq_true rfl⟩) (xpV_r [.int k] hK hP (va_recv hK hP (ci := 1) (q0 := 0) rfl rfl)) rfl rfl hl.1 rfl (lv_room (Nat.le_of_ble_eq_true rfl)) dX1_blob_2 ⟨Nat.le_of_ble_eq_true rfl, Nat.le_of_ble_eq_true rfl⟩)) (fun r hr9 => ?_)
  subst hr9
  refine lv_if_eq (tgt := 31) hx hb dX1_blob_5 (by decide) (fun c5 => ?_) (fun c5 => ?_)
  · skip
    refine lv_lconst (v := 0) hx hb dX1_blob_31 (by decide) ?_
    exact W.lret (v := (0 : Int64)) hx hb hr (fun t ht hW => ⟨_, rfl, (by simp only [M_blob, if_pos c5] <;> rfl), ht⟩) (fun _ h => by cases h) dX1_blob_32
  · skip
    have hk := M_hasBlob_in hB c5
    refine lv_iload_n hx hb dX1_blob_8 rfl (lv_at hl 2 rfl) ?_
    refine lv_if_lt (tgt := 31) hx hb dX1_blob_9 (by decide) (fun c9 => ?_) (fun c9 => ?_)
    · skip
      refine lv_lconst (v := 0) hx hb dX1_blob_31 (by decide) ?_
      exact W.lret (v := (0 : Int64)) hx hb hr (fun t ht hW => ⟨_, rfl, (by simp only [M_blob, if_neg c5, if_pos c9] <;> rfl), ht⟩) (fun _ h => by cases h) dX1_blob_32
    · skip
      refine lv_iload_n hx hb dX1_blob_12 rfl (lv_at hl 2 rfl) ?_
      refine lv_iconst (v := 5) hx hb dX1_blob_13 (by decide) ?_
      refine lv_icmp_gt (tgt := 31) hx hb dX1_blob_14 (by decide) (fun c14 => ?_) (fun c14 => ?_)
      · skip
        refine lv_lconst (v := 0) hx hb dX1_blob_31 (by decide) ?_
        exact W.lret (v := (0 : Int64)) hx hb hr (fun t ht hW => ⟨_, rfl, (by simp only [M_blob, if_neg c5, if_neg c9, if_pos c14] <;> rfl), ht⟩) (fun _ h => by cases h) dX1_blob_32
      · skip
        have hi := xin_ngt (M := 5) rfl (by decide) c9 c14
        refine lv_aload_n hx hb dX1_blob_17 rfl (lv_at hl 0 rfl) ?_
        refine g_m_abw hx hb hts hin hown hK hP (hts (.fieldLink RX1 36 RX1 "blobWord" "[J") (by decide +kernel)) dX1_blob_18 ?_
        refine lv_bipush (v := 6) hx hb dX1_blob_21 (by decide) ?_
        refine lv_iload_n hx hb dX1_blob_23 rfl (lv_at hl 1 rfl) ?_
        refine lv_imul hx hb dX1_blob_24 ?_
        refine lv_iload_n hx hb dX1_blob_25 rfl (lv_at hl 2 rfl) ?_
        refine lv_iadd hx hb dX1_blob_26 ?_
        refine l_m_bw hx hb hK hP (xat6 hk (xat_self hi)) dX1_blob_27 ?_
        refine lv_goto (tgt := 32) hx hb dX1_blob_28 (by decide) ?_
        exact W.lret (v := (m_bw S (6 * k.toNatClampNeg + i.toNatClampNeg))) hx hb hr (fun t ht hW => ⟨_, rfl, (by simp only [M_blob, if_neg c5, if_neg c9, if_neg c14] <;> rfl), ht⟩) (fun _ h => by cases h) dX1_blob_32
set_option maxHeartbeats 4000000 in
set_option maxRecDepth 100000 in
theorem c_X1_change (l : Launch) (dC : Nat → ClassId) (dI : Nat → Nat → Nat) (ad : Nat → Nat) (cL cZ cI : ClassId) (S : SM) (ro hd : Nat → Int64) (sz : Nat) (k : Int32) (i : Int32) (v : Int64) (hB : okB (m_bc S)) : Met l yX1_change wsX1_change ({ frames := 1, cells := 0, slots := 0, locals := 21 }) (va_Pc [.ref (ad 0), .int k, .int i, .long v] (fun U => U.heap.size = sz ∧ va_P (dC, dI) vwCl (wM ad cL cZ cI S ro hd) U.heap ∧ va_K (dC, dI) vwCl (tyM cL cZ cI) U ∧ va_D (fun _ => True) (wM ad cL cZ cI S ro hd))) (va_Qi (fun r (u : SMr) => r = (M_change S k i v).1 ∧ u.1 = (M_change S k i v).2) (xB (dC, dI) (wMr ad cL cZ cI) (tyM cL cZ cI) (va_A (wM ad cL cZ cI S ro hd) sz)) (va_A (wM ad cL cZ cI S ro hd) sz)) 0 0 (va_A (wM ad cL cZ cI S ro hd) sz) := by
  refine Met.ofW (cc := cX1_change) (maxL := 5) (ret := (some .boolean)) (by decide) rfl ?_
  intro p e s m args below meth c s₁ B hml hv
  obtain ⟨rfl, hsz, hP, hK, hD0⟩ := hv
  have hx := B.exec
  have hb := B.bytes
  have hr := B.returns
  have hts := atoms_spec (ws := wsX1_change) B.pre
  have hown : s.vm.findClass RX1 = some m.cls := findClass_of_methodNamed B.named
  have hlocks := B.notSynchronized
  have hin : ∀ w ∈ wsX10, w ∈ wsX1_change := fun _ h => List.mem_cons_of_mem _ (List.mem_append_right _ h)
  subst hsz
  have hD := hD0.self (sz := s.heap.size)
  generalize hAe : va_A (wM ad cL cZ cI S ro hd) s.heap.size = A at hD ⊢
  have hA : ∀ q : Nat, s.heap.size ≤ q → A q := fun q h => by rw [← hAe]; exact Or.inr h
  have hS : va_S A s.heap s.heap [] := va_S.rf
  have hl := lv_entry ([.ref (ad 0), .int k, .int i, .long v]) (n := 5) (Nat.le_of_ble_eq_true rfl)
  rw [lg_entry_eq]
  generalize (lg_sl ([.ref (ad 0), .int k, .int i, .long v]) ++ List.replicate (5 - (lg_sl ([.ref (ad 0), .int k, .int i, .long v])).length) Slot.unset).toArray = ls at hl ⊢
  have hl : lv_has ls 5 [(0, .ref (ad 0)), (1, .int k), (2, .int i), (3, .long v)] := hl
  refine lv_aload_n hx hb dX1_change_0 rfl (lv_at hl 0 rfl) ?_
  refine lv_iload_n hx hb dX1_change_1 rfl (lv_at hl 1 rfl) ?_
  refine vp_callSi (va_Run.run (va_runV (As := [.int k]) (rest := []) ⟨hx, hb, hml, hown, hts⟩ (c_X1_hasBlob l dC dI ad cL cZ cI S ro hd k ) (cwV 1 hts gX1_change_X1_hasBlob rfl rfl rfl (by decide +kernel) ⟨Nat.le_of_ble_eq_true rfl, Nat.le_of_ble_eq_true rfl⟩) (xpV_r [.int k] hK hP (va_recv hK hP (ci := 1) (q0 := 0) rfl rfl)) rfl rfl hl.1 rfl (lv_room (Nat.le_of_ble_eq_true rfl)) dX1_change_2 ⟨Nat.le_of_ble_eq_true rfl, Nat.le_of_ble_eq_true rfl⟩)) (fun r hr9 => ?_)
  subst hr9
  refine lv_if_eq (tgt := 17) hx hb dX1_change_5 (by decide) (fun c5 => ?_) (fun c5 => ?_)
  · skip
    refine lv_iconst (v := 0) hx hb dX1_change_17 (by decide) ?_
    exact W.zret (v := (0 : Int32)) hx hb hr rfl (fun t ht hW => ⟨⟨_, (S, ro, hd), rfl, ⟨(by simp only [M_change, if_pos c5] <;> rfl), (by simp only [M_change, if_pos c5] <;> rfl)⟩, by rw [ht]; exact hP, va_K.moved hW.alike hK, hD⟩, hS.F ht⟩) hS.2.2 dX1_change_18
  · skip
    have hk := M_hasBlob_in hB c5
    refine lv_iload_n hx hb dX1_change_8 rfl (lv_at hl 2 rfl) ?_
    refine lv_if_lt (tgt := 17) hx hb dX1_change_9 (by decide) (fun c9 => ?_) (fun c9 => ?_)
    · skip
      refine lv_iconst (v := 0) hx hb dX1_change_17 (by decide) ?_
      exact W.zret (v := (0 : Int32)) hx hb hr rfl (fun t ht hW => ⟨⟨_, (S, ro, hd), rfl, ⟨(by simp only [M_change, if_neg c5, if_pos c9] <;> rfl), (by simp only [M_change, if_neg c5, if_pos c9] <;> rfl)⟩, by rw [ht]; exact hP, va_K.moved hW.alike hK, hD⟩, hS.F ht⟩) hS.2.2 dX1_change_18
    · skip
      refine lv_iload_n hx hb dX1_change_12 rfl (lv_at hl 2 rfl) ?_
      refine lv_iconst (v := 5) hx hb dX1_change_13 (by decide) ?_
      refine lv_icmp_le (tgt := 19) hx hb dX1_change_14 (by decide) (fun c14 => ?_) (fun c14 => ?_)
      · skip
        have hi := xin_le (M := 5) rfl (by decide) c9 c14
        refine lv_aload_n hx hb dX1_change_19 rfl (lv_at hl 0 rfl) ?_
        refine g_m_abw hx hb hts hin hown hK hP (hts (.fieldLink RX1 36 RX1 "blobWord" "[J") (by decide +kernel)) dX1_change_20 ?_
        refine lv_bipush (v := 6) hx hb dX1_change_23 (by decide) ?_
        refine lv_iload_n hx hb dX1_change_25 rfl (lv_at hl 1 rfl) ?_
        refine lv_imul hx hb dX1_change_26 ?_
        refine lv_iload_n hx hb dX1_change_27 rfl (lv_at hl 2 rfl) ?_
        refine lv_iadd hx hb dX1_change_28 ?_
        refine lv_lload_n hx hb dX1_change_29 rfl (lv_at hl 3 rfl) ?_
        refine s_m_bw hx hb hK hP hD hS (xat6 hk (xat_self hi)) dX1_change_30 (fun H locs hP hD hS => ?_)
        refine lv_iconst (v := 1) hx hb dX1_change_31 (by decide) ?_
        exact W.zret (v := (1 : Int32)) hx hb hr rfl (fun t ht hW => ⟨⟨_, ((mu_bw S (vp_updL (m_bw S) (6 * k.toNatClampNeg + i.toNatClampNeg) v)), ro, hd), rfl, ⟨(by simp only [M_change, if_neg c5, if_neg c9, if_pos c14] <;> rfl), (by simp only [M_change, if_neg c5, if_neg c9, if_pos c14] <;> rfl)⟩, by rw [ht]; exact hP, va_K.moved hW.alike hK, hD⟩, hS.F ht⟩) hS.2.2 dX1_change_32
      · skip
        refine lv_iconst (v := 0) hx hb dX1_change_17 (by decide) ?_
        exact W.zret (v := (0 : Int32)) hx hb hr rfl (fun t ht hW => ⟨⟨_, (S, ro, hd), rfl, ⟨(by simp only [M_change, if_neg c5, if_neg c9, if_neg c14] <;> rfl), (by simp only [M_change, if_neg c5, if_neg c9, if_neg c14] <;> rfl)⟩, by rw [ht]; exact hP, va_K.moved hW.alike hK, hD⟩, hS.F ht⟩) hS.2.2 dX1_change_18
set_option maxHeartbeats 4000000 in
set_option maxRecDepth 100000 in
theorem lp_X1_reboot_22 {p : Program} {l : Launch} {e : Env} {s : State} {m : MethodId} {args : Array Value} {below : List Frame} {meth : Method} {c : Code} {Q : State → Prop} {dC : Nat → ClassId} {dI : Nat → Nat → Nat} {ad : Nat → Nat} {cL cZ cI : ClassId} {S : SM} {ro hd : Nat → Int64} {A : Nat → Prop} {H0 : Heap}  (hx : p.tables.exec = Jvm.exec) (hb : c.code = cX1_reboot) (hml : c.maxLocals = 2) (hown : s.vm.findClass RX1 = some m.cls) (hts : ∀ w ∈ wsX1_reboot, w.before args s = true) (hK : va_K (dC, dI) vwCl (tyM cL cZ cI) s) (hA : ∀ q, H0.size ≤ q → A q)
    (kk : ∀ (H : Heap) (locs : List Loc) (ls : Array Slot), va_P (dC, dI) vwCl (wM ad cL cZ cI (mu_st S (zI (m_st S) 4)) ro hd) H → va_D A (wM ad cL cZ cI (mu_st S (zI (m_st S) 4)) ro hd) → va_S A H0 H locs → lv_has ls 2 [(1, .int (nI 4)), (0, .ref (ad 0))] → W p l e (headSpec wsX1_reboot ({ frames := 0, cells := 0, slots := 0, locals := 0 })).room s m args below meth c H locs 0 0 Q (F0 m 40 ls [])) :
    ∀ (n i : Nat) (H : Heap) (locs : List Loc) (ls : Array Slot), i ≤ 4 → 4 < i + n → va_P (dC, dI) vwCl (wM ad cL cZ cI (mu_st S (zI (m_st S) i)) ro hd) H → va_D A (wM ad cL cZ cI (mu_st S (zI (m_st S) i)) ro hd) → va_S A H0 H locs → lv_has ls 2 [(1, .int (nI i)), (0, .ref (ad 0))] → W p l e (headSpec wsX1_reboot ({ frames := 0, cells := 0, slots := 0, locals := 0 })).room s m args below meth c H locs 0 0 Q (F0 m 22 ls []) := by
  have hin : ∀ w ∈ wsX10, w ∈ wsX1_reboot := fun _ h => List.mem_cons_of_mem _ (List.mem_append_right _ h)
  intro n
  induction n with
  | zero =>
    intro i H locs ls hi hn9
    omega
  | succ n ih =>
    intro i H locs ls hi hn9 hP hD hS hl
    refine lv_iload_n hx hb dX1_reboot_22 rfl (lv_at hl 0 rfl) ?_
    refine lv_iconst (v := 4) hx hb dX1_reboot_23 (by decide) ?_
    refine lv_icmp_ge (tgt := 40) hx hb dX1_reboot_24 (by decide) (fun c24 => ?_) (fun c24 => ?_)
    · skip
      have hi8 := xge (n := 4) (by decide) hi c24
      subst hi8
      exact kk H locs ls hP hD hS (lv_sub hl [0, 1] rfl)
    · skip
      have hlt := xlt (n := 4) (by decide) hi c24
      refine lv_aload_n hx hb dX1_reboot_27 rfl (lv_at hl 1 rfl) ?_
      refine g_m_ast hx hb hts hin hown hK hP (hts (.fieldLink RX1 27 RX1 "sessionThere" "[Z") (by decide +kernel)) dX1_reboot_28 ?_
      refine lv_iload_n hx hb dX1_reboot_31 rfl (lv_at hl 0 rfl) ?_
      refine lv_iconst (v := 0) hx hb dX1_reboot_32 (by decide) ?_
      refine s_m_st hx hb hK hP hD hS rfl (xat_nI hlt (by decide)) dX1_reboot_33 (fun H locs hP hD hS => ?_)
      refine lv_iinc (v := (nI (i + 1))) (lv' := [(1, .int (nI (i + 1))), (0, .ref (ad 0))]) hx hb dX1_reboot_34 hl (k := 0) rfl (nI_1 i) (by decide) rfl (fun ls hl => ?_)
      refine lv_goto (tgt := 22) hx hb dX1_reboot_37 (by decide) ?_
      exact ih (i + 1) _ _ ls (by omega) (by omega) hP hD hS (lv_sub hl [0, 1] rfl)
set_option maxHeartbeats 4000000 in
set_option maxRecDepth 100000 in
theorem c_X1_reboot (l : Launch) (dC : Nat → ClassId) (dI : Nat → Nat → Nat) (ad : Nat → Nat) (cL cZ cI : ClassId) (S : SM) (ro hd : Nat → Int64) (sz : Nat)   : Met l yX1_reboot wsX1_reboot ({ frames := 0, cells := 0, slots := 0, locals := 0 }) (va_Pc [.ref (ad 0)] (fun U => U.heap.size = sz ∧ va_P (dC, dI) vwCl (wM ad cL cZ cI S ro hd) U.heap ∧ va_K (dC, dI) vwCl (tyM cL cZ cI) U ∧ va_D (fun _ => True) (wM ad cL cZ cI S ro hd))) (va_Qv (fun (u : SMr) => u.1 = M_reboot S) (xB (dC, dI) (wMr ad cL cZ cI) (tyM cL cZ cI) (va_A (wM ad cL cZ cI S ro hd) sz)) (va_A (wM ad cL cZ cI S ro hd) sz)) 0 0 (va_A (wM ad cL cZ cI S ro hd) sz) := by
  refine Met.ofW (cc := cX1_reboot) (maxL := 2) (ret := none) (by decide) rfl ?_
  intro p e s m args below meth c s₁ B hml hv
  obtain ⟨rfl, hsz, hP, hK, hD0⟩ := hv
  have hx := B.exec
  have hb := B.bytes
  have hr := B.returns
  have hts := atoms_spec (ws := wsX1_reboot) B.pre
  have hown : s.vm.findClass RX1 = some m.cls := findClass_of_methodNamed B.named
  have hlocks := B.notSynchronized
  have hin : ∀ w ∈ wsX10, w ∈ wsX1_reboot := fun _ h => List.mem_cons_of_mem _ (List.mem_append_right _ h)
  subst hsz
  have hD := hD0.self (sz := s.heap.size)
  generalize hAe : va_A (wM ad cL cZ cI S ro hd) s.heap.size = A at hD ⊢
  have hA : ∀ q : Nat, s.heap.size ≤ q → A q := fun q h => by rw [← hAe]; exact Or.inr h
  have hS : va_S A s.heap s.heap [] := va_S.rf
  have hl := lv_entry ([.ref (ad 0)]) (n := 2) (Nat.le_of_ble_eq_true rfl)
  rw [lg_entry_eq]
  generalize (lg_sl ([.ref (ad 0)]) ++ List.replicate (2 - (lg_sl ([.ref (ad 0)])).length) Slot.unset).toArray = ls at hl ⊢
  have hl : lv_has ls 2 [(0, .ref (ad 0))] := hl
  refine lv_aload_n hx hb dX1_reboot_0 rfl (lv_at hl 0 rfl) ?_
  refine lv_iconst (v := 0) hx hb dX1_reboot_1 (by decide) ?_
  refine p_m_dn hx hb hts hin hown hK hP hD hS (hts (.fieldLink RX1 63 RX1 "done" "I") (by decide +kernel)) dX1_reboot_2 (fun H locs hP hD hS => ?_)
  refine lv_aload_n hx hb dX1_reboot_5 rfl (lv_at hl 0 rfl) ?_
  refine lv_iconst (v := 0) hx hb dX1_reboot_6 (by decide) ?_
  refine p_m_lo hx hb hts hin hown hK hP hD hS (hts (.fieldLink RX1 74 RX1 "locality" "I") (by decide +kernel)) dX1_reboot_7 (fun H locs hP hD hS => ?_)
  refine lv_aload_n hx hb dX1_reboot_10 rfl (lv_at hl 0 rfl) ?_
  refine lv_iconst (v := 0) hx hb dX1_reboot_11 (by decide) ?_
  refine p_m_fa hx hb hts hin hown hK hP hD hS (hts (.fieldLink RX1 120 RX1 "failures" "I") (by decide +kernel)) dX1_reboot_12 (fun H locs hP hD hS => ?_)
  refine lv_aload_n hx hb dX1_reboot_15 rfl (lv_at hl 0 rfl) ?_
  refine lv_lconst (v := 0) hx hb dX1_reboot_16 (by decide) ?_
  refine p_m_ou hx hb hts hin hown hK hP hD hS (hts (.fieldLink RX1 123 RX1 "output" "J") (by decide +kernel)) dX1_reboot_17 (fun H locs hP hD hS => ?_)
  have hP : va_P (dC, dI) vwCl (wM ad cL cZ cI (M_reboot0 S) ro hd) H := hP
  have hD : va_D A (wM ad cL cZ cI (M_reboot0 S) ro hd) := hD
  refine lv_iconst (v := 0) hx hb dX1_reboot_20 (by decide) ?_
  refine lv_istore_n (lv' := [(1, .int (0 : Int32)), (0, .ref (ad 0))]) hx hb dX1_reboot_21 rfl hl (by decide) rfl (fun ls hl => ?_)
  refine lp_X1_reboot_22 (S := (M_reboot0 S)) (ro := ro) (hd := hd)  hx hb hml hown hts hK hA (fun H locs ls hP hD hS hl => ?_) (4 + 1) 0 _ _ ls (Nat.zero_le _) (by omega) hP hD hS (lv_sub hl [0, 1] rfl)
  exact W.vret hx hb hr (fun t ht hW => ⟨⟨((mu_st (M_reboot0 S) (zI (m_st (M_reboot0 S)) 4)), ro, hd), rfl, rfl, by rw [ht]; exact hP, va_K.moved hW.alike hK, hD⟩, hS.F ht⟩) hS.2.2 dX1_reboot_40
set_option maxHeartbeats 4000000 in
set_option maxRecDepth 100000 in
theorem c_X1_quote (l : Launch) (dC : Nat → ClassId) (dI : Nat → Nat → Nat) (ad : Nat → Nat) (cL cZ cI : ClassId) (S : SM) (ro hd : Nat → Int64) (sz : Nat) (q : Int32) (k : Int32) (mask : Int32) (ch : Int64) (hd9 : okD (m_dn S)) : Met l yX1_quote wsX1_quote ({ frames := 5, cells := 0, slots := 0, locals := 126 }) (va_Pc [.ref (ad 0), .int q, .int k, .int mask, .long ch] (fun U => U.heap.size = sz ∧ va_P (dC, dI) vwCl (wM ad cL cZ cI S ro hd) U.heap ∧ va_K (dC, dI) vwCl (tyM cL cZ cI) U ∧ va_D (fun _ => True) (wM ad cL cZ cI S ro hd))) (va_Qi (fun r (u : SMr) => r = (M_quote S q k mask ch).1 ∧ u.1 = (M_quote S q k mask ch).2) (xB (dC, dI) (wMr ad cL cZ cI) (tyM cL cZ cI) (va_A (wM ad cL cZ cI S ro hd) sz)) (va_A (wM ad cL cZ cI S ro hd) sz)) 0 0 (va_A (wM ad cL cZ cI S ro hd) sz) := by
  refine Met.ofW (cc := cX1_quote) (maxL := 10) (ret := (some .int)) (by decide) rfl ?_
  intro p e s m args below meth c s₁ B hml hv
  obtain ⟨rfl, hsz, hP, hK, hD0⟩ := hv
  have hx := B.exec
  have hb := B.bytes
  have hr := B.returns
  have hts := atoms_spec (ws := wsX1_quote) B.pre
  have hown : s.vm.findClass RX1 = some m.cls := findClass_of_methodNamed B.named
  have hlocks := B.notSynchronized
  have hin : ∀ w ∈ wsX10, w ∈ wsX1_quote := fun _ h => List.mem_cons_of_mem _ (List.mem_append_right _ h)
  subst hsz
  have hD := hD0.self (sz := s.heap.size)
  generalize hAe : va_A (wM ad cL cZ cI S ro hd) s.heap.size = A at hD ⊢
  have hA : ∀ q : Nat, s.heap.size ≤ q → A q := fun q h => by rw [← hAe]; exact Or.inr h
  have hS : va_S A s.heap s.heap [] := va_S.rf
  have hl := lv_entry ([.ref (ad 0), .int q, .int k, .int mask, .long ch]) (n := 10) (Nat.le_of_ble_eq_true rfl)
  rw [lg_entry_eq]
  generalize (lg_sl ([.ref (ad 0), .int q, .int k, .int mask, .long ch]) ++ List.replicate (10 - (lg_sl ([.ref (ad 0), .int q, .int k, .int mask, .long ch])).length) Slot.unset).toArray = ls at hl ⊢
  have hl : lv_has ls 10 [(0, .ref (ad 0)), (1, .int q), (2, .int k), (3, .int mask), (4, .long ch)] := hl
  refine lv_aload_n hx hb dX1_quote_0 rfl (lv_at hl 0 rfl) ?_
  refine lv_iload_n hx hb dX1_quote_1 rfl (lv_at hl 1 rfl) ?_
  refine vp_callSi (va_Run.run (va_runV (As := [.int q]) (rest := []) ⟨hx, hb, hml, hown, hts⟩ (c_X1_hasSession l dC dI ad cL cZ cI S ro hd q ) (cwV 1 hts gX1_quote_X1_hasSession rfl rfl rfl (by decide +kernel) ⟨Nat.le_of_ble_eq_true rfl, Nat.le_of_ble_eq_true rfl⟩) (xpV_r [.int q] hK hP (va_recv hK hP (ci := 1) (q0 := 0) rfl rfl)) rfl rfl hl.1 rfl (lv_room (Nat.le_of_ble_eq_true rfl)) dX1_quote_2 ⟨Nat.le_of_ble_eq_true rfl, Nat.le_of_ble_eq_true rfl⟩)) (fun r hr9 => ?_)
  subst hr9
  refine lv_if_eq (tgt := 24) hx hb dX1_quote_5 (by decide) (fun c5 => ?_) (fun c5 => ?_)
  · skip
    refine lv_iconst (v := -1) hx hb dX1_quote_24 (by decide) ?_
    exact W.iret (v := (-1 : Int32)) hx hb hr (fun t ht hW => ⟨⟨_, (S, ro, hd), rfl, ⟨(by unfold M_quote M_quoteP; simp only [if_pos c5] <;> rfl), (by unfold M_quote M_quoteP; simp only [if_pos c5] <;> rfl)⟩, by rw [ht]; exact hP, va_K.moved hW.alike hK, hD⟩, hS.F ht⟩) hS.2.2 dX1_quote_25
  · skip
    have hq := M_hasSession_in c5
    refine lv_aload_n hx hb dX1_quote_8 rfl (lv_at hl 0 rfl) ?_
    refine lv_iload_n hx hb dX1_quote_9 rfl (lv_at hl 2 rfl) ?_
    refine vp_callSi (va_Run.run (va_runV (As := [.int k]) (rest := []) ⟨hx, hb, hml, hown, hts⟩ (c_X1_hasKey l dC dI ad cL cZ cI S ro hd k ) (cwV 1 hts gX1_quote_X1_hasKey rfl rfl rfl (by decide +kernel) ⟨Nat.le_of_ble_eq_true rfl, Nat.le_of_ble_eq_true rfl⟩) (xpV_r [.int k] hK hP (va_recv hK hP (ci := 1) (q0 := 0) rfl rfl)) rfl rfl hl.1 rfl (lv_room (Nat.le_of_ble_eq_true rfl)) dX1_quote_10 ⟨Nat.le_of_ble_eq_true rfl, Nat.le_of_ble_eq_true rfl⟩)) (fun r hr9 => ?_)
    subst hr9
    refine lv_if_eq (tgt := 24) hx hb dX1_quote_13 (by decide) (fun c13 => ?_) (fun c13 => ?_)
    · skip
      refine lv_iconst (v := -1) hx hb dX1_quote_24 (by decide) ?_
      exact W.iret (v := (-1 : Int32)) hx hb hr (fun t ht hW => ⟨⟨_, (S, ro, hd), rfl, ⟨(by unfold M_quote M_quoteP; simp only [if_neg c5, if_pos c13] <;> rfl), (by unfold M_quote M_quoteP; simp only [if_neg c5, if_pos c13] <;> rfl)⟩, by rw [ht]; exact hP, va_K.moved hW.alike hK, hD⟩, hS.F ht⟩) hS.2.2 dX1_quote_25
    · skip
      have hk := M_hasKey_in c13
      refine lv_iload_n hx hb dX1_quote_16 rfl (lv_at hl 3 rfl) ?_
      refine lv_i2l hx hb dX1_quote_17 rfl ?_
      refine vp_callSi (va_Run.run (va_runS (As := [.long mask.toInt64]) (rest := []) ⟨hx, hb, hml, hown, hts⟩ (c_X1_isMask l mask.toInt64 ) (va_cwS 1 hts gX1_quote_X1_isMask rfl rfl rfl (by decide +kernel) ⟨Nat.le_of_ble_eq_true rfl, Nat.le_of_ble_eq_true rfl⟩) (xpS_n _) rfl rfl hl.1 rfl (lv_room (Nat.le_of_ble_eq_true rfl)) dX1_quote_18 ⟨Nat.le_of_ble_eq_true rfl, Nat.le_of_ble_eq_true rfl⟩)) (fun r hr9 => ?_)
      subst hr9
      refine lv_if_ne (tgt := 26) hx hb dX1_quote_21 (by decide) (fun c21 => ?_) (fun c21 => ?_)
      · skip
        refine lv_aload_n hx hb dX1_quote_26 rfl (lv_at hl 0 rfl) ?_
        refine g_m_fa hx hb hts hin hown hK hP (hts (.fieldLink RX1 120 RX1 "failures" "I") (by decide +kernel)) dX1_quote_27 ?_
        refine lv_iconst (v := 3) hx hb dX1_quote_30 (by decide) ?_
        refine lv_icmp_lt (tgt := 37) hx hb dX1_quote_31 (by decide) (fun c31 => ?_) (fun c31 => ?_)
        · skip
          refine lv_aload_n hx hb dX1_quote_37 rfl (lv_at hl 0 rfl) ?_
          refine lv_iload_n hx hb dX1_quote_38 rfl (lv_at hl 3 rfl) ?_
          refine lv_i2l hx hb dX1_quote_39 rfl ?_
          refine lv_lload hx hb dX1_quote_40 (lv_at hl 4 rfl) ?_
          refine xcall_l (va_runV (As := [.long mask.toInt64, .long ch]) (rest := []) ⟨hx, hb, hml, hown, hts⟩ (c_X1_two l dC dI ad cL cZ cI S ro hd s.heap.size mask.toInt64 ch ) (cwV 2 hts gX1_quote_X1_two rfl rfl rfl (by decide +kernel) ⟨Nat.le_of_ble_eq_true rfl, Nat.le_of_ble_eq_true rfl⟩) (xpV_w [.long mask.toInt64, .long ch] hK hP hD (va_recv hK hP (ci := 1) (q0 := 0) rfl rfl)) rfl rfl hl.1 rfl (lv_room (Nat.le_of_ble_eq_true rfl)) dX1_quote_42 ⟨Nat.le_of_ble_eq_true rfl, Nat.le_of_ble_eq_true rfl⟩) hD hS hA (fun r u H locs hw hP hD hS => ?_)
          obtain ⟨u1, rw1, hd1⟩ := u
          obtain ⟨rfl, hu1, hh1⟩ := hw
          change hd1 = hd at hh1
          change u1 = S at hu1
          change va_P _ vwCl (wM ad cL cZ cI u1 rw1 hd1) _ at hP
          change va_D _ (wM ad cL cZ cI u1 rw1 hd1) at hD
          rw [hu1, hh1] at hP hD
          refine lv_lstore (lv' := [(6, .long (h2 mask.toInt64 ch)), (0, .ref (ad 0)), (1, .int q), (2, .int k), (3, .int mask), (4, .long ch)]) hx hb dX1_quote_45 hl (by decide) rfl (fun ls hl => ?_)
          refine lv_aload_n hx hb dX1_quote_47 rfl (lv_at hl 1 rfl) ?_
          refine lv_iload_n hx hb dX1_quote_48 rfl (lv_at hl 2 rfl) ?_
          refine lv_iload_n hx hb dX1_quote_49 rfl (lv_at hl 3 rfl) ?_
          refine lv_iconst (v := 3) hx hb dX1_quote_50 (by decide) ?_
          refine lv_lload hx hb dX1_quote_51 (lv_at hl 0 rfl) ?_
          refine xcall_i (va_runV (As := [.int q, .int k, .int (3 : Int32), .long (h2 mask.toInt64 ch)]) (rest := []) ⟨hx, hb, hml, hown, hts⟩ (c_X1_proved l dC dI ad cL cZ cI S rw1 hd H.size q k (3 : Int32) (h2 mask.toInt64 ch) hq hk ) (cwV 4 hts gX1_quote_X1_proved rfl rfl rfl (by decide +kernel) ⟨Nat.le_of_ble_eq_true rfl, Nat.le_of_ble_eq_true rfl⟩) (xpV_w [.int q, .int k, .int (3 : Int32), .long (h2 mask.toInt64 ch)] hK hP hD (va_recv hK hP (ci := 1) (q0 := 0) rfl rfl)) rfl rfl hl.1 rfl (lv_room (Nat.le_of_ble_eq_true rfl)) dX1_quote_53 ⟨Nat.le_of_ble_eq_true rfl, Nat.le_of_ble_eq_true rfl⟩) hD hS hA (fun r u H locs hw hP hD hS => ?_)
          obtain ⟨u2, rw2, hd2⟩ := u
          obtain ⟨rfl, hu2⟩ := hw
          change u2 = (M_proved S q k (3 : Int32) (h2 mask.toInt64 ch)).2 at hu2
          change va_P _ vwCl (wM ad cL cZ cI u2 rw2 hd2) _ at hP
          change va_D _ (wM ad cL cZ cI u2 rw2 hd2) at hD
          rw [hu2] at hP hD
          refine lv_if_ne (tgt := 62) hx hb dX1_quote_56 (by decide) (fun c56 => ?_) (fun c56 => ?_)
          · skip
            refine lv_aload_n hx hb dX1_quote_62 rfl (lv_at hl 1 rfl) ?_
            refine lv_iload_n hx hb dX1_quote_63 rfl (lv_at hl 4 rfl) ?_
            refine xcall_l (va_runV (As := [.int mask]) (rest := []) ⟨hx, hb, hml, hown, hts⟩ (c_X1_digestOf l dC dI ad cL cZ cI ((M_proved S q k (3 : Int32) (h2 mask.toInt64 ch)).2) rw2 hd2 H.size mask (M_pass_D hd9) ) (cwV 1 hts gX1_quote_X1_digestOf rfl rfl rfl (by decide +kernel) ⟨Nat.le_of_ble_eq_true rfl, Nat.le_of_ble_eq_true rfl⟩) (xpV_w [.int mask] hK hP hD (va_recv hK hP (ci := 1) (q0 := 0) rfl rfl)) rfl rfl hl.1 rfl (lv_room (Nat.le_of_ble_eq_true rfl)) dX1_quote_64 ⟨Nat.le_of_ble_eq_true rfl, Nat.le_of_ble_eq_true rfl⟩) hD hS hA (fun r u H locs hw hP hD hS => ?_)
            obtain ⟨u3, rw3, hd3⟩ := u
            obtain ⟨rfl, hu3⟩ := hw
            change u3 = (M_proved S q k (3 : Int32) (h2 mask.toInt64 ch)).2 at hu3
            change va_P _ vwCl (wM ad cL cZ cI u3 rw3 hd3) _ at hP
            change va_D _ (wM ad cL cZ cI u3 rw3 hd3) at hD
            rw [hu3] at hP hD
            refine lv_lstore (lv' := [(8, .long (M_digestOf ((M_proved S q k (3 : Int32) (h2 mask.toInt64 ch)).2) mask)), (6, .long (h2 mask.toInt64 ch)), (0, .ref (ad 0)), (1, .int q), (2, .int k), (3, .int mask), (4, .long ch)]) hx hb dX1_quote_67 hl (by decide) rfl (fun ls hl => ?_)
            refine lv_aload_n hx hb dX1_quote_69 rfl (lv_at hl 2 rfl) ?_
            refine g_m_arw hx hb hts hin hown hK hP (hts (.fieldLink RX1 39 RX1 "row" "[J") (by decide +kernel)) dX1_quote_70 ?_
            refine lv_iconst (v := 1) hx hb dX1_quote_73 (by decide) ?_
            refine lv_iload_n hx hb dX1_quote_74 rfl (lv_at hl 5 rfl) ?_
            refine lv_i2l hx hb dX1_quote_75 rfl ?_
            refine s_m_rw hx hb hK hP hD hS (xat_nI (by decide) (by decide)) dX1_quote_76 (fun H locs hP hD hS => ?_)
            refine lv_aload_n hx hb dX1_quote_77 rfl (lv_at hl 2 rfl) ?_
            refine g_m_arw hx hb hts hin hown hK hP (hts (.fieldLink RX1 39 RX1 "row" "[J") (by decide +kernel)) dX1_quote_78 ?_
            refine lv_iconst (v := 2) hx hb dX1_quote_81 (by decide) ?_
            refine lv_lload hx hb dX1_quote_82 (lv_at hl 0 rfl) ?_
            refine s_m_rw hx hb hK hP hD hS (xat_nI (by decide) (by decide)) dX1_quote_84 (fun H locs hP hD hS => ?_)
            refine lv_aload_n hx hb dX1_quote_85 rfl (lv_at hl 2 rfl) ?_
            refine g_m_arw hx hb hts hin hown hK hP (hts (.fieldLink RX1 39 RX1 "row" "[J") (by decide +kernel)) dX1_quote_86 ?_
            refine lv_iconst (v := 3) hx hb dX1_quote_89 (by decide) ?_
            refine lv_lload hx hb dX1_quote_90 (lv_at hl 6 rfl) ?_
            refine s_m_rw hx hb hK hP hD hS (xat_nI (by decide) (by decide)) dX1_quote_92 (fun H locs hP hD hS => ?_)
            refine lv_aload_n hx hb dX1_quote_93 rfl (lv_at hl 2 rfl) ?_
            refine lv_aload_n hx hb dX1_quote_94 rfl (lv_at hl 2 rfl) ?_
            refine lv_aload_n hx hb dX1_quote_95 rfl (lv_at hl 2 rfl) ?_
            refine g_m_aks hx hb hts hin hown hK hP (hts (.fieldLink RX1 21 RX1 "keySecret" "[J") (by decide +kernel)) dX1_quote_96 ?_
            refine lv_iload_n hx hb dX1_quote_99 rfl (lv_at hl 4 rfl) ?_
            refine l_m_ks hx hb hK hP (xat_self hk) dX1_quote_100 ?_
            refine lv_iconst (v := 3) hx hb dX1_quote_101 (by decide) ?_
            refine xcall_l (va_runV (As := [.long (m_ks ((M_proved S q k (3 : Int32) (h2 mask.toInt64 ch)).2) k.toNatClampNeg), .int (3 : Int32)]) (rest := [.ref (ad 0)]) ⟨hx, hb, hml, hown, hts⟩ (c_X1_code l dC dI ad cL cZ cI ((M_proved S q k (3 : Int32) (h2 mask.toInt64 ch)).2) (vp_updL (vp_updL (vp_updL rw3 1 mask.toInt64) 2 (M_digestOf ((M_proved S q k (3 : Int32) (h2 mask.toInt64 ch)).2) mask)) 3 ch) hd3 H.size (m_ks ((M_proved S q k (3 : Int32) (h2 mask.toInt64 ch)).2) k.toNatClampNeg) 3 (by decide) ) (cwV 2 hts gX1_quote_X1_code rfl rfl rfl (by decide +kernel) ⟨Nat.le_of_ble_eq_true rfl, Nat.le_of_ble_eq_true rfl⟩) (xpV_w [.long (m_ks ((M_proved S q k (3 : Int32) (h2 mask.toInt64 ch)).2) k.toNatClampNeg), .int (3 : Int32)] hK hP hD (va_recv hK hP (ci := 1) (q0 := 0) rfl rfl)) rfl rfl hl.1 rfl (lv_room (Nat.le_of_ble_eq_true rfl)) dX1_quote_102 ⟨Nat.le_of_ble_eq_true rfl, Nat.le_of_ble_eq_true rfl⟩) hD hS hA (fun r u H locs hw hP hD hS => ?_)
            obtain ⟨u4, rw4, hd4⟩ := u
            obtain ⟨rfl, hu4⟩ := hw
            change u4 = (M_proved S q k (3 : Int32) (h2 mask.toInt64 ch)).2 at hu4
            change va_P _ vwCl (wM ad cL cZ cI u4 rw4 hd4) _ at hP
            change va_D _ (wM ad cL cZ cI u4 rw4 hd4) at hD
            rw [hu4] at hP hD
            rw [show (mE (m_ks ((M_proved S q k (3 : Int32) (h2 mask.toInt64 ch)).2) k.toNatClampNeg) (foN (nI (3 + 1)).toInt64 (vp_updL (vp_updL (vp_updL (vp_updL rw3 1 mask.toInt64) 2 (M_digestOf ((M_proved S q k (3 : Int32) (h2 mask.toInt64 ch)).2) mask)) 3 ch) 0 ((m_ks ((M_proved S q k (3 : Int32) (h2 mask.toInt64 ch)).2) k.toNatClampNeg) ^^^ 92)) (3 + 1))) = (M_signature ((M_proved S q k (3 : Int32) (h2 mask.toInt64 ch)).2) (m_ks ((M_proved S q k (3 : Int32) (h2 mask.toInt64 ch)).2) k.toNatClampNeg) mask ch) from congrArg (mE _) (foN4 _ _)]
            refine p_m_ou hx hb hts hin hown hK hP hD hS (hts (.fieldLink RX1 123 RX1 "output" "J") (by decide +kernel)) dX1_quote_105 (fun H locs hP hD hS => ?_)
            refine lv_iconst (v := 0) hx hb dX1_quote_108 (by decide) ?_
            exact W.iret (v := (0 : Int32)) hx hb hr (fun t ht hW => ⟨⟨_, ((mu_ou ((M_proved S q k (3 : Int32) (h2 mask.toInt64 ch)).2) (M_signature ((M_proved S q k (3 : Int32) (h2 mask.toInt64 ch)).2) (m_ks ((M_proved S q k (3 : Int32) (h2 mask.toInt64 ch)).2) k.toNatClampNeg) mask ch)), rw4, hd4), rfl, ⟨(by unfold M_quote M_quoteP; simp only [if_neg c5, if_neg c13, if_neg c21, if_pos c31, if_neg c56] <;> rfl), (by unfold M_quote M_quoteP; simp only [if_neg c5, if_neg c13, if_neg c21, if_pos c31, if_neg c56] <;> rfl)⟩, by rw [ht]; exact hP, va_K.moved hW.alike hK, hD⟩, hS.F ht⟩) hS.2.2 dX1_quote_109
          · skip
            refine lv_bipush (v := -6) hx hb dX1_quote_59 (by decide) ?_
            exact W.iret (v := (-6 : Int32)) hx hb hr (fun t ht hW => ⟨⟨_, ((M_proved S q k (3 : Int32) (h2 mask.toInt64 ch)).2, rw2, hd2), rfl, ⟨(by unfold M_quote M_quoteP; simp only [if_neg c5, if_neg c13, if_neg c21, if_pos c31, if_pos c56] <;> rfl), (by unfold M_quote M_quoteP; simp only [if_neg c5, if_neg c13, if_neg c21, if_pos c31, if_pos c56] <;> rfl)⟩, by rw [ht]; exact hP, va_K.moved hW.alike hK, hD⟩, hS.F ht⟩) hS.2.2 dX1_quote_61
        · skip
          refine lv_bipush (v := -2) hx hb dX1_quote_34 (by decide) ?_
          exact W.iret (v := (-2 : Int32)) hx hb hr (fun t ht hW => ⟨⟨_, (S, ro, hd), rfl, ⟨(by unfold M_quote M_quoteP; simp only [if_neg c5, if_neg c13, if_neg c21, if_neg c31] <;> rfl), (by unfold M_quote M_quoteP; simp only [if_neg c5, if_neg c13, if_neg c21, if_neg c31] <;> rfl)⟩, by rw [ht]; exact hP, va_K.moved hW.alike hK, hD⟩, hS.F ht⟩) hS.2.2 dX1_quote_36
      · skip
        refine lv_iconst (v := -1) hx hb dX1_quote_24 (by decide) ?_
        exact W.iret (v := (-1 : Int32)) hx hb hr (fun t ht hW => ⟨⟨_, (S, ro, hd), rfl, ⟨(by unfold M_quote M_quoteP; simp only [if_neg c5, if_neg c13, if_pos c21] <;> rfl), (by unfold M_quote M_quoteP; simp only [if_neg c5, if_neg c13, if_pos c21] <;> rfl)⟩, by rw [ht]; exact hP, va_K.moved hW.alike hK, hD⟩, hS.F ht⟩) hS.2.2 dX1_quote_25
