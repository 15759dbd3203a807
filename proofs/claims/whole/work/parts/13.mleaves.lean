set_option maxHeartbeats 4000000 in
set_option maxRecDepth 100000 in
theorem lp_X1_hash_6 {p : Program} {l : Launch} {e : Env} {s : State} {m : MethodId} {args : Array Value} {below : List Frame} {meth : Method} {c : Code} {Q : State → Prop} {dC : Nat → ClassId} {dI : Nat → Nat → Nat} {ad : Nat → Nat} {cL cZ cI : ClassId} {S : SM} {ro hd : Nat → Int64} {H : Heap} {locs : List Loc} (k : Nat) (hk : k ≤ 9) (hx : p.tables.exec = Jvm.exec) (hb : c.code = cX1_hash) (hml : c.maxLocals = 7) (hown : s.vm.findClass RX1 = some m.cls) (hts : ∀ w ∈ wsX1_hash, w.before args s = true) (hK : va_K (dC, dI) vwCl (tyM cL cZ cI) s) (hP : va_P (dC, dI) vwCl (wM ad cL cZ cI S ro hd) H)
    (kk : ∀ (ls : Array Slot), lv_has ls 7 [(4, .int (nI k)), (2, .long (foN (nI k).toInt64 ro k)), (0, .ref (ad 0)), (1, .int (nI k))] → W p l e (headSpec wsX1_hash ({ frames := 0, cells := 0, slots := 0, locals := 0 })).room s m args below meth c H locs 0 0 Q (F0 m 42 ls [])) :
    ∀ (n i : Nat) (ls : Array Slot), i ≤ k → k < i + n → lv_has ls 7 [(4, .int (nI i)), (2, .long (foN (nI k).toInt64 ro i)), (0, .ref (ad 0)), (1, .int (nI k))] → W p l e (headSpec wsX1_hash ({ frames := 0, cells := 0, slots := 0, locals := 0 })).room s m args below meth c H locs 0 0 Q (F0 m 6 ls []) := by
  have hin : ∀ w ∈ wsX10, w ∈ wsX1_hash := fun _ h => List.mem_cons_of_mem _ (List.mem_append_right _ h)
  intro n
  induction n with
  | zero =>
    intro i  ls hi hn9
    omega
  | succ n ih =>
    intro i  ls hi hn9 hl
    refine lv_iload hx hb dX1_hash_6 (lv_at hl 0 rfl) ?_
    refine lv_iload_n hx hb dX1_hash_8 rfl (lv_at hl 3 rfl) ?_
    refine lv_icmp_ge (tgt := 42) hx hb dX1_hash_9 (by decide) (fun c9 => ?_) (fun c9 => ?_)
    · skip
      have hi8 := xge (n := k) (Nat.lt_of_le_of_lt hk (by decide)) hi c9
      subst hi8
      exact kk  ls (lv_sub hl [0, 1, 2, 3] rfl)
    · skip
      have hlt := xlt (n := k) (Nat.lt_of_le_of_lt hk (by decide)) hi c9
      refine lv_lload_n hx hb dX1_hash_12 rfl (lv_at hl 1 rfl) ?_
      refine lv_aload_n hx hb dX1_hash_13 rfl (lv_at hl 2 rfl) ?_
      refine g_m_arw hx hb hts hin hown hK hP (hts (.fieldLink RX1 39 RX1 "row" "[J") (by decide +kernel)) dX1_hash_14 ?_
      refine lv_iload hx hb dX1_hash_17 (lv_at hl 0 rfl) ?_
      refine l_m_rw hx hb hK hP (xat_nI (Nat.lt_of_lt_of_le hlt hk) (by decide)) dX1_hash_19 ?_
      refine lv_lxor hx hb dX1_hash_20 ?_
      refine lv_ldc2 (v := 3141592653589793239) hx hb hown (hts (.constantLong RX1 53 (3141592653589793239)) (by decide +kernel)) dX1_hash_21 ?_
      refine lv_lmul hx hb dX1_hash_24 ?_
      refine lv_lstore (lv' := [(5, .long (((foN (nI k).toInt64 ro i) ^^^ (ro i)) * (3141592653589793239 : Int64))), (4, .int (nI i)), (2, .long (foN (nI k).toInt64 ro i)), (0, .ref (ad 0)), (1, .int (nI k))]) hx hb dX1_hash_25 hl (by decide) rfl (fun ls hl => ?_)
      refine lv_lload hx hb dX1_hash_27 (lv_at hl 0 rfl) ?_
      refine lv_lload hx hb dX1_hash_29 (lv_at hl 0 rfl) ?_
      refine lv_bipush (v := 29) hx hb dX1_hash_31 (by decide) ?_
      refine lv_lushr hx hb dX1_hash_33 rfl ?_
      refine lv_lxor hx hb dX1_hash_34 ?_
      refine lv_lstore_n (lv' := [(2, .long (foN (nI k).toInt64 ro (i + 1))), (5, .long (((foN (nI k).toInt64 ro i) ^^^ (ro i)) * (3141592653589793239 : Int64))), (4, .int (nI i)), (0, .ref (ad 0)), (1, .int (nI k))]) hx hb dX1_hash_35 rfl hl (by decide) rfl (fun ls hl => ?_)
      refine lv_iinc (v := (nI (i + 1))) (lv' := [(4, .int (nI (i + 1))), (2, .long (foN (nI k).toInt64 ro (i + 1))), (5, .long (((foN (nI k).toInt64 ro i) ^^^ (ro i)) * (3141592653589793239 : Int64))), (0, .ref (ad 0)), (1, .int (nI k))]) hx hb dX1_hash_36 hl (k := 2) rfl (nI_1 i) (by decide) rfl (fun ls hl => ?_)
      refine lv_goto (tgt := 6) hx hb dX1_hash_39 (by decide) ?_
      exact ih (i + 1) ls (by omega) (by omega) (lv_sub hl [0, 1, 3, 4] rfl)
set_option maxHeartbeats 4000000 in
set_option maxRecDepth 100000 in
theorem c_X1_hash (l : Launch) (dC : Nat → ClassId) (dI : Nat → Nat → Nat) (ad : Nat → Nat) (cL cZ cI : ClassId) (S : SM) (ro hd : Nat → Int64) (k : Nat) (hk : k ≤ 9) : Met l yX1_hash wsX1_hash ({ frames := 0, cells := 0, slots := 0, locals := 0 }) (va_Pc [.ref (ad 0), .int (nI k)] (fun U => va_P (dC, dI) vwCl (wM ad cL cZ cI S ro hd) U.heap ∧ va_K (dC, dI) vwCl (tyM cL cZ cI) U)) (vp_Sl (fun r => r = foN (nI k).toInt64 ro k)) 0 0 (fun _ => False) := by
  refine Met.ofW (cc := cX1_hash) (maxL := 7) (ret := (some .long)) (by decide) rfl ?_
  intro p e s m args below meth c s₁ B hml hv
  obtain ⟨rfl, hP, hK⟩ := hv
  have hx := B.exec
  have hb := B.bytes
  have hr := B.returns
  have hts := atoms_spec (ws := wsX1_hash) B.pre
  have hown : s.vm.findClass RX1 = some m.cls := findClass_of_methodNamed B.named
  have hlocks := B.notSynchronized
  have hin : ∀ w ∈ wsX10, w ∈ wsX1_hash := fun _ h => List.mem_cons_of_mem _ (List.mem_append_right _ h)
  have hl := lv_entry ([.ref (ad 0), .int (nI k)]) (n := 7) (Nat.le_of_ble_eq_true rfl)
  rw [lg_entry_eq]
  generalize (lg_sl ([.ref (ad 0), .int (nI k)]) ++ List.replicate (7 - (lg_sl ([.ref (ad 0), .int (nI k)])).length) Slot.unset).toArray = ls at hl ⊢
  have hl : lv_has ls 7 [(0, .ref (ad 0)), (1, .int (nI k))] := hl
  refine lv_iload_n hx hb dX1_hash_0 rfl (lv_at hl 1 rfl) ?_
  refine lv_i2l hx hb dX1_hash_1 rfl ?_
  refine lv_lstore_n (lv' := [(2, .long ((nI k).toInt64)), (0, .ref (ad 0)), (1, .int (nI k))]) hx hb dX1_hash_2 rfl hl (by decide) rfl (fun ls hl => ?_)
  refine lv_iconst (v := 0) hx hb dX1_hash_3 (by decide) ?_
  refine lv_istore (lv' := [(4, .int (0 : Int32)), (2, .long ((nI k).toInt64)), (0, .ref (ad 0)), (1, .int (nI k))]) hx hb dX1_hash_4 hl (by decide) rfl (fun ls hl => ?_)
  refine lp_X1_hash_6 (S := S) (ro := ro) (hd := hd) k hk hx hb hml hown hts hK hP (fun  ls hl => ?_) (k + 1) 0 ls (Nat.zero_le _) (by omega) (lv_sub hl [0, 1, 2, 3] rfl)
  refine lv_lload_n hx hb dX1_hash_42 rfl (lv_at hl 1 rfl) ?_
  exact W.lret (v := (foN (nI k).toInt64 ro k)) hx hb hr (fun t ht hW => ⟨_, rfl, rfl, ht⟩) (fun _ h => by cases h) dX1_hash_43
set_option maxHeartbeats 4000000 in
set_option maxRecDepth 100000 in
theorem c_X1_two (l : Launch) (dC : Nat → ClassId) (dI : Nat → Nat → Nat) (ad : Nat → Nat) (cL cZ cI : ClassId) (S : SM) (ro hd : Nat → Int64) (sz : Nat) (a b : Int64) : Met l yX1_two wsX1_two ({ frames := 1, cells := 0, slots := 0, locals := 26 }) (va_Pc [.ref (ad 0), .long a, .long b] (fun U => U.heap.size = sz ∧ va_P (dC, dI) vwCl (wM ad cL cZ cI S ro hd) U.heap ∧ va_K (dC, dI) vwCl (tyM cL cZ cI) U ∧ va_D (fun _ => True) (wM ad cL cZ cI S ro hd))) (va_Ql (fun r (u : SMr) => r = h2 a b ∧ u.1 = S ∧ u.2.2 = hd) (xB (dC, dI) (wMr ad cL cZ cI) (tyM cL cZ cI) (va_A (wM ad cL cZ cI S ro hd) sz)) (va_A (wM ad cL cZ cI S ro hd) sz)) 0 0 (va_A (wM ad cL cZ cI S ro hd) sz) := by
  refine Met.ofW (cc := cX1_two) (maxL := 5) (ret := (some .long)) (by decide) rfl ?_
  intro p e s m args below meth c s₁ B hml hv
  obtain ⟨rfl, hsz, hP, hK, hD0⟩ := hv
  have hx := B.exec
  have hb := B.bytes
  have hr := B.returns
  have hts := atoms_spec (ws := wsX1_two) B.pre
  have hown : s.vm.findClass RX1 = some m.cls := findClass_of_methodNamed B.named
  have hlocks := B.notSynchronized
  have hin : ∀ w ∈ wsX10, w ∈ wsX1_two := fun _ h => List.mem_cons_of_mem _ (List.mem_append_right _ h)
  subst hsz
  have hD := hD0.self (sz := s.heap.size)
  generalize hAe : va_A (wM ad cL cZ cI S ro hd) s.heap.size = A at hD ⊢
  have hA : ∀ q : Nat, s.heap.size ≤ q → A q := fun q h => by rw [← hAe]; exact Or.inr h
  have hS : va_S A s.heap s.heap [] := va_S.rf
  have hl := lv_entry ([.ref (ad 0), .long a, .long b]) (n := 5) (Nat.le_of_ble_eq_true rfl)
  rw [lg_entry_eq]
  generalize (lg_sl ([.ref (ad 0), .long a, .long b]) ++ List.replicate (5 - (lg_sl ([.ref (ad 0), .long a, .long b])).length) Slot.unset).toArray = ls at hl ⊢
  have hl : lv_has ls 5 [(0, .ref (ad 0)), (1, .long a), (3, .long b)] := hl
  refine lv_aload_n hx hb dX1_two_0 rfl (lv_at hl 0 rfl) ?_
  refine g_m_arw hx hb hts hin hown hK hP (hts (.fieldLink RX1 39 RX1 "row" "[J") (by decide +kernel)) dX1_two_1 ?_
  refine lv_iconst (v := 0) hx hb dX1_two_4 (by decide) ?_
  refine lv_lload_n hx hb dX1_two_5 rfl (lv_at hl 1 rfl) ?_
  refine s_m_rw hx hb hK hP hD hS (xat_nI (by decide) (by decide)) dX1_two_6 (fun H locs hP hD hS => ?_)
  refine lv_aload_n hx hb dX1_two_7 rfl (lv_at hl 0 rfl) ?_
  refine g_m_arw hx hb hts hin hown hK hP (hts (.fieldLink RX1 39 RX1 "row" "[J") (by decide +kernel)) dX1_two_8 ?_
  refine lv_iconst (v := 1) hx hb dX1_two_11 (by decide) ?_
  refine lv_lload_n hx hb dX1_two_12 rfl (lv_at hl 2 rfl) ?_
  refine s_m_rw hx hb hK hP hD hS (xat_nI (by decide) (by decide)) dX1_two_13 (fun H locs hP hD hS => ?_)
  refine lv_aload_n hx hb dX1_two_14 rfl (lv_at hl 0 rfl) ?_
  refine lv_iconst (v := 2) hx hb dX1_two_15 (by decide) ?_
  refine vp_callSl (va_Run.run (va_runV (As := [.int (2 : Int32)]) (rest := []) ⟨hx, hb, hml, hown, hts⟩ (c_X1_hash l dC dI ad cL cZ cI S (vp_updL (vp_updL ro 0 a) 1 b) hd 2 (by decide) ) (cwV 1 hts gX1_two_X1_hash rfl rfl rfl (by decide +kernel) ⟨Nat.le_of_ble_eq_true rfl, Nat.le_of_ble_eq_true rfl⟩) (xpV_r [.int (2 : Int32)] hK hP (va_recv hK hP (ci := 1) (q0 := 0) rfl rfl)) rfl rfl hl.1 rfl (lv_room (Nat.le_of_ble_eq_true rfl)) dX1_two_16 ⟨Nat.le_of_ble_eq_true rfl, Nat.le_of_ble_eq_true rfl⟩)) (fun r hr9 => ?_)
  subst hr9
  exact W.lret (v := (foN (nI 2).toInt64 (vp_updL (vp_updL ro 0 a) 1 b) 2)) hx hb hr (fun t ht hW => ⟨⟨_, (S, (vp_updL (vp_updL ro 0 a) 1 b), hd), rfl, ⟨(foN2 _), rfl, rfl⟩, by rw [ht]; exact hP, va_K.moved hW.alike hK, hD⟩, hS.F ht⟩) hS.2.2 dX1_two_19
set_option maxHeartbeats 4000000 in
set_option maxRecDepth 100000 in
theorem c_X1_code (l : Launch) (dC : Nat → ClassId) (dI : Nat → Nat → Nat) (ad : Nat → Nat) (cL cZ cI : ClassId) (S : SM) (ro hd : Nat → Int64) (sz : Nat) (se : Int64) (k : Nat) (hk : k ≤ 5) : Met l yX1_code wsX1_code ({ frames := 1, cells := 0, slots := 0, locals := 26 }) (va_Pc [.ref (ad 0), .long se, .int (nI k)] (fun U => U.heap.size = sz ∧ va_P (dC, dI) vwCl (wM ad cL cZ cI S ro hd) U.heap ∧ va_K (dC, dI) vwCl (tyM cL cZ cI) U ∧ va_D (fun _ => True) (wM ad cL cZ cI S ro hd))) (va_Ql (fun r (u : SMr) => r = mE se (foN (nI (k + 1)).toInt64 (vp_updL ro 0 (se ^^^ 92)) (k + 1)) ∧ u.1 = S) (xB (dC, dI) (wMr ad cL cZ cI) (tyM cL cZ cI) (va_A (wM ad cL cZ cI S ro hd) sz)) (va_A (wM ad cL cZ cI S ro hd) sz)) 0 0 (va_A (wM ad cL cZ cI S ro hd) sz) := by
  refine Met.ofW (cc := cX1_code) (maxL := 6) (ret := (some .long)) (by decide) rfl ?_
  intro p e s m args below meth c s₁ B hml hv
  obtain ⟨rfl, hsz, hP, hK, hD0⟩ := hv
  have hx := B.exec
  have hb := B.bytes
  have hr := B.returns
  have hts := atoms_spec (ws := wsX1_code) B.pre
  have hown : s.vm.findClass RX1 = some m.cls := findClass_of_methodNamed B.named
  have hlocks := B.notSynchronized
  have hin : ∀ w ∈ wsX10, w ∈ wsX1_code := fun _ h => List.mem_cons_of_mem _ (List.mem_append_right _ h)
  subst hsz
  have hD := hD0.self (sz := s.heap.size)
  generalize hAe : va_A (wM ad cL cZ cI S ro hd) s.heap.size = A at hD ⊢
  have hA : ∀ q : Nat, s.heap.size ≤ q → A q := fun q h => by rw [← hAe]; exact Or.inr h
  have hS : va_S A s.heap s.heap [] := va_S.rf
  have hl := lv_entry ([.ref (ad 0), .long se, .int (nI k)]) (n := 6) (Nat.le_of_ble_eq_true rfl)
  rw [lg_entry_eq]
  generalize (lg_sl ([.ref (ad 0), .long se, .int (nI k)]) ++ List.replicate (6 - (lg_sl ([.ref (ad 0), .long se, .int (nI k)])).length) Slot.unset).toArray = ls at hl ⊢
  have hl : lv_has ls 6 [(0, .ref (ad 0)), (1, .long se), (3, .int (nI k))] := hl
  refine lv_aload_n hx hb dX1_code_0 rfl (lv_at hl 0 rfl) ?_
  refine g_m_arw hx hb hts hin hown hK hP (hts (.fieldLink RX1 39 RX1 "row" "[J") (by decide +kernel)) dX1_code_1 ?_
  refine lv_iconst (v := 0) hx hb dX1_code_4 (by decide) ?_
  refine lv_lload_n hx hb dX1_code_5 rfl (lv_at hl 1 rfl) ?_
  refine lv_ldc2 (v := 92) hx hb hown (hts (.constantLong RX1 55 (92)) (by decide +kernel)) dX1_code_6 ?_
  refine lv_lxor hx hb dX1_code_9 ?_
  refine s_m_rw hx hb hK hP hD hS (xat_nI (by decide) (by decide)) dX1_code_10 (fun H locs hP hD hS => ?_)
  refine lv_aload_n hx hb dX1_code_11 rfl (lv_at hl 0 rfl) ?_
  refine lv_iload_n hx hb dX1_code_12 rfl (lv_at hl 2 rfl) ?_
  refine lv_iconst (v := 1) hx hb dX1_code_13 (by decide) ?_
  refine lv_iadd hx hb dX1_code_14 ?_
  rw [show nI k + (1 : Int32) = nI (k + 1) from nI_1 k]
  refine vp_callSl (va_Run.run (va_runV (As := [.int (nI (k + 1))]) (rest := []) ⟨hx, hb, hml, hown, hts⟩ (c_X1_hash l dC dI ad cL cZ cI S (vp_updL ro 0 (se ^^^ (92 : Int64))) hd (k + 1) (by omega) ) (cwV 1 hts gX1_code_X1_hash rfl rfl rfl (by decide +kernel) ⟨Nat.le_of_ble_eq_true rfl, Nat.le_of_ble_eq_true rfl⟩) (xpV_r [.int (nI (k + 1))] hK hP (va_recv hK hP (ci := 1) (q0 := 0) rfl rfl)) rfl rfl hl.1 rfl (lv_room (Nat.le_of_ble_eq_true rfl)) dX1_code_15 ⟨Nat.le_of_ble_eq_true rfl, Nat.le_of_ble_eq_true rfl⟩)) (fun r hr9 => ?_)
  subst hr9
  refine lv_lstore (lv' := [(4, .long (foN (nI (k + 1)).toInt64 (vp_updL ro 0 (se ^^^ (92 : Int64))) (k + 1))), (0, .ref (ad 0)), (1, .long se), (3, .int (nI k))]) hx hb dX1_code_18 hl (by decide) rfl (fun ls hl => ?_)
  refine lv_aload_n hx hb dX1_code_20 rfl (lv_at hl 1 rfl) ?_
  refine g_m_arw hx hb hts hin hown hK hP (hts (.fieldLink RX1 39 RX1 "row" "[J") (by decide +kernel)) dX1_code_21 ?_
  refine lv_iconst (v := 0) hx hb dX1_code_24 (by decide) ?_
  refine lv_lload_n hx hb dX1_code_25 rfl (lv_at hl 2 rfl) ?_
  refine lv_ldc2 (v := 54) hx hb hown (hts (.constantLong RX1 57 (54)) (by decide +kernel)) dX1_code_26 ?_
  refine lv_lxor hx hb dX1_code_29 ?_
  refine s_m_rw hx hb hK hP hD hS (xat_nI (by decide) (by decide)) dX1_code_30 (fun H locs hP hD hS => ?_)
  refine lv_aload_n hx hb dX1_code_31 rfl (lv_at hl 1 rfl) ?_
  refine g_m_arw hx hb hts hin hown hK hP (hts (.fieldLink RX1 39 RX1 "row" "[J") (by decide +kernel)) dX1_code_32 ?_
  refine lv_iconst (v := 1) hx hb dX1_code_35 (by decide) ?_
  refine lv_lload hx hb dX1_code_36 (lv_at hl 0 rfl) ?_
  refine s_m_rw hx hb hK hP hD hS (xat_nI (by decide) (by decide)) dX1_code_38 (fun H locs hP hD hS => ?_)
  refine lv_aload_n hx hb dX1_code_39 rfl (lv_at hl 1 rfl) ?_
  refine lv_iconst (v := 2) hx hb dX1_code_40 (by decide) ?_
  refine vp_callSl (va_Run.run (va_runV (As := [.int (2 : Int32)]) (rest := []) ⟨hx, hb, hml, hown, hts⟩ (c_X1_hash l dC dI ad cL cZ cI S (vp_updL (vp_updL (vp_updL ro 0 (se ^^^ (92 : Int64))) 0 (se ^^^ (54 : Int64))) 1 (foN (nI (k + 1)).toInt64 (vp_updL ro 0 (se ^^^ (92 : Int64))) (k + 1))) hd 2 (by decide) ) (cwV 1 hts gX1_code_X1_hash rfl rfl rfl (by decide +kernel) ⟨Nat.le_of_ble_eq_true rfl, Nat.le_of_ble_eq_true rfl⟩) (xpV_r [.int (2 : Int32)] hK hP (va_recv hK hP (ci := 1) (q0 := 0) rfl rfl)) rfl rfl hl.1 rfl (lv_room (Nat.le_of_ble_eq_true rfl)) dX1_code_41 ⟨Nat.le_of_ble_eq_true rfl, Nat.le_of_ble_eq_true rfl⟩)) (fun r hr9 => ?_)
  subst hr9
  exact W.lret (v := (foN (nI 2).toInt64 (vp_updL (vp_updL (vp_updL ro 0 (se ^^^ (92 : Int64))) 0 (se ^^^ (54 : Int64))) 1 (foN (nI (k + 1)).toInt64 (vp_updL ro 0 (se ^^^ (92 : Int64))) (k + 1))) 2)) hx hb hr (fun t ht hW => ⟨⟨_, (S, (vp_updL (vp_updL (vp_updL ro 0 (se ^^^ (92 : Int64))) 0 (se ^^^ (54 : Int64))) 1 (foN (nI (k + 1)).toInt64 (vp_updL ro 0 (se ^^^ (92 : Int64))) (k + 1))), hd), rfl, ⟨(foN2 _), rfl⟩, by rw [ht]; exact hP, va_K.moved hW.alike hK, hD⟩, hS.F ht⟩) hS.2.2 dX1_code_44
set_option maxHeartbeats 4000000 in
set_option maxRecDepth 100000 in
theorem c_X1_word (l : Launch) (dC : Nat → ClassId) (dI : Nat → Nat → Nat) (ad : Nat → Nat) (cL cZ cI : ClassId) (S : SM) (ro hd : Nat → Int64) (sz : Nat) (d : Int64)  : Met l yX1_word wsX1_word ({ frames := 2, cells := 0, slots := 0, locals := 50 }) (va_Pc [.ref (ad 0), .long d] (fun U => U.heap.size = sz ∧ va_P (dC, dI) vwCl (wM ad cL cZ cI S ro hd) U.heap ∧ va_K (dC, dI) vwCl (tyM cL cZ cI) U ∧ va_D (fun _ => True) (wM ad cL cZ cI S ro hd))) (va_Ql (fun r (u : SMr) => r = M_word S d ∧ u.1 = S) (xB (dC, dI) (wMr ad cL cZ cI) (tyM cL cZ cI) (va_A (wM ad cL cZ cI S ro hd) sz)) (va_A (wM ad cL cZ cI S ro hd) sz)) 0 0 (va_A (wM ad cL cZ cI S ro hd) sz) := by
  refine Met.ofW (cc := cX1_word) (maxL := 3) (ret := (some .long)) (by decide) rfl ?_
  intro p e s m args below meth c s₁ B hml hv
  obtain ⟨rfl, hsz, hP, hK, hD0⟩ := hv
  have hx := B.exec
  have hb := B.bytes
  have hr := B.returns
  have hts := atoms_spec (ws := wsX1_word) B.pre
  have hown : s.vm.findClass RX1 = some m.cls := findClass_of_methodNamed B.named
  have hlocks := B.notSynchronized
  have hin : ∀ w ∈ wsX10, w ∈ wsX1_word := fun _ h => List.mem_cons_of_mem _ (List.mem_append_right _ h)
  subst hsz
  have hD := hD0.self (sz := s.heap.size)
  generalize hAe : va_A (wM ad cL cZ cI S ro hd) s.heap.size = A at hD ⊢
  have hA : ∀ q : Nat, s.heap.size ≤ q → A q := fun q h => by rw [← hAe]; exact Or.inr h
  have hS : va_S A s.heap s.heap [] := va_S.rf
  have hl := lv_entry ([.ref (ad 0), .long d]) (n := 3) (Nat.le_of_ble_eq_true rfl)
  rw [lg_entry_eq]
  generalize (lg_sl ([.ref (ad 0), .long d]) ++ List.replicate (3 - (lg_sl ([.ref (ad 0), .long d])).length) Slot.unset).toArray = ls at hl ⊢
  have hl : lv_has ls 3 [(0, .ref (ad 0)), (1, .long d)] := hl
  refine lv_aload_n hx hb dX1_word_0 rfl (lv_at hl 0 rfl) ?_
  refine lv_aload_n hx hb dX1_word_1 rfl (lv_at hl 0 rfl) ?_
  refine g_m_m hx hb hts hin hown hK hP (hts (.fieldLink RX1 49 RX1 "machine" "J") (by decide +kernel)) dX1_word_2 ?_
  refine lv_lload_n hx hb dX1_word_5 rfl (lv_at hl 1 rfl) ?_
  refine xcall_l (va_runV (As := [.long (m_m S), .long d]) (rest := []) ⟨hx, hb, hml, hown, hts⟩ (c_X1_two l dC dI ad cL cZ cI S ro hd s.heap.size (m_m S) d ) (cwV 2 hts gX1_word_X1_two rfl rfl rfl (by decide +kernel) ⟨Nat.le_of_ble_eq_true rfl, Nat.le_of_ble_eq_true rfl⟩) (xpV_w [.long (m_m S), .long d] hK hP hD (va_recv hK hP (ci := 1) (q0 := 0) rfl rfl)) rfl rfl hl.1 rfl (lv_room (Nat.le_of_ble_eq_true rfl)) dX1_word_6 ⟨Nat.le_of_ble_eq_true rfl, Nat.le_of_ble_eq_true rfl⟩) hD hS hA (fun r u H locs hw hP hD hS => ?_)
  obtain ⟨u1, rw1, hd1⟩ := u
  obtain ⟨rfl, hu1, hh1⟩ := hw
  change hd1 = hd at hh1
  change u1 = S at hu1
  change va_P _ vwCl (wM ad cL cZ cI u1 rw1 hd1) _ at hP
  change va_D _ (wM ad cL cZ cI u1 rw1 hd1) at hD
  rw [hu1, hh1] at hP hD
  exact W.lret (v := (h2 (m_m S) d)) hx hb hr (fun t ht hW => ⟨⟨_, (S, rw1, hd), rfl, ⟨rfl, rfl⟩, by rw [ht]; exact hP, va_K.moved hW.alike hK, hD⟩, hS.F ht⟩) hS.2.2 dX1_word_9
set_option maxHeartbeats 4000000 in
set_option maxRecDepth 100000 in
theorem lp_X1_folded_5 {p : Program} {l : Launch} {e : Env} {s : State} {m : MethodId} {args : Array Value} {below : List Frame} {meth : Method} {c : Code} {Q : State → Prop} {dC : Nat → ClassId} {dI : Nat → Nat → Nat} {ad : Nat → Nat} {cL cZ cI : ClassId} {S : SM} {ro hd : Nat → Int64} {A : Nat → Prop} {H0 : Heap} (q : Int32) (hd9 : okD (m_dn S)) (hx : p.tables.exec = Jvm.exec) (hb : c.code = cX1_folded) (hml : c.maxLocals = 5) (hown : s.vm.findClass RX1 = some m.cls) (hts : ∀ w ∈ wsX1_folded, w.before args s = true) (hK : va_K (dC, dI) vwCl (tyM cL cZ cI) s) (hA : ∀ q, H0.size ≤ q → A q)
    (kk : ∀ (H : Heap) (locs : List Loc) (ro : Nat → Int64) (ls : Array Slot), va_P (dC, dI) vwCl (wM ad cL cZ cI S ro hd) H → va_D A (wM ad cL cZ cI S ro hd) → va_S A H0 H locs → lv_has ls 5 [(4, .int (nI (m_dn S).toNatClampNeg)), (2, .long (fld (m_wh S) (m_wi S) q ((m_dn S).toNatClampNeg))), (0, .ref (ad 0)), (1, .int q)] → W p l e (headSpec wsX1_folded ({ frames := 2, cells := 0, slots := 0, locals := 50 })).room s m args below meth c H locs 0 0 Q (F0 m 60 ls [])) :
    ∀ (n i : Nat) (H : Heap) (locs : List Loc) (ro : Nat → Int64) (ls : Array Slot), i ≤ (m_dn S).toNatClampNeg → (m_dn S).toNatClampNeg < i + n → va_P (dC, dI) vwCl (wM ad cL cZ cI S ro hd) H → va_D A (wM ad cL cZ cI S ro hd) → va_S A H0 H locs → lv_has ls 5 [(4, .int (nI i)), (2, .long (fld (m_wh S) (m_wi S) q i)), (0, .ref (ad 0)), (1, .int q)] → W p l e (headSpec wsX1_folded ({ frames := 2, cells := 0, slots := 0, locals := 50 })).room s m args below meth c H locs 0 0 Q (F0 m 5 ls []) := by
  have hin : ∀ w ∈ wsX10, w ∈ wsX1_folded := fun _ h => List.mem_cons_of_mem _ (List.mem_append_right _ h)
  intro n
  induction n with
  | zero =>
    intro i H locs ro ls hi hn9
    omega
  | succ n ih =>
    intro i H locs ro ls hi hn9 hP hD hS hl
    refine lv_iload hx hb dX1_folded_5 (lv_at hl 0 rfl) ?_
    refine lv_aload_n hx hb dX1_folded_7 rfl (lv_at hl 2 rfl) ?_
    refine g_m_dn hx hb hts hin hown hK hP (hts (.fieldLink RX1 63 RX1 "done" "I") (by decide +kernel)) dX1_folded_8 ?_
    rw [show m_dn S = nI (m_dn S).toNatClampNeg from (okD_nI hd9).1]
    refine lv_icmp_ge (tgt := 60) hx hb dX1_folded_11 (by decide) (fun c11 => ?_) (fun c11 => ?_)
    · skip
      have hi8 := xge (n := (m_dn S).toNatClampNeg) (Nat.lt_of_le_of_lt (okD_nI hd9).2 (by decide)) hi c11
      subst hi8
      exact kk H locs ro ls hP hD hS (lv_sub hl [0, 1, 2, 3] rfl)
    · skip
      have hlt := xlt (n := (m_dn S).toNatClampNeg) (Nat.lt_of_le_of_lt (okD_nI hd9).2 (by decide)) hi c11
      refine lv_aload_n hx hb dX1_folded_14 rfl (lv_at hl 2 rfl) ?_
      refine g_m_awh hx hb hts hin hown hK hP (hts (.fieldLink RX1 7 RX1 "what" "[I") (by decide +kernel)) dX1_folded_15 ?_
      refine lv_iload hx hb dX1_folded_18 (lv_at hl 0 rfl) ?_
      refine l_m_wh hx hb hK hP (xat_nI (okD_in hd9 hlt) (by decide)) dX1_folded_20 ?_
      refine lv_iload_n hx hb dX1_folded_21 rfl (lv_at hl 3 rfl) ?_
      refine lv_icmp_ne (tgt := 38) hx hb dX1_folded_22 (by decide) (fun c22 => ?_) (fun c22 => ?_)
      · skip
        refine lv_aload_n hx hb dX1_folded_38 rfl (lv_at hl 2 rfl) ?_
        refine g_m_awh hx hb hts hin hown hK hP (hts (.fieldLink RX1 7 RX1 "what" "[I") (by decide +kernel)) dX1_folded_39 ?_
        refine lv_iload hx hb dX1_folded_42 (lv_at hl 0 rfl) ?_
        refine l_m_wh hx hb hK hP (xat_nI (okD_in hd9 hlt) (by decide)) dX1_folded_44 ?_
        refine lv_iload_n hx hb dX1_folded_45 rfl (lv_at hl 3 rfl) ?_
        refine lv_bipush (v := 8) hx hb dX1_folded_46 (by decide) ?_
        refine lv_iadd hx hb dX1_folded_48 ?_
        refine lv_icmp_ne (tgt := 54) hx hb dX1_folded_49 (by decide) (fun c49 => ?_) (fun c49 => ?_)
        · skip
          refine lv_iinc (v := (nI (i + 1))) (lv' := [(4, .int (nI (i + 1))), (2, .long (fld (m_wh S) (m_wi S) q i)), (0, .ref (ad 0)), (1, .int q)]) hx hb dX1_folded_54 hl (k := 0) rfl (nI_1 i) (by decide) rfl (fun ls hl => ?_)
          refine lv_goto (tgt := 5) hx hb dX1_folded_57 (by decide) ?_
          exact ih (i + 1) _ _ ro ls (by omega) (by omega) hP hD hS (by rw [show fld (m_wh S) (m_wi S) q (i + 1) = (fld (m_wh S) (m_wi S) q i) from (if_neg c49).trans (if_neg c22)]; exact lv_sub hl [0, 1, 2, 3] rfl)
        · skip
          refine lv_lconst (v := 0) hx hb dX1_folded_52 (by decide) ?_
          refine lv_lstore_n (lv' := [(2, .long (0 : Int64)), (4, .int (nI i)), (0, .ref (ad 0)), (1, .int q)]) hx hb dX1_folded_53 rfl hl (by decide) rfl (fun ls hl => ?_)
          refine lv_iinc (v := (nI (i + 1))) (lv' := [(4, .int (nI (i + 1))), (2, .long (0 : Int64)), (0, .ref (ad 0)), (1, .int q)]) hx hb dX1_folded_54 hl (k := 1) rfl (nI_1 i) (by decide) rfl (fun ls hl => ?_)
          refine lv_goto (tgt := 5) hx hb dX1_folded_57 (by decide) ?_
          exact ih (i + 1) _ _ ro ls (by omega) (by omega) hP hD hS (by rw [show fld (m_wh S) (m_wi S) q (i + 1) = 0 from if_pos c49]; exact lv_sub hl [0, 1, 2, 3] rfl)
      · skip
        refine lv_aload_n hx hb dX1_folded_25 rfl (lv_at hl 2 rfl) ?_
        refine lv_lload_n hx hb dX1_folded_26 rfl (lv_at hl 1 rfl) ?_
        refine lv_aload_n hx hb dX1_folded_27 rfl (lv_at hl 2 rfl) ?_
        refine g_m_awi hx hb hts hin hown hK hP (hts (.fieldLink RX1 13 RX1 "with" "[J") (by decide +kernel)) dX1_folded_28 ?_
        refine lv_iload hx hb dX1_folded_31 (lv_at hl 0 rfl) ?_
        refine l_m_wi hx hb hK hP (xat_nI (okD_in hd9 hlt) (by decide)) dX1_folded_33 ?_
        refine xcall_l (va_runV (As := [.long (fld (m_wh S) (m_wi S) q i), .long (m_wi S i)]) (rest := []) ⟨hx, hb, hml, hown, hts⟩ (c_X1_two l dC dI ad cL cZ cI S ro hd H.size (fld (m_wh S) (m_wi S) q i) (m_wi S i) ) (cwV 2 hts gX1_folded_X1_two rfl rfl rfl (by decide +kernel) ⟨Nat.le_of_ble_eq_true rfl, Nat.le_of_ble_eq_true rfl⟩) (xpV_w [.long (fld (m_wh S) (m_wi S) q i), .long (m_wi S i)] hK hP hD (va_recv hK hP (ci := 1) (q0 := 0) rfl rfl)) rfl rfl hl.1 rfl (lv_room (Nat.le_of_ble_eq_true rfl)) dX1_folded_34 ⟨Nat.le_of_ble_eq_true rfl, Nat.le_of_ble_eq_true rfl⟩) hD hS hA (fun r u H locs hw hP hD hS => ?_)
        obtain ⟨u1, rw1, hd1⟩ := u
        obtain ⟨rfl, hu1, hh1⟩ := hw
        change hd1 = hd at hh1
        change u1 = S at hu1
        change va_P _ vwCl (wM ad cL cZ cI u1 rw1 hd1) _ at hP
        change va_D _ (wM ad cL cZ cI u1 rw1 hd1) at hD
        rw [hu1, hh1] at hP hD
        refine lv_lstore_n (lv' := [(2, .long (h2 (fld (m_wh S) (m_wi S) q i) (m_wi S i))), (4, .int (nI i)), (0, .ref (ad 0)), (1, .int q)]) hx hb dX1_folded_37 rfl hl (by decide) rfl (fun ls hl => ?_)
        refine lv_aload_n hx hb dX1_folded_38 rfl (lv_at hl 2 rfl) ?_
        refine g_m_awh hx hb hts hin hown hK hP (hts (.fieldLink RX1 7 RX1 "what" "[I") (by decide +kernel)) dX1_folded_39 ?_
        refine lv_iload hx hb dX1_folded_42 (lv_at hl 1 rfl) ?_
        refine l_m_wh hx hb hK hP (xat_nI (okD_in hd9 hlt) (by decide)) dX1_folded_44 ?_
        refine lv_iload_n hx hb dX1_folded_45 rfl (lv_at hl 3 rfl) ?_
        refine lv_bipush (v := 8) hx hb dX1_folded_46 (by decide) ?_
        refine lv_iadd hx hb dX1_folded_48 ?_
        refine lv_icmp_ne (tgt := 54) hx hb dX1_folded_49 (by decide) (fun c49 => ?_) (fun c49 => ?_)
        · skip
          refine lv_iinc (v := (nI (i + 1))) (lv' := [(4, .int (nI (i + 1))), (2, .long (h2 (fld (m_wh S) (m_wi S) q i) (m_wi S i))), (0, .ref (ad 0)), (1, .int q)]) hx hb dX1_folded_54 hl (k := 1) rfl (nI_1 i) (by decide) rfl (fun ls hl => ?_)
          refine lv_goto (tgt := 5) hx hb dX1_folded_57 (by decide) ?_
          exact ih (i + 1) _ _ rw1 ls (by omega) (by omega) hP hD hS (by rw [show fld (m_wh S) (m_wi S) q (i + 1) = h2 (fld (m_wh S) (m_wi S) q i) (m_wi S i) from (if_neg c49).trans (if_pos c22)]; exact lv_sub hl [0, 1, 2, 3] rfl)
        · skip
          refine lv_lconst (v := 0) hx hb dX1_folded_52 (by decide) ?_
          refine lv_lstore_n (lv' := [(2, .long (0 : Int64)), (4, .int (nI i)), (0, .ref (ad 0)), (1, .int q)]) hx hb dX1_folded_53 rfl hl (by decide) rfl (fun ls hl => ?_)
          refine lv_iinc (v := (nI (i + 1))) (lv' := [(4, .int (nI (i + 1))), (2, .long (0 : Int64)), (0, .ref (ad 0)), (1, .int q)]) hx hb dX1_folded_54 hl (k := 1) rfl (nI_1 i) (by decide) rfl (fun ls hl => ?_)
          refine lv_goto (tgt := 5) hx hb dX1_folded_57 (by decide) ?_
          exact ih (i + 1) _ _ rw1 ls (by omega) (by omega) hP hD hS (by rw [show fld (m_wh S) (m_wi S) q (i + 1) = 0 from if_pos c49]; exact lv_sub hl [0, 1, 2, 3] rfl)
set_option maxHeartbeats 4000000 in
set_option maxRecDepth 100000 in
theorem c_X1_folded (l : Launch) (dC : Nat → ClassId) (dI : Nat → Nat → Nat) (ad : Nat → Nat) (cL cZ cI : ClassId) (S : SM) (ro hd : Nat → Int64) (sz : Nat) (q : Int32) (hd9 : okD (m_dn S)) : Met l yX1_folded wsX1_folded ({ frames := 2, cells := 0, slots := 0, locals := 50 }) (va_Pc [.ref (ad 0), .int q] (fun U => U.heap.size = sz ∧ va_P (dC, dI) vwCl (wM ad cL cZ cI S ro hd) U.heap ∧ va_K (dC, dI) vwCl (tyM cL cZ cI) U ∧ va_D (fun _ => True) (wM ad cL cZ cI S ro hd))) (va_Ql (fun r (u : SMr) => r = M_folded S q ∧ u.1 = S ∧ u.2.2 = hd) (xB (dC, dI) (wMr ad cL cZ cI) (tyM cL cZ cI) (va_A (wM ad cL cZ cI S ro hd) sz)) (va_A (wM ad cL cZ cI S ro hd) sz)) 0 0 (va_A (wM ad cL cZ cI S ro hd) sz) := by
  refine Met.ofW (cc := cX1_folded) (maxL := 5) (ret := (some .long)) (by decide) rfl ?_
  intro p e s m args below meth c s₁ B hml hv
  obtain ⟨rfl, hsz, hP, hK, hD0⟩ := hv
  have hx := B.exec
  have hb := B.bytes
  have hr := B.returns
  have hts := atoms_spec (ws := wsX1_folded) B.pre
  have hown : s.vm.findClass RX1 = some m.cls := findClass_of_methodNamed B.named
  have hlocks := B.notSynchronized
  have hin : ∀ w ∈ wsX10, w ∈ wsX1_folded := fun _ h => List.mem_cons_of_mem _ (List.mem_append_right _ h)
  subst hsz
  have hD := hD0.self (sz := s.heap.size)
  generalize hAe : va_A (wM ad cL cZ cI S ro hd) s.heap.size = A at hD ⊢
  have hA : ∀ q : Nat, s.heap.size ≤ q → A q := fun q h => by rw [← hAe]; exact Or.inr h
  have hS : va_S A s.heap s.heap [] := va_S.rf
  have hl := lv_entry ([.ref (ad 0), .int q]) (n := 5) (Nat.le_of_ble_eq_true rfl)
  rw [lg_entry_eq]
  generalize (lg_sl ([.ref (ad 0), .int q]) ++ List.replicate (5 - (lg_sl ([.ref (ad 0), .int q])).length) Slot.unset).toArray = ls at hl ⊢
  have hl : lv_has ls 5 [(0, .ref (ad 0)), (1, .int q)] := hl
  refine lv_lconst (v := 0) hx hb dX1_folded_0 (by decide) ?_
  refine lv_lstore_n (lv' := [(2, .long (0 : Int64)), (0, .ref (ad 0)), (1, .int q)]) hx hb dX1_folded_1 rfl hl (by decide) rfl (fun ls hl => ?_)
  refine lv_iconst (v := 0) hx hb dX1_folded_2 (by decide) ?_
  refine lv_istore (lv' := [(4, .int (0 : Int32)), (2, .long (0 : Int64)), (0, .ref (ad 0)), (1, .int q)]) hx hb dX1_folded_3 hl (by decide) rfl (fun ls hl => ?_)
  refine lp_X1_folded_5 (S := S) (ro := ro) (hd := hd) q hd9 hx hb hml hown hts hK hA (fun H locs ro ls hP hD hS hl => ?_) ((m_dn S).toNatClampNeg + 1) 0 _ _ ro ls (Nat.zero_le _) (by omega) hP hD hS (lv_sub hl [0, 1, 2, 3] rfl)
  refine lv_lload_n hx hb dX1_folded_60 rfl (lv_at hl 1 rfl) ?_
  exact W.lret (v := (fld (m_wh S) (m_wi S) q ((m_dn S).toNatClampNeg))) hx hb hr (fun t ht hW => ⟨⟨_, (S, ro, hd), rfl, ⟨rfl, rfl, rfl⟩, by rw [ht]; exact hP, va_K.moved hW.alike hK, hD⟩, hS.F ht⟩) hS.2.2 dX1_folded_61
set_option maxHeartbeats 4000000 in
set_option maxRecDepth 100000 in
theorem lp_X1_digestOf_2 {p : Program} {l : Launch} {e : Env} {s : State} {m : MethodId} {args : Array Value} {below : List Frame} {meth : Method} {c : Code} {Q : State → Prop} {dC : Nat → ClassId} {dI : Nat → Nat → Nat} {ad : Nat → Nat} {cL cZ cI : ClassId} {S : SM} {ro hd : Nat → Int64} {A : Nat → Prop} {H0 : Heap} (mask : Int32) (hd9 : okD (m_dn S)) (hx : p.tables.exec = Jvm.exec) (hb : c.code = cX1_digestOf) (hml : c.maxLocals = 4) (hown : s.vm.findClass RX1 = some m.cls) (hts : ∀ w ∈ wsX1_digestOf, w.before args s = true) (hK : va_K (dC, dI) vwCl (tyM cL cZ cI) s) (hA : ∀ q, H0.size ≤ q → A q)
    (kk : ∀ (H : Heap) (locs : List Loc) (ro hd : Nat → Int64) (ls : Array Slot), (∀ j, j < 8 → hd j = M_folded S (nI j)) → va_P (dC, dI) vwCl (wM ad cL cZ cI S ro hd) H → va_D A (wM ad cL cZ cI S ro hd) → va_S A H0 H locs → lv_has ls 4 [(2, .int (nI 8)), (0, .ref (ad 0)), (1, .int mask)] → W p l e (headSpec wsX1_digestOf ({ frames := 3, cells := 0, slots := 0, locals := 74 })).room s m args below meth c H locs 0 0 Q (F0 m 25 ls [])) :
    ∀ (n i : Nat) (H : Heap) (locs : List Loc) (ro hd : Nat → Int64) (ls : Array Slot), i ≤ 8 → 8 < i + n → (∀ j, j < i → hd j = M_folded S (nI j)) → va_P (dC, dI) vwCl (wM ad cL cZ cI S ro hd) H → va_D A (wM ad cL cZ cI S ro hd) → va_S A H0 H locs → lv_has ls 4 [(2, .int (nI i)), (0, .ref (ad 0)), (1, .int mask)] → W p l e (headSpec wsX1_digestOf ({ frames := 3, cells := 0, slots := 0, locals := 74 })).room s m args below meth c H locs 0 0 Q (F0 m 2 ls []) := by
  have hin : ∀ w ∈ wsX10, w ∈ wsX1_digestOf := fun _ h => List.mem_cons_of_mem _ (List.mem_append_right _ h)
  intro n
  induction n with
  | zero =>
    intro i H locs ro hd ls hi hn9
    omega
  | succ n ih =>
    intro i H locs ro hd ls hi hn9 hf hP hD hS hl
    refine lv_iload_n hx hb dX1_digestOf_2 rfl (lv_at hl 0 rfl) ?_
    refine lv_bipush (v := 8) hx hb dX1_digestOf_3 (by decide) ?_
    refine lv_icmp_ge (tgt := 25) hx hb dX1_digestOf_5 (by decide) (fun c5 => ?_) (fun c5 => ?_)
    · skip
      have hi8 := xge (n := 8) (by decide) hi c5
      subst hi8
      exact kk H locs ro hd ls hf hP hD hS (lv_sub hl [0, 1, 2] rfl)
    · skip
      have hlt := xlt (n := 8) (by decide) hi c5
      refine lv_aload_n hx hb dX1_digestOf_8 rfl (lv_at hl 1 rfl) ?_
      refine g_m_ahd hx hb hts hin hown hK hP (hts (.fieldLink RX1 42 RX1 "held" "[J") (by decide +kernel)) dX1_digestOf_9 ?_
      refine lv_iload_n hx hb dX1_digestOf_12 rfl (lv_at hl 0 rfl) ?_
      refine lv_aload_n hx hb dX1_digestOf_13 rfl (lv_at hl 1 rfl) ?_
      refine lv_iload_n hx hb dX1_digestOf_14 rfl (lv_at hl 0 rfl) ?_
      refine xcall_l (va_runV (As := [.int (nI i)]) (rest := [.int (nI i), .ref (ad 11)]) ⟨hx, hb, hml, hown, hts⟩ (c_X1_folded l dC dI ad cL cZ cI S ro hd H.size (nI i) hd9 ) (cwV 1 hts gX1_digestOf_X1_folded rfl rfl rfl (by decide +kernel) ⟨Nat.le_of_ble_eq_true rfl, Nat.le_of_ble_eq_true rfl⟩) (xpV_w [.int (nI i)] hK hP hD (va_recv hK hP (ci := 1) (q0 := 0) rfl rfl)) rfl rfl hl.1 rfl (lv_room (Nat.le_of_ble_eq_true rfl)) dX1_digestOf_15 ⟨Nat.le_of_ble_eq_true rfl, Nat.le_of_ble_eq_true rfl⟩) hD hS hA (fun r u H locs hw hP hD hS => ?_)
      obtain ⟨u1, rw1, hd1⟩ := u
      obtain ⟨rfl, hu1, hh1⟩ := hw
      change hd1 = hd at hh1
      change u1 = S at hu1
      change va_P _ vwCl (wM ad cL cZ cI u1 rw1 hd1) _ at hP
      change va_D _ (wM ad cL cZ cI u1 rw1 hd1) at hD
      rw [hu1, hh1] at hP hD
      refine s_m_hd hx hb hK hP hD hS (xat_nI hlt (by decide)) dX1_digestOf_18 (fun H locs hP hD hS => ?_)
      refine lv_iinc (v := (nI (i + 1))) (lv' := [(2, .int (nI (i + 1))), (0, .ref (ad 0)), (1, .int mask)]) hx hb dX1_digestOf_19 hl (k := 0) rfl (nI_1 i) (by decide) rfl (fun ls hl => ?_)
      refine lv_goto (tgt := 2) hx hb dX1_digestOf_22 (by decide) ?_
      exact ih (i + 1) _ _ rw1 (vp_updL hd i (M_folded S (nI i))) ls (by omega) (by omega) (fun j hj => by
        show (if j = i then _ else hd j) = _
        by_cases e : j = i
        · rw [if_pos e, e]
        · rw [if_neg e]; exact hf j (by omega)) hP hD hS (lv_sub hl [0, 1, 2] rfl)
set_option maxHeartbeats 4000000 in
set_option maxRecDepth 100000 in
theorem lp_X1_digestOf_37 {p : Program} {l : Launch} {e : Env} {s : State} {m : MethodId} {args : Array Value} {below : List Frame} {meth : Method} {c : Code} {Q : State → Prop} {dC : Nat → ClassId} {dI : Nat → Nat → Nat} {ad : Nat → Nat} {cL cZ cI : ClassId} {S : SM} {ro hd : Nat → Int64} {A : Nat → Prop} {H0 : Heap} (mask : Int32) (hx : p.tables.exec = Jvm.exec) (hb : c.code = cX1_digestOf) (hml : c.maxLocals = 4) (hown : s.vm.findClass RX1 = some m.cls) (hts : ∀ w ∈ wsX1_digestOf, w.before args s = true) (hK : va_K (dC, dI) vwCl (tyM cL cZ cI) s) (hA : ∀ q, H0.size ≤ q → A q)
    (kk : ∀ (H : Heap) (locs : List Loc) (ls : Array Slot), va_P (dC, dI) vwCl (wM ad cL cZ cI S (rowN ro hd mask 8) hd) H → va_D A (wM ad cL cZ cI S (rowN ro hd mask 8) hd) → va_S A H0 H locs → lv_has ls 4 [(2, .int (nI (cntN mask 8))), (3, .int (nI 8)), (0, .ref (ad 0)), (1, .int mask)] → W p l e (headSpec wsX1_digestOf ({ frames := 3, cells := 0, slots := 0, locals := 74 })).room s m args below meth c H locs 0 0 Q (F0 m 73 ls [])) :
    ∀ (n i : Nat) (H : Heap) (locs : List Loc) (ls : Array Slot), i ≤ 8 → 8 < i + n → va_P (dC, dI) vwCl (wM ad cL cZ cI S (rowN ro hd mask i) hd) H → va_D A (wM ad cL cZ cI S (rowN ro hd mask i) hd) → va_S A H0 H locs → lv_has ls 4 [(2, .int (nI (cntN mask i))), (3, .int (nI i)), (0, .ref (ad 0)), (1, .int mask)] → W p l e (headSpec wsX1_digestOf ({ frames := 3, cells := 0, slots := 0, locals := 74 })).room s m args below meth c H locs 0 0 Q (F0 m 37 ls []) := by
  have hin : ∀ w ∈ wsX10, w ∈ wsX1_digestOf := fun _ h => List.mem_cons_of_mem _ (List.mem_append_right _ h)
  intro n
  induction n with
  | zero =>
    intro i H locs ls hi hn9
    omega
  | succ n ih =>
    intro i H locs ls hi hn9 hP hD hS hl
    refine lv_iload_n hx hb dX1_digestOf_37 rfl (lv_at hl 1 rfl) ?_
    refine lv_bipush (v := 8) hx hb dX1_digestOf_38 (by decide) ?_
    refine lv_icmp_ge (tgt := 73) hx hb dX1_digestOf_40 (by decide) (fun c40 => ?_) (fun c40 => ?_)
    · skip
      have hi8 := xge (n := 8) (by decide) hi c40
      subst hi8
      exact kk H locs ls hP hD hS (lv_sub hl [0, 1, 2, 3] rfl)
    · skip
      have hlt := xlt (n := 8) (by decide) hi c40
      refine lv_iload_n hx hb dX1_digestOf_43 rfl (lv_at hl 3 rfl) ?_
      refine lv_iload_n hx hb dX1_digestOf_44 rfl (lv_at hl 1 rfl) ?_
      refine lv_ishr hx hb dX1_digestOf_45 ?_
      refine lv_iconst (v := 1) hx hb dX1_digestOf_46 (by decide) ?_
      refine lv_iand hx hb dX1_digestOf_47 ?_
      refine lv_iconst (v := 1) hx hb dX1_digestOf_48 (by decide) ?_
      refine lv_icmp_ne (tgt := 67) hx hb dX1_digestOf_49 (by decide) (fun c49 => ?_) (fun c49 => ?_)
      · skip
        refine lv_iinc (v := (nI (i + 1))) (lv' := [(3, .int (nI (i + 1))), (2, .int (nI (cntN mask i))), (0, .ref (ad 0)), (1, .int mask)]) hx hb dX1_digestOf_67 hl (k := 1) rfl (nI_1 i) (by decide) rfl (fun ls hl => ?_)
        refine lv_goto (tgt := 37) hx hb dX1_digestOf_70 (by decide) ?_
        exact ih (i + 1) _ _ ls (by omega) (by omega) (by rw [show rowN ro hd mask (i + 1) = (rowN ro hd mask i) from if_neg c49]; exact hP) (by rw [show rowN ro hd mask (i + 1) = (rowN ro hd mask i) from if_neg c49]; exact hD) hS (by rw [show cntN mask (i + 1) = cntN mask i from if_neg c49]; exact lv_sub hl [1, 0, 2, 3] rfl)
      · skip
        refine lv_aload_n hx hb dX1_digestOf_52 rfl (lv_at hl 2 rfl) ?_
        refine g_m_arw hx hb hts hin hown hK hP (hts (.fieldLink RX1 39 RX1 "row" "[J") (by decide +kernel)) dX1_digestOf_53 ?_
        refine lv_iload_n hx hb dX1_digestOf_56 rfl (lv_at hl 0 rfl) ?_
        refine lv_aload_n hx hb dX1_digestOf_57 rfl (lv_at hl 2 rfl) ?_
        refine g_m_ahd hx hb hts hin hown hK hP (hts (.fieldLink RX1 42 RX1 "held" "[J") (by decide +kernel)) dX1_digestOf_58 ?_
        refine lv_iload_n hx hb dX1_digestOf_61 rfl (lv_at hl 1 rfl) ?_
        refine l_m_hd hx hb hK hP (xat_nI hlt (by decide)) dX1_digestOf_62 ?_
        refine s_m_rw hx hb hK hP hD hS (xat_nI (by have := cntN_le mask i; omega) (by decide)) dX1_digestOf_63 (fun H locs hP hD hS => ?_)
        refine lv_iinc (v := (nI (cntN mask i + 1))) (lv' := [(2, .int (nI (cntN mask i + 1))), (3, .int (nI i)), (0, .ref (ad 0)), (1, .int mask)]) hx hb dX1_digestOf_64 hl (k := 0) rfl (nI_1 (cntN mask i)) (by decide) rfl (fun ls hl => ?_)
        refine lv_iinc (v := (nI (i + 1))) (lv' := [(3, .int (nI (i + 1))), (2, .int (nI (cntN mask i + 1))), (0, .ref (ad 0)), (1, .int mask)]) hx hb dX1_digestOf_67 hl (k := 1) rfl (nI_1 i) (by decide) rfl (fun ls hl => ?_)
        refine lv_goto (tgt := 37) hx hb dX1_digestOf_70 (by decide) ?_
        exact ih (i + 1) _ _ ls (by omega) (by omega) (by rw [show rowN ro hd mask (i + 1) = vp_updL (rowN ro hd mask i) (cntN mask i) (hd i) from if_pos c49]; exact hP) (by rw [show rowN ro hd mask (i + 1) = vp_updL (rowN ro hd mask i) (cntN mask i) (hd i) from if_pos c49]; exact hD) hS (by rw [show cntN mask (i + 1) = cntN mask i + 1 from if_pos c49]; exact lv_sub hl [1, 0, 2, 3] rfl)
set_option maxHeartbeats 4000000 in
set_option maxRecDepth 100000 in
theorem c_X1_digestOf (l : Launch) (dC : Nat → ClassId) (dI : Nat → Nat → Nat) (ad : Nat → Nat) (cL cZ cI : ClassId) (S : SM) (ro hd : Nat → Int64) (sz : Nat) (mask : Int32) (hd9 : okD (m_dn S)) : Met l yX1_digestOf wsX1_digestOf ({ frames := 3, cells := 0, slots := 0, locals := 74 }) (va_Pc [.ref (ad 0), .int mask] (fun U => U.heap.size = sz ∧ va_P (dC, dI) vwCl (wM ad cL cZ cI S ro hd) U.heap ∧ va_K (dC, dI) vwCl (tyM cL cZ cI) U ∧ va_D (fun _ => True) (wM ad cL cZ cI S ro hd))) (va_Ql (fun r (u : SMr) => r = M_digestOf S mask ∧ u.1 = S) (xB (dC, dI) (wMr ad cL cZ cI) (tyM cL cZ cI) (va_A (wM ad cL cZ cI S ro hd) sz)) (va_A (wM ad cL cZ cI S ro hd) sz)) 0 0 (va_A (wM ad cL cZ cI S ro hd) sz) := by
  refine Met.ofW (cc := cX1_digestOf) (maxL := 4) (ret := (some .long)) (by decide) rfl ?_
  intro p e s m args below meth c s₁ B hml hv
  obtain ⟨rfl, hsz, hP, hK, hD0⟩ := hv
  have hx := B.exec
  have hb := B.bytes
  have hr := B.returns
  have hts := atoms_spec (ws := wsX1_digestOf) B.pre
  have hown : s.vm.findClass RX1 = some m.cls := findClass_of_methodNamed B.named
  have hlocks := B.notSynchronized
  have hin : ∀ w ∈ wsX10, w ∈ wsX1_digestOf := fun _ h => List.mem_cons_of_mem _ (List.mem_append_right _ h)
  subst hsz
  have hD := hD0.self (sz := s.heap.size)
  generalize hAe : va_A (wM ad cL cZ cI S ro hd) s.heap.size = A at hD ⊢
  have hA : ∀ q : Nat, s.heap.size ≤ q → A q := fun q h => by rw [← hAe]; exact Or.inr h
  have hS : va_S A s.heap s.heap [] := va_S.rf
  have hl := lv_entry ([.ref (ad 0), .int mask]) (n := 4) (Nat.le_of_ble_eq_true rfl)
  rw [lg_entry_eq]
  generalize (lg_sl ([.ref (ad 0), .int mask]) ++ List.replicate (4 - (lg_sl ([.ref (ad 0), .int mask])).length) Slot.unset).toArray = ls at hl ⊢
  have hl : lv_has ls 4 [(0, .ref (ad 0)), (1, .int mask)] := hl
  refine lv_iconst (v := 0) hx hb dX1_digestOf_0 (by decide) ?_
  refine lv_istore_n (lv' := [(2, .int (0 : Int32)), (0, .ref (ad 0)), (1, .int mask)]) hx hb dX1_digestOf_1 rfl hl (by decide) rfl (fun ls hl => ?_)
  refine lp_X1_digestOf_2 (S := S) (ro := ro) (hd := hd) mask hd9 hx hb hml hown hts hK hA (fun H locs ro hd ls hf hP hD hS hl => ?_) (8 + 1) 0 _ _ ro hd ls (Nat.zero_le _) (by omega) (fun j h => absurd h (Nat.not_lt_zero j)) hP hD hS (lv_sub hl [0, 1, 2] rfl)
  refine lv_aload_n hx hb dX1_digestOf_25 rfl (lv_at hl 1 rfl) ?_
  refine g_m_arw hx hb hts hin hown hK hP (hts (.fieldLink RX1 39 RX1 "row" "[J") (by decide +kernel)) dX1_digestOf_26 ?_
  refine lv_iconst (v := 0) hx hb dX1_digestOf_29 (by decide) ?_
  refine lv_iload_n hx hb dX1_digestOf_30 rfl (lv_at hl 2 rfl) ?_
  refine lv_i2l hx hb dX1_digestOf_31 rfl ?_
  refine s_m_rw hx hb hK hP hD hS (xat_nI (by decide) (by decide)) dX1_digestOf_32 (fun H locs hP hD hS => ?_)
  refine lv_iconst (v := 1) hx hb dX1_digestOf_33 (by decide) ?_
  refine lv_istore_n (lv' := [(2, .int (1 : Int32)), (0, .ref (ad 0)), (1, .int mask)]) hx hb dX1_digestOf_34 rfl hl (by decide) rfl (fun ls hl => ?_)
  refine lv_iconst (v := 0) hx hb dX1_digestOf_35 (by decide) ?_
  refine lv_istore_n (lv' := [(3, .int (0 : Int32)), (2, .int (1 : Int32)), (0, .ref (ad 0)), (1, .int mask)]) hx hb dX1_digestOf_36 rfl hl (by decide) rfl (fun ls hl => ?_)
  refine lp_X1_digestOf_37 (S := S) (ro := (vp_updL ro 0 mask.toInt64)) (hd := hd) mask hx hb hml hown hts hK hA (fun H locs ls hP hD hS hl => ?_) (8 + 1) 0 _ _ ls (Nat.zero_le _) (by omega) hP hD hS (lv_sub hl [1, 0, 2, 3] rfl)
  refine lv_aload_n hx hb dX1_digestOf_73 rfl (lv_at hl 2 rfl) ?_
  refine lv_iload_n hx hb dX1_digestOf_74 rfl (lv_at hl 0 rfl) ?_
  refine vp_callSl (va_Run.run (va_runV (As := [.int (nI (cntN mask 8))]) (rest := []) ⟨hx, hb, hml, hown, hts⟩ (c_X1_hash l dC dI ad cL cZ cI S (rowN (vp_updL ro 0 mask.toInt64) hd mask 8) hd (cntN mask 8) (by have := cntN_le mask 8; omega) ) (cwV 1 hts gX1_digestOf_X1_hash rfl rfl rfl (by decide +kernel) ⟨Nat.le_of_ble_eq_true rfl, Nat.le_of_ble_eq_true rfl⟩) (xpV_r [.int (nI (cntN mask 8))] hK hP (va_recv hK hP (ci := 1) (q0 := 0) rfl rfl)) rfl rfl hl.1 rfl (lv_room (Nat.le_of_ble_eq_true rfl)) dX1_digestOf_75 ⟨Nat.le_of_ble_eq_true rfl, Nat.le_of_ble_eq_true rfl⟩)) (fun r hr9 => ?_)
  subst hr9
  exact W.lret (v := (foN (nI (cntN mask 8)).toInt64 (rowN (vp_updL ro 0 mask.toInt64) hd mask 8) (cntN mask 8))) hx hb hr (fun t ht hW => ⟨⟨_, (S, (rowN (vp_updL ro 0 mask.toInt64) hd mask 8), hd), rfl, ⟨(M_digest_row hf), rfl⟩, by rw [ht]; exact hP, va_K.moved hW.alike hK, hD⟩, hS.F ht⟩) hS.2.2 dX1_digestOf_78
set_option maxHeartbeats 4000000 in
set_option maxRecDepth 100000 in
theorem c_X1_veil (l : Launch) (dC : Nat → ClassId) (dI : Nat → Nat → Nat) (ad : Nat → Nat) (cL cZ cI : ClassId) (S : SM) (ro hd : Nat → Int64) (sz : Nat) (sa : Int64) (dg : Int64)  : Met l yX1_veil wsX1_veil ({ frames := 1, cells := 0, slots := 0, locals := 26 }) (va_Pc [.ref (ad 0), .long sa, .long dg] (fun U => U.heap.size = sz ∧ va_P (dC, dI) vwCl (wM ad cL cZ cI S ro hd) U.heap ∧ va_K (dC, dI) vwCl (tyM cL cZ cI) U ∧ va_D (fun _ => True) (wM ad cL cZ cI S ro hd))) (va_Ql (fun r (u : SMr) => r = M_veil S sa dg ∧ u.1 = S) (xB (dC, dI) (wMr ad cL cZ cI) (tyM cL cZ cI) (va_A (wM ad cL cZ cI S ro hd) sz)) (va_A (wM ad cL cZ cI S ro hd) sz)) 0 0 (va_A (wM ad cL cZ cI S ro hd) sz) := by
  refine Met.ofW (cc := cX1_veil) (maxL := 5) (ret := (some .long)) (by decide) rfl ?_
  intro p e s m args below meth c s₁ B hml hv
  obtain ⟨rfl, hsz, hP, hK, hD0⟩ := hv
  have hx := B.exec
  have hb := B.bytes
  have hr := B.returns
  have hts := atoms_spec (ws := wsX1_veil) B.pre
  have hown : s.vm.findClass RX1 = some m.cls := findClass_of_methodNamed B.named
  have hlocks := B.notSynchronized
  have hin : ∀ w ∈ wsX10, w ∈ wsX1_veil := fun _ h => List.mem_cons_of_mem _ (List.mem_append_right _ h)
  subst hsz
  have hD := hD0.self (sz := s.heap.size)
  generalize hAe : va_A (wM ad cL cZ cI S ro hd) s.heap.size = A at hD ⊢
  have hA : ∀ q : Nat, s.heap.size ≤ q → A q := fun q h => by rw [← hAe]; exact Or.inr h
  have hS : va_S A s.heap s.heap [] := va_S.rf
  have hl := lv_entry ([.ref (ad 0), .long sa, .long dg]) (n := 5) (Nat.le_of_ble_eq_true rfl)
  rw [lg_entry_eq]
  generalize (lg_sl ([.ref (ad 0), .long sa, .long dg]) ++ List.replicate (5 - (lg_sl ([.ref (ad 0), .long sa, .long dg])).length) Slot.unset).toArray = ls at hl ⊢
  have hl : lv_has ls 5 [(0, .ref (ad 0)), (1, .long sa), (3, .long dg)] := hl
  refine lv_aload_n hx hb dX1_veil_0 rfl (lv_at hl 0 rfl) ?_
  refine g_m_arw hx hb hts hin hown hK hP (hts (.fieldLink RX1 39 RX1 "row" "[J") (by decide +kernel)) dX1_veil_1 ?_
  refine lv_iconst (v := 0) hx hb dX1_veil_4 (by decide) ?_
  refine lv_aload_n hx hb dX1_veil_5 rfl (lv_at hl 0 rfl) ?_
  refine g_m_m hx hb hts hin hown hK hP (hts (.fieldLink RX1 49 RX1 "machine" "J") (by decide +kernel)) dX1_veil_6 ?_
  refine s_m_rw hx hb hK hP hD hS (xat_nI (by decide) (by decide)) dX1_veil_9 (fun H locs hP hD hS => ?_)
  refine lv_aload_n hx hb dX1_veil_10 rfl (lv_at hl 0 rfl) ?_
  refine g_m_arw hx hb hts hin hown hK hP (hts (.fieldLink RX1 39 RX1 "row" "[J") (by decide +kernel)) dX1_veil_11 ?_
  refine lv_iconst (v := 1) hx hb dX1_veil_14 (by decide) ?_
  refine lv_lload_n hx hb dX1_veil_15 rfl (lv_at hl 1 rfl) ?_
  refine s_m_rw hx hb hK hP hD hS (xat_nI (by decide) (by decide)) dX1_veil_16 (fun H locs hP hD hS => ?_)
  refine lv_aload_n hx hb dX1_veil_17 rfl (lv_at hl 0 rfl) ?_
  refine g_m_arw hx hb hts hin hown hK hP (hts (.fieldLink RX1 39 RX1 "row" "[J") (by decide +kernel)) dX1_veil_18 ?_
  refine lv_iconst (v := 2) hx hb dX1_veil_21 (by decide) ?_
  refine lv_lload_n hx hb dX1_veil_22 rfl (lv_at hl 2 rfl) ?_
  refine s_m_rw hx hb hK hP hD hS (xat_nI (by decide) (by decide)) dX1_veil_23 (fun H locs hP hD hS => ?_)
  refine lv_aload_n hx hb dX1_veil_24 rfl (lv_at hl 0 rfl) ?_
  refine lv_iconst (v := 3) hx hb dX1_veil_25 (by decide) ?_
  refine vp_callSl (va_Run.run (va_runV (As := [.int (3 : Int32)]) (rest := []) ⟨hx, hb, hml, hown, hts⟩ (c_X1_hash l dC dI ad cL cZ cI S (vp_updL (vp_updL (vp_updL ro 0 (m_m S)) 1 sa) 2 dg) hd 3 (by decide) ) (cwV 1 hts gX1_veil_X1_hash rfl rfl rfl (by decide +kernel) ⟨Nat.le_of_ble_eq_true rfl, Nat.le_of_ble_eq_true rfl⟩) (xpV_r [.int (3 : Int32)] hK hP (va_recv hK hP (ci := 1) (q0 := 0) rfl rfl)) rfl rfl hl.1 rfl (lv_room (Nat.le_of_ble_eq_true rfl)) dX1_veil_26 ⟨Nat.le_of_ble_eq_true rfl, Nat.le_of_ble_eq_true rfl⟩)) (fun r hr9 => ?_)
  subst hr9
  exact W.lret (v := (foN (nI 3).toInt64 (vp_updL (vp_updL (vp_updL ro 0 (m_m S)) 1 sa) 2 dg) 3)) hx hb hr (fun t ht hW => ⟨⟨_, (S, (vp_updL (vp_updL (vp_updL ro 0 (m_m S)) 1 sa) 2 dg), hd), rfl, ⟨(foN3 _), rfl⟩, by rw [ht]; exact hP, va_K.moved hW.alike hK, hD⟩, hS.F ht⟩) hS.2.2 dX1_veil_29
set_option maxHeartbeats 4000000 in
set_option maxRecDepth 100000 in
theorem lp_X1_sealOf_2 {p : Program} {l : Launch} {e : Env} {s : State} {m : MethodId} {args : Array Value} {below : List Frame} {meth : Method} {c : Code} {Q : State → Prop} {dC : Nat → ClassId} {dI : Nat → Nat → Nat} {ad : Nat → Nat} {cL cZ cI : ClassId} {S : SM} {ro hd : Nat → Int64} {A : Nat → Prop} {H0 : Heap} (q : Int32) (hq : vp_in q 10) (hx : p.tables.exec = Jvm.exec) (hb : c.code = cX1_sealOf) (hml : c.maxLocals = 3) (hown : s.vm.findClass RX1 = some m.cls) (hts : ∀ w ∈ wsX1_sealOf, w.before args s = true) (hK : va_K (dC, dI) vwCl (tyM cL cZ cI) s) (hA : ∀ q, H0.size ≤ q → A q)
    (kk : ∀ (H : Heap) (locs : List Loc) (ls : Array Slot), va_P (dC, dI) vwCl (wM ad cL cZ cI S (rowS ro (m_bw S) q.toNatClampNeg 5) hd) H → va_D A (wM ad cL cZ cI S (rowS ro (m_bw S) q.toNatClampNeg 5) hd) → va_S A H0 H locs → lv_has ls 3 [(2, .int (nI 5)), (0, .ref (ad 0)), (1, .int q)] → W p l e (headSpec wsX1_sealOf ({ frames := 2, cells := 0, slots := 0, locals := 51 })).room s m args below meth c H locs 0 0 Q (F0 m 32 ls [])) :
    ∀ (n i : Nat) (H : Heap) (locs : List Loc) (ls : Array Slot), i ≤ 5 → 5 < i + n → va_P (dC, dI) vwCl (wM ad cL cZ cI S (rowS ro (m_bw S) q.toNatClampNeg i) hd) H → va_D A (wM ad cL cZ cI S (rowS ro (m_bw S) q.toNatClampNeg i) hd) → va_S A H0 H locs → lv_has ls 3 [(2, .int (nI i)), (0, .ref (ad 0)), (1, .int q)] → W p l e (headSpec wsX1_sealOf ({ frames := 2, cells := 0, slots := 0, locals := 51 })).room s m args below meth c H locs 0 0 Q (F0 m 2 ls []) := by
  have hin : ∀ w ∈ wsX10, w ∈ wsX1_sealOf := fun _ h => List.mem_cons_of_mem _ (List.mem_append_right _ h)
  intro n
  induction n with
  | zero =>
    intro i H locs ls hi hn9
    omega
  | succ n ih =>
    intro i H locs ls hi hn9 hP hD hS hl
    refine lv_iload_n hx hb dX1_sealOf_2 rfl (lv_at hl 0 rfl) ?_
    refine lv_iconst (v := 5) hx hb dX1_sealOf_3 (by decide) ?_
    refine lv_icmp_ge (tgt := 32) hx hb dX1_sealOf_4 (by decide) (fun c4 => ?_) (fun c4 => ?_)
    · skip
      have hi8 := xge (n := 5) (by decide) hi c4
      subst hi8
      exact kk H locs ls hP hD hS (lv_sub hl [0, 1, 2] rfl)
    · skip
      have hlt := xlt (n := 5) (by decide) hi c4
      refine lv_aload_n hx hb dX1_sealOf_7 rfl (lv_at hl 1 rfl) ?_
      refine g_m_arw hx hb hts hin hown hK hP (hts (.fieldLink RX1 39 RX1 "row" "[J") (by decide +kernel)) dX1_sealOf_8 ?_
      refine lv_iconst (v := 1) hx hb dX1_sealOf_11 (by decide) ?_
      refine lv_iload_n hx hb dX1_sealOf_12 rfl (lv_at hl 0 rfl) ?_
      refine lv_iadd hx hb dX1_sealOf_13 ?_
      refine lv_aload_n hx hb dX1_sealOf_14 rfl (lv_at hl 1 rfl) ?_
      refine g_m_abw hx hb hts hin hown hK hP (hts (.fieldLink RX1 36 RX1 "blobWord" "[J") (by decide +kernel)) dX1_sealOf_15 ?_
      refine lv_bipush (v := 6) hx hb dX1_sealOf_18 (by decide) ?_
      refine lv_iload_n hx hb dX1_sealOf_20 rfl (lv_at hl 2 rfl) ?_
      refine lv_imul hx hb dX1_sealOf_21 ?_
      refine lv_iload_n hx hb dX1_sealOf_22 rfl (lv_at hl 0 rfl) ?_
      refine lv_iadd hx hb dX1_sealOf_23 ?_
      refine l_m_bw hx hb hK hP (xat6 hq (xat_nI (by omega) (by decide))) dX1_sealOf_24 ?_
      refine s_m_rw hx hb hK hP hD hS (xat1 hlt) dX1_sealOf_25 (fun H locs hP hD hS => ?_)
      refine lv_iinc (v := (nI (i + 1))) (lv' := [(2, .int (nI (i + 1))), (0, .ref (ad 0)), (1, .int q)]) hx hb dX1_sealOf_26 hl (k := 0) rfl (nI_1 i) (by decide) rfl (fun ls hl => ?_)
      refine lv_goto (tgt := 2) hx hb dX1_sealOf_29 (by decide) ?_
      exact ih (i + 1) _ _ ls (by omega) (by omega) hP hD hS (lv_sub hl [0, 1, 2] rfl)
set_option maxHeartbeats 4000000 in
set_option maxRecDepth 100000 in
theorem c_X1_sealOf (l : Launch) (dC : Nat → ClassId) (dI : Nat → Nat → Nat) (ad : Nat → Nat) (cL cZ cI : ClassId) (S : SM) (ro hd : Nat → Int64) (sz : Nat) (q : Int32) (hq : vp_in q 10) : Met l yX1_sealOf wsX1_sealOf ({ frames := 2, cells := 0, slots := 0, locals := 51 }) (va_Pc [.ref (ad 0), .int q] (fun U => U.heap.size = sz ∧ va_P (dC, dI) vwCl (wM ad cL cZ cI S ro hd) U.heap ∧ va_K (dC, dI) vwCl (tyM cL cZ cI) U ∧ va_D (fun _ => True) (wM ad cL cZ cI S ro hd))) (va_Ql (fun r (u : SMr) => r = M_sealOf S q ∧ u.1 = S) (xB (dC, dI) (wMr ad cL cZ cI) (tyM cL cZ cI) (va_A (wM ad cL cZ cI S ro hd) sz)) (va_A (wM ad cL cZ cI S ro hd) sz)) 0 0 (va_A (wM ad cL cZ cI S ro hd) sz) := by
  refine Met.ofW (cc := cX1_sealOf) (maxL := 3) (ret := (some .long)) (by decide) rfl ?_
  intro p e s m args below meth c s₁ B hml hv
  obtain ⟨rfl, hsz, hP, hK, hD0⟩ := hv
  have hx := B.exec
  have hb := B.bytes
  have hr := B.returns
  have hts := atoms_spec (ws := wsX1_sealOf) B.pre
  have hown : s.vm.findClass RX1 = some m.cls := findClass_of_methodNamed B.named
  have hlocks := B.notSynchronized
  have hin : ∀ w ∈ wsX10, w ∈ wsX1_sealOf := fun _ h => List.mem_cons_of_mem _ (List.mem_append_right _ h)
  subst hsz
  have hD := hD0.self (sz := s.heap.size)
  generalize hAe : va_A (wM ad cL cZ cI S ro hd) s.heap.size = A at hD ⊢
  have hA : ∀ q : Nat, s.heap.size ≤ q → A q := fun q h => by rw [← hAe]; exact Or.inr h
  have hS : va_S A s.heap s.heap [] := va_S.rf
  have hl := lv_entry ([.ref (ad 0), .int q]) (n := 3) (Nat.le_of_ble_eq_true rfl)
  rw [lg_entry_eq]
  generalize (lg_sl ([.ref (ad 0), .int q]) ++ List.replicate (3 - (lg_sl ([.ref (ad 0), .int q])).length) Slot.unset).toArray = ls at hl ⊢
  have hl : lv_has ls 3 [(0, .ref (ad 0)), (1, .int q)] := hl
  refine lv_iconst (v := 0) hx hb dX1_sealOf_0 (by decide) ?_
  refine lv_istore_n (lv' := [(2, .int (0 : Int32)), (0, .ref (ad 0)), (1, .int q)]) hx hb dX1_sealOf_1 rfl hl (by decide) rfl (fun ls hl => ?_)
  refine lp_X1_sealOf_2 (S := S) (ro := ro) (hd := hd) q hq hx hb hml hown hts hK hA (fun H locs ls hP hD hS hl => ?_) (5 + 1) 0 _ _ ls (Nat.zero_le _) (by omega) hP hD hS (lv_sub hl [0, 1, 2] rfl)
  refine lv_aload_n hx hb dX1_sealOf_32 rfl (lv_at hl 1 rfl) ?_
  refine lv_aload_n hx hb dX1_sealOf_33 rfl (lv_at hl 1 rfl) ?_
  refine g_m_m hx hb hts hin hown hK hP (hts (.fieldLink RX1 49 RX1 "machine" "J") (by decide +kernel)) dX1_sealOf_34 ?_
  refine lv_iconst (v := 5) hx hb dX1_sealOf_37 (by decide) ?_
  refine xcall_l (va_runV (As := [.long (m_m S), .int (5 : Int32)]) (rest := []) ⟨hx, hb, hml, hown, hts⟩ (c_X1_code l dC dI ad cL cZ cI S (rowS ro (m_bw S) q.toNatClampNeg 5) hd H.size (m_m S) 5 (by decide) ) (cwV 2 hts gX1_sealOf_X1_code rfl rfl rfl (by decide +kernel) ⟨Nat.le_of_ble_eq_true rfl, Nat.le_of_ble_eq_true rfl⟩) (xpV_w [.long (m_m S), .int (5 : Int32)] hK hP hD (va_recv hK hP (ci := 1) (q0 := 0) rfl rfl)) rfl rfl hl.1 rfl (lv_room (Nat.le_of_ble_eq_true rfl)) dX1_sealOf_38 ⟨Nat.le_of_ble_eq_true rfl, Nat.le_of_ble_eq_true rfl⟩) hD hS hA (fun r u H locs hw hP hD hS => ?_)
  obtain ⟨u1, rw1, hd1⟩ := u
  obtain ⟨rfl, hu1⟩ := hw
  change u1 = S at hu1
  change va_P _ vwCl (wM ad cL cZ cI u1 rw1 hd1) _ at hP
  change va_D _ (wM ad cL cZ cI u1 rw1 hd1) at hD
  rw [hu1] at hP hD
  exact W.lret (v := (mE (m_m S) (foN (nI (5 + 1)).toInt64 (vp_updL (rowS ro (m_bw S) q.toNatClampNeg 5) 0 ((m_m S) ^^^ 92)) (5 + 1)))) hx hb hr (fun t ht hW => ⟨⟨_, (S, rw1, hd1), rfl, ⟨M_seal_row, rfl⟩, by rw [ht]; exact hP, va_K.moved hW.alike hK, hD⟩, hS.F ht⟩) hS.2.2 dX1_sealOf_41
