set_option maxHeartbeats 4000000 in
set_option maxRecDepth 100000 in
theorem lp_X1_unseal_60 {p : Program} {l : Launch} {e : Env} {s : State} {m : MethodId} {args : Array Value} {below : List Frame} {meth : Method} {c : Code} {Q : State → Prop} {dC : Nat → ClassId} {dI : Nat → Nat → Nat} {ad : Nat → Nat} {cL cZ cI : ClassId} {S : SM} {ro hd : Nat → Int64} {A : Nat → Prop} {H0 : Heap} (q a : Int32) (ha : vp_in a 10) (hx : p.tables.exec = Jvm.exec) (hb : c.code = cX1_unseal) (hml : c.maxLocals = 7) (hown : s.vm.findClass RX1 = some m.cls) (hts : ∀ w ∈ wsX1_unseal, w.before args s = true) (hK : va_K (dC, dI) vwCl (tyM cL cZ cI) s) (hA : ∀ q, H0.size ≤ q → A q)
    (kk : ∀ (H : Heap) (locs : List Loc) (ro hd : Nat → Int64) (ls : Array Slot), va_P (dC, dI) vwCl (wM ad cL cZ cI S ro hd) H → va_D A (wM ad cL cZ cI S ro hd) → va_S A H0 H locs → lv_has ls 7 [(4, .int (mfin (m_kt S) (fun j => M_nameOf S (nI j)) (m_bw S (6 * a.toNatClampNeg)) 6 (-1))), (0, .ref (ad 0)), (1, .int q), (2, .int a), (3, .int ((6 : Int32) * a))] → W p l e (headSpec wsX1_unseal ({ frames := 5, cells := 0, slots := 0, locals := 126 })).room s m args below meth c H locs 0 0 Q (F0 m 106 ls [])) :
    ∀ (n : Nat) (K : Int32) (H : Heap) (locs : List Loc) (ro hd : Nat → Int64) (ls : Array Slot), n ≤ 6 → mfin (m_kt S) (fun j => M_nameOf S (nI j)) (m_bw S (6 * a.toNatClampNeg)) n K = mfin (m_kt S) (fun j => M_nameOf S (nI j)) (m_bw S (6 * a.toNatClampNeg)) 6 (-1) → va_P (dC, dI) vwCl (wM ad cL cZ cI S ro hd) H → va_D A (wM ad cL cZ cI S ro hd) → va_S A H0 H locs → lv_has ls 7 [(4, .int K), (5, .int (nI n - 1)), (0, .ref (ad 0)), (1, .int q), (2, .int a), (3, .int ((6 : Int32) * a))] → W p l e (headSpec wsX1_unseal ({ frames := 5, cells := 0, slots := 0, locals := 126 })).room s m args below meth c H locs 0 0 Q (F0 m 60 ls []) := by
  have hin : ∀ w ∈ wsX10, w ∈ wsX1_unseal := fun _ h => List.mem_cons_of_mem _ (List.mem_append_right _ h)
  intro n
  induction n with
  | zero =>
    intro K H locs ro hd ls hn6 he hP hD hS hl
    refine lv_iload hx hb dX1_unseal_60 (lv_at hl 1 rfl) ?_
    refine lv_if_lt (tgt := 106) hx hb dX1_unseal_62 (by decide) (fun c62 => ?_) (fun c62 => ?_)
    · skip
      rw [show K = _ from he] at hl
      exact kk _ _ _ _ ls hP hD hS (lv_sub hl [0, 2, 3, 4, 5] rfl)
    · skip
      exact absurd (by decide) c62
  | succ n ih =>
    intro K H locs ro hd ls hn6 he hP hD hS hl
    rw [nI_pred] at hl
    refine lv_iload hx hb dX1_unseal_60 (lv_at hl 1 rfl) ?_
    refine lv_if_lt (tgt := 106) hx hb dX1_unseal_62 (by decide) (fun c62 => ?_) (fun c62 => ?_)
    · skip
      exact absurd c62 (nI_pos (by omega))
    · skip
      refine lv_aload_n hx hb dX1_unseal_65 rfl (lv_at hl 2 rfl) ?_
      refine g_m_akt hx hb hts hin hown hK hP (hts (.fieldLink RX1 17 RX1 "keyThere" "[Z") (by decide +kernel)) dX1_unseal_66 ?_
      refine lv_iload hx hb dX1_unseal_69 (lv_at hl 1 rfl) ?_
      refine l_m_kt hx hb hK hP (xat_nI hn6 (by decide)) dX1_unseal_71 ?_
      refine lv_if_eq (tgt := 96) hx hb dX1_unseal_72 (by decide) (fun c72 => ?_) (fun c72 => ?_)
      · skip
        refine lv_iload hx hb dX1_unseal_96 (lv_at hl 0 rfl) ?_
        refine lv_istore (lv' := [(4, .int K), (5, .int (nI n)), (0, .ref (ad 0)), (1, .int q), (2, .int a), (3, .int ((6 : Int32) * a))]) hx hb dX1_unseal_98 hl (by decide) rfl (fun ls hl => ?_)
        refine lv_iinc (v := (nI n - 1)) (lv' := [(5, .int (nI n - 1)), (4, .int K), (0, .ref (ad 0)), (1, .int q), (2, .int a), (3, .int ((6 : Int32) * a))]) hx hb dX1_unseal_100 hl (k := 1) rfl (xdec (nI n)) (by decide) rfl (fun ls hl => ?_)
        refine lv_goto (tgt := 60) hx hb dX1_unseal_103 (by decide) ?_
        exact ih K _ _ ro hd ls (by omega) (by have e := he; unfold mfin at e; rw [if_pos c72] at e; exact e) hP hD hS (lv_sub hl [1, 0, 2, 3, 4, 5] rfl)
      · skip
        refine lv_aload_n hx hb dX1_unseal_75 rfl (lv_at hl 2 rfl) ?_
        refine lv_iload hx hb dX1_unseal_76 (lv_at hl 1 rfl) ?_
        refine xcall_l (va_runV (As := [.int (nI n)]) (rest := []) ⟨hx, hb, hml, hown, hts⟩ (c_X1_nameOf l dC dI ad cL cZ cI S ro hd H.size (nI n) (vp_in_nI hn6 (by decide)) ) (cwV 1 hts gX1_unseal_X1_nameOf rfl rfl rfl (by decide +kernel) ⟨Nat.le_of_ble_eq_true rfl, Nat.le_of_ble_eq_true rfl⟩) (xpV_w [.int (nI n)] hK hP hD (va_recv hK hP (ci := 1) (q0 := 0) rfl rfl)) rfl rfl hl.1 rfl (lv_room (Nat.le_of_ble_eq_true rfl)) dX1_unseal_78 ⟨Nat.le_of_ble_eq_true rfl, Nat.le_of_ble_eq_true rfl⟩) hD hS hA (fun r u H locs hw hP hD hS => ?_)
        obtain ⟨u1, rw1, hd1⟩ := u
        obtain ⟨rfl, hu1⟩ := hw
        change u1 = S at hu1
        change va_P _ vwCl (wM ad cL cZ cI u1 rw1 hd1) _ at hP
        change va_D _ (wM ad cL cZ cI u1 rw1 hd1) at hD
        rw [hu1] at hP hD
        refine lv_aload_n hx hb dX1_unseal_81 rfl (lv_at hl 2 rfl) ?_
        refine g_m_abw hx hb hts hin hown hK hP (hts (.fieldLink RX1 36 RX1 "blobWord" "[J") (by decide +kernel)) dX1_unseal_82 ?_
        refine lv_iload_n hx hb dX1_unseal_85 rfl (lv_at hl 5 rfl) ?_
        refine l_m_bw hx hb hK hP (xat60 ha) dX1_unseal_86 ?_
        refine W.lcmp hx hb dX1_unseal_87 ?_
        refine lv_if_ne (tgt := 96) hx hb dX1_unseal_88 (by decide) (fun c88 => ?_) (fun c88 => ?_)
        · skip
          refine lv_iload hx hb dX1_unseal_96 (lv_at hl 0 rfl) ?_
          refine lv_istore (lv' := [(4, .int K), (5, .int (nI n)), (0, .ref (ad 0)), (1, .int q), (2, .int a), (3, .int ((6 : Int32) * a))]) hx hb dX1_unseal_98 hl (by decide) rfl (fun ls hl => ?_)
          refine lv_iinc (v := (nI n - 1)) (lv' := [(5, .int (nI n - 1)), (4, .int K), (0, .ref (ad 0)), (1, .int q), (2, .int a), (3, .int ((6 : Int32) * a))]) hx hb dX1_unseal_100 hl (k := 1) rfl (xdec (nI n)) (by decide) rfl (fun ls hl => ?_)
          refine lv_goto (tgt := 60) hx hb dX1_unseal_103 (by decide) ?_
          exact ih K _ _ rw1 hd1 ls (by omega) (by have e := he; unfold mfin at e; rw [if_neg c72, if_neg c88] at e; exact e) hP hD hS (lv_sub hl [1, 0, 2, 3, 4, 5] rfl)
        · skip
          refine lv_iload hx hb dX1_unseal_91 (lv_at hl 1 rfl) ?_
          refine lv_goto (tgt := 98) hx hb dX1_unseal_93 (by decide) ?_
          refine lv_istore (lv' := [(4, .int (nI n)), (5, .int (nI n)), (0, .ref (ad 0)), (1, .int q), (2, .int a), (3, .int ((6 : Int32) * a))]) hx hb dX1_unseal_98 hl (by decide) rfl (fun ls hl => ?_)
          refine lv_iinc (v := (nI n - 1)) (lv' := [(5, .int (nI n - 1)), (4, .int (nI n)), (0, .ref (ad 0)), (1, .int q), (2, .int a), (3, .int ((6 : Int32) * a))]) hx hb dX1_unseal_100 hl (k := 1) rfl (xdec (nI n)) (by decide) rfl (fun ls hl => ?_)
          refine lv_goto (tgt := 60) hx hb dX1_unseal_103 (by decide) ?_
          exact ih (nI n) _ _ rw1 hd1 ls (by omega) (by have e := he; unfold mfin at e; rw [if_neg c72, if_pos c88] at e; exact e) hP hD hS (lv_sub hl [1, 0, 2, 3, 4, 5] rfl)
set_option maxHeartbeats 4000000 in
set_option maxRecDepth 100000 in
theorem c_X1_unseal (l : Launch) (dC : Nat → ClassId) (dI : Nat → Nat → Nat) (ad : Nat → Nat) (cL cZ cI : ClassId) (S : SM) (ro hd : Nat → Int64) (sz : Nat) (q : Int32) (a : Int32) (hB : okB (m_bc S)) (hd9 : okD (m_dn S)) : Met l yX1_unseal wsX1_unseal ({ frames := 5, cells := 0, slots := 0, locals := 126 }) (va_Pc [.ref (ad 0), .int q, .int a] (fun U => U.heap.size = sz ∧ va_P (dC, dI) vwCl (wM ad cL cZ cI S ro hd) U.heap ∧ va_K (dC, dI) vwCl (tyM cL cZ cI) U ∧ va_D (fun _ => True) (wM ad cL cZ cI S ro hd))) (va_Qi (fun r (u : SMr) => r = (M_unseal S q a).1 ∧ u.1 = (M_unseal S q a).2) (xB (dC, dI) (wMr ad cL cZ cI) (tyM cL cZ cI) (va_A (wM ad cL cZ cI S ro hd) sz)) (va_A (wM ad cL cZ cI S ro hd) sz)) 0 0 (va_A (wM ad cL cZ cI S ro hd) sz) := by
  refine Met.ofW (cc := cX1_unseal) (maxL := 7) (ret := (some .int)) (by decide) rfl ?_
  intro p e s m args below meth c s₁ B hml hv
  obtain ⟨rfl, hsz, hP, hK, hD0⟩ := hv
  have hx := B.exec
  have hb := B.bytes
  have hr := B.returns
  have hts := atoms_spec (ws := wsX1_unseal) B.pre
  have hown : s.vm.findClass RX1 = some m.cls := findClass_of_methodNamed B.named
  have hlocks := B.notSynchronized
  have hin : ∀ w ∈ wsX10, w ∈ wsX1_unseal := fun _ h => List.mem_cons_of_mem _ (List.mem_append_right _ h)
  subst hsz
  have hD := hD0.self (sz := s.heap.size)
  generalize hAe : va_A (wM ad cL cZ cI S ro hd) s.heap.size = A at hD ⊢
  have hA : ∀ q : Nat, s.heap.size ≤ q → A q := fun q h => by rw [← hAe]; exact Or.inr h
  have hS : va_S A s.heap s.heap [] := va_S.rf
  have hl := lv_entry ([.ref (ad 0), .int q, .int a]) (n := 7) (Nat.le_of_ble_eq_true rfl)
  rw [lg_entry_eq]
  generalize (lg_sl ([.ref (ad 0), .int q, .int a]) ++ List.replicate (7 - (lg_sl ([.ref (ad 0), .int q, .int a])).length) Slot.unset).toArray = ls at hl ⊢
  have hl : lv_has ls 7 [(0, .ref (ad 0)), (1, .int q), (2, .int a)] := hl
  refine lv_aload_n hx hb dX1_unseal_0 rfl (lv_at hl 0 rfl) ?_
  refine lv_iload_n hx hb dX1_unseal_1 rfl (lv_at hl 1 rfl) ?_
  refine vp_callSi (va_Run.run (va_runV (As := [.int q]) (rest := []) ⟨hx, hb, hml, hown, hts⟩ (c_X1_hasSession l dC dI ad cL cZ cI S ro hd q ) (cwV 1 hts gX1_unseal_X1_hasSession rfl rfl rfl (by decide +kernel) ⟨Nat.le_of_ble_eq_true rfl, Nat.le_of_ble_eq_true rfl⟩) (xpV_r [.int q] hK hP (va_recv hK hP (ci := 1) (q0 := 0) rfl rfl)) rfl rfl hl.1 rfl (lv_room (Nat.le_of_ble_eq_true rfl)) dX1_unseal_2 ⟨Nat.le_of_ble_eq_true rfl, Nat.le_of_ble_eq_true rfl⟩)) (fun r hr9 => ?_)
  subst hr9
  refine lv_if_eq (tgt := 16) hx hb dX1_unseal_5 (by decide) (fun c5 => ?_) (fun c5 => ?_)
  · skip
    refine lv_iconst (v := -1) hx hb dX1_unseal_16 (by decide) ?_
    exact W.iret (v := (-1 : Int32)) hx hb hr (fun t ht hW => ⟨⟨_, (S, ro, hd), rfl, ⟨(by unfold M_unseal M_unsealP; simp only [if_pos c5] <;> rfl), (by unfold M_unseal M_unsealP; simp only [if_pos c5] <;> rfl)⟩, by rw [ht]; exact hP, va_K.moved hW.alike hK, hD⟩, hS.F ht⟩) hS.2.2 dX1_unseal_17
  · skip
    have hq := M_hasSession_in c5
    refine lv_aload_n hx hb dX1_unseal_8 rfl (lv_at hl 0 rfl) ?_
    refine lv_iload_n hx hb dX1_unseal_9 rfl (lv_at hl 2 rfl) ?_
    refine vp_callSi (va_Run.run (va_runV (As := [.int a]) (rest := []) ⟨hx, hb, hml, hown, hts⟩ (c_X1_hasBlob l dC dI ad cL cZ cI S ro hd a ) (cwV 1 hts gX1_unseal_X1_hasBlob rfl rfl rfl (by decide +kernel) ⟨Nat.le_of_ble_eq_true rfl, Nat.le_of_ble_eq_true rfl⟩) (xpV_r [.int a] hK hP (va_recv hK hP (ci := 1) (q0 := 0) rfl rfl)) rfl rfl hl.1 rfl (lv_room (Nat.le_of_ble_eq_true rfl)) dX1_unseal_10 ⟨Nat.le_of_ble_eq_true rfl, Nat.le_of_ble_eq_true rfl⟩)) (fun r hr9 => ?_)
    subst hr9
    refine lv_if_ne (tgt := 18) hx hb dX1_unseal_13 (by decide) (fun c13 => ?_) (fun c13 => ?_)
    · skip
      have ha := M_hasBlob_in hB c13
      refine lv_aload_n hx hb dX1_unseal_18 rfl (lv_at hl 0 rfl) ?_
      refine g_m_fa hx hb hts hin hown hK hP (hts (.fieldLink RX1 120 RX1 "failures" "I") (by decide +kernel)) dX1_unseal_19 ?_
      refine lv_iconst (v := 3) hx hb dX1_unseal_22 (by decide) ?_
      refine lv_icmp_lt (tgt := 29) hx hb dX1_unseal_23 (by decide) (fun c23 => ?_) (fun c23 => ?_)
      · skip
        refine lv_bipush (v := 6) hx hb dX1_unseal_29 (by decide) ?_
        refine lv_iload_n hx hb dX1_unseal_31 rfl (lv_at hl 2 rfl) ?_
        refine lv_imul hx hb dX1_unseal_32 ?_
        refine lv_istore_n (lv' := [(3, .int ((6 : Int32) * a)), (0, .ref (ad 0)), (1, .int q), (2, .int a)]) hx hb dX1_unseal_33 rfl hl (by decide) rfl (fun ls hl => ?_)
        refine lv_aload_n hx hb dX1_unseal_34 rfl (lv_at hl 1 rfl) ?_
        refine g_m_abw hx hb hts hin hown hK hP (hts (.fieldLink RX1 36 RX1 "blobWord" "[J") (by decide +kernel)) dX1_unseal_35 ?_
        refine lv_iload_n hx hb dX1_unseal_38 rfl (lv_at hl 0 rfl) ?_
        refine lv_iconst (v := 5) hx hb dX1_unseal_39 (by decide) ?_
        refine lv_iadd hx hb dX1_unseal_40 ?_
        refine l_m_bw hx hb hK hP (xat6 ha (xat_nI (by decide) (by decide))) dX1_unseal_41 ?_
        refine lv_aload_n hx hb dX1_unseal_42 rfl (lv_at hl 1 rfl) ?_
        refine lv_iload_n hx hb dX1_unseal_43 rfl (lv_at hl 3 rfl) ?_
        refine xcall_l (va_runV (As := [.int a]) (rest := [.long (m_bw S (6 * a.toNatClampNeg + 5))]) ⟨hx, hb, hml, hown, hts⟩ (c_X1_sealOf l dC dI ad cL cZ cI S ro hd s.heap.size a ha ) (cwV 1 hts gX1_unseal_X1_sealOf rfl rfl rfl (by decide +kernel) ⟨Nat.le_of_ble_eq_true rfl, Nat.le_of_ble_eq_true rfl⟩) (xpV_w [.int a] hK hP hD (va_recv hK hP (ci := 1) (q0 := 0) rfl rfl)) rfl rfl hl.1 rfl (lv_room (Nat.le_of_ble_eq_true rfl)) dX1_unseal_44 ⟨Nat.le_of_ble_eq_true rfl, Nat.le_of_ble_eq_true rfl⟩) hD hS hA (fun r u H locs hw hP hD hS => ?_)
        obtain ⟨u1, rw1, hd1⟩ := u
        obtain ⟨rfl, hu1⟩ := hw
        change u1 = S at hu1
        change va_P _ vwCl (wM ad cL cZ cI u1 rw1 hd1) _ at hP
        change va_D _ (wM ad cL cZ cI u1 rw1 hd1) at hD
        rw [hu1] at hP hD
        refine W.lcmp hx hb dX1_unseal_47 ?_
        refine lv_if_eq (tgt := 54) hx hb dX1_unseal_48 (by decide) (fun c48 => ?_) (fun c48 => ?_)
        · skip
          refine lv_iconst (v := -1) hx hb dX1_unseal_54 (by decide) ?_
          refine lv_istore (lv' := [(4, .int (-1 : Int32)), (3, .int ((6 : Int32) * a)), (0, .ref (ad 0)), (1, .int q), (2, .int a)]) hx hb dX1_unseal_55 hl (by decide) rfl (fun ls hl => ?_)
          refine lv_iconst (v := 5) hx hb dX1_unseal_57 (by decide) ?_
          refine lv_istore (lv' := [(5, .int (5 : Int32)), (4, .int (-1 : Int32)), (3, .int ((6 : Int32) * a)), (0, .ref (ad 0)), (1, .int q), (2, .int a)]) hx hb dX1_unseal_58 hl (by decide) rfl (fun ls hl => ?_)
          have hl : lv_has ls 7 [(4, .int (-1)), (5, .int (nI 6 - 1)), (0, .ref (ad 0)), (1, .int q), (2, .int a), (3, .int ((6 : Int32) * a))] := by
            rw [show nI 6 - 1 = (5 : Int32) from by decide]
            exact lv_sub hl [1, 0, 3, 4, 5, 2] rfl
          refine lp_X1_unseal_60 (S := S) (ro := rw1) (hd := hd1) q a ha hx hb hml hown hts hK hA (fun H locs ro hd ls hP hD hS hl => ?_) 6 (-1) _ _ rw1 hd1 ls (by decide) rfl hP hD hS hl
          have hl : lv_has ls 7 [(4, .int (M_unsealK S a)), (0, .ref (ad 0)), (1, .int q), (2, .int a), (3, .int ((6 : Int32) * a))] := hl
          refine lv_iload hx hb dX1_unseal_106 (lv_at hl 0 rfl) ?_
          refine lv_if_ge (tgt := 114) hx hb dX1_unseal_108 (by decide) (fun c108 => ?_) (fun c108 => ?_)
          · skip
            have hk := M_unsealK_in c108
            refine lv_aload_n hx hb dX1_unseal_114 rfl (lv_at hl 1 rfl) ?_
            refine lv_iload_n hx hb dX1_unseal_115 rfl (lv_at hl 2 rfl) ?_
            refine lv_iload hx hb dX1_unseal_116 (lv_at hl 0 rfl) ?_
            refine lv_iconst (v := 2) hx hb dX1_unseal_118 (by decide) ?_
            refine lv_aload_n hx hb dX1_unseal_119 rfl (lv_at hl 1 rfl) ?_
            refine g_m_abw hx hb hts hin hown hK hP (hts (.fieldLink RX1 36 RX1 "blobWord" "[J") (by decide +kernel)) dX1_unseal_120 ?_
            refine lv_iload_n hx hb dX1_unseal_123 rfl (lv_at hl 4 rfl) ?_
            refine lv_iconst (v := 5) hx hb dX1_unseal_124 (by decide) ?_
            refine lv_iadd hx hb dX1_unseal_125 ?_
            refine l_m_bw hx hb hK hP (xat6 ha (xat_nI (by decide) (by decide))) dX1_unseal_126 ?_
            refine xcall_i (va_runV (As := [.int q, .int (M_unsealK S a), .int (2 : Int32), .long (m_bw S (6 * a.toNatClampNeg + 5))]) (rest := []) ⟨hx, hb, hml, hown, hts⟩ (c_X1_proved l dC dI ad cL cZ cI S ro hd H.size q (M_unsealK S a) (2 : Int32) (m_bw S (6 * a.toNatClampNeg + 5)) hq hk ) (cwV 4 hts gX1_unseal_X1_proved rfl rfl rfl (by decide +kernel) ⟨Nat.le_of_ble_eq_true rfl, Nat.le_of_ble_eq_true rfl⟩) (xpV_w [.int q, .int (M_unsealK S a), .int (2 : Int32), .long (m_bw S (6 * a.toNatClampNeg + 5))] hK hP hD (va_recv hK hP (ci := 1) (q0 := 0) rfl rfl)) rfl rfl hl.1 rfl (lv_room (Nat.le_of_ble_eq_true rfl)) dX1_unseal_127 ⟨Nat.le_of_ble_eq_true rfl, Nat.le_of_ble_eq_true rfl⟩) hD hS hA (fun r u H locs hw hP hD hS => ?_)
            obtain ⟨u2, rw2, hd2⟩ := u
            obtain ⟨rfl, hu2⟩ := hw
            change u2 = (M_proved S q (M_unsealK S a) (2 : Int32) (m_bw S (6 * a.toNatClampNeg + 5))).2 at hu2
            change va_P _ vwCl (wM ad cL cZ cI u2 rw2 hd2) _ at hP
            change va_D _ (wM ad cL cZ cI u2 rw2 hd2) at hD
            rw [hu2] at hP hD
            refine lv_if_ne (tgt := 136) hx hb dX1_unseal_130 (by decide) (fun c130 => ?_) (fun c130 => ?_)
            · skip
              refine lv_aload_n hx hb dX1_unseal_136 rfl (lv_at hl 1 rfl) ?_
              refine g_m_abw hx hb hts hin hown hK hP (hts (.fieldLink RX1 36 RX1 "blobWord" "[J") (by decide +kernel)) dX1_unseal_137 ?_
              refine lv_iload_n hx hb dX1_unseal_140 rfl (lv_at hl 4 rfl) ?_
              refine lv_iconst (v := 1) hx hb dX1_unseal_141 (by decide) ?_
              refine lv_iadd hx hb dX1_unseal_142 ?_
              refine l_m_bw hx hb hK hP (xat6 ha (xat_nI (by decide) (by decide))) dX1_unseal_143 ?_
              refine lv_lstore (lv' := [(5, .long (m_bw ((M_proved S q (M_unsealK S a) (2 : Int32) (m_bw S (6 * a.toNatClampNeg + 5))).2) (6 * a.toNatClampNeg + 1))), (4, .int (M_unsealK S a)), (0, .ref (ad 0)), (1, .int q), (2, .int a), (3, .int ((6 : Int32) * a))]) hx hb dX1_unseal_144 hl (by decide) rfl (fun ls hl => ?_)
              refine lv_lload hx hb dX1_unseal_146 (lv_at hl 0 rfl) ?_
              refine vp_callSi (va_Run.run (va_runS (As := [.long (m_bw ((M_proved S q (M_unsealK S a) (2 : Int32) (m_bw S (6 * a.toNatClampNeg + 5))).2) (6 * a.toNatClampNeg + 1))]) (rest := []) ⟨hx, hb, hml, hown, hts⟩ (c_X1_isMask l (m_bw ((M_proved S q (M_unsealK S a) (2 : Int32) (m_bw S (6 * a.toNatClampNeg + 5))).2) (6 * a.toNatClampNeg + 1)) ) (va_cwS 1 hts gX1_unseal_X1_isMask rfl rfl rfl (by decide +kernel) ⟨Nat.le_of_ble_eq_true rfl, Nat.le_of_ble_eq_true rfl⟩) (xpS_n _) rfl rfl hl.1 rfl (lv_room (Nat.le_of_ble_eq_true rfl)) dX1_unseal_148 ⟨Nat.le_of_ble_eq_true rfl, Nat.le_of_ble_eq_true rfl⟩)) (fun r hr9 => ?_)
              subst hr9
              refine lv_if_eq (tgt := 173) hx hb dX1_unseal_151 (by decide) (fun c151 => ?_) (fun c151 => ?_)
              · skip
                refine lv_aload_n hx hb dX1_unseal_173 rfl (lv_at hl 2 rfl) ?_
                refine lv_lconst (v := 0) hx hb dX1_unseal_174 (by decide) ?_
                refine p_m_ou hx hb hts hin hown hK hP hD hS (hts (.fieldLink RX1 123 RX1 "output" "J") (by decide +kernel)) dX1_unseal_175 (fun H locs hP hD hS => ?_)
                refine lv_bipush (v := -7) hx hb dX1_unseal_178 (by decide) ?_
                exact W.iret (v := (-7 : Int32)) hx hb hr (fun t ht hW => ⟨⟨_, ((mu_ou ((M_proved S q (M_unsealK S a) (2 : Int32) (m_bw S (6 * a.toNatClampNeg + 5))).2) (0 : Int64)), rw2, hd2), rfl, ⟨(by unfold M_unseal M_unsealP; simp only [if_neg c5, if_neg c13, if_pos c23, if_pos c48, if_pos c108, if_neg c130, if_pos c151] <;> rfl), (by unfold M_unseal M_unsealP; simp only [if_neg c5, if_neg c13, if_pos c23, if_pos c48, if_pos c108, if_neg c130, if_pos c151] <;> rfl)⟩, by rw [ht]; exact hP, va_K.moved hW.alike hK, hD⟩, hS.F ht⟩) hS.2.2 dX1_unseal_180
              · skip
                refine lv_aload_n hx hb dX1_unseal_154 rfl (lv_at hl 2 rfl) ?_
                refine lv_lload hx hb dX1_unseal_155 (lv_at hl 0 rfl) ?_
                refine lv_l2i hx hb dX1_unseal_157 rfl ?_
                refine xcall_l (va_runV (As := [.int ((m_bw ((M_proved S q (M_unsealK S a) (2 : Int32) (m_bw S (6 * a.toNatClampNeg + 5))).2) (6 * a.toNatClampNeg + 1)).toInt32)]) (rest := []) ⟨hx, hb, hml, hown, hts⟩ (c_X1_digestOf l dC dI ad cL cZ cI ((M_proved S q (M_unsealK S a) (2 : Int32) (m_bw S (6 * a.toNatClampNeg + 5))).2) rw2 hd2 H.size ((m_bw ((M_proved S q (M_unsealK S a) (2 : Int32) (m_bw S (6 * a.toNatClampNeg + 5))).2) (6 * a.toNatClampNeg + 1)).toInt32) (M_pass_D hd9) ) (cwV 1 hts gX1_unseal_X1_digestOf rfl rfl rfl (by decide +kernel) ⟨Nat.le_of_ble_eq_true rfl, Nat.le_of_ble_eq_true rfl⟩) (xpV_w [.int ((m_bw ((M_proved S q (M_unsealK S a) (2 : Int32) (m_bw S (6 * a.toNatClampNeg + 5))).2) (6 * a.toNatClampNeg + 1)).toInt32)] hK hP hD (va_recv hK hP (ci := 1) (q0 := 0) rfl rfl)) rfl rfl hl.1 rfl (lv_room (Nat.le_of_ble_eq_true rfl)) dX1_unseal_158 ⟨Nat.le_of_ble_eq_true rfl, Nat.le_of_ble_eq_true rfl⟩) hD hS hA (fun r u H locs hw hP hD hS => ?_)
                obtain ⟨u3, rw3, hd3⟩ := u
                obtain ⟨rfl, hu3⟩ := hw
                change u3 = (M_proved S q (M_unsealK S a) (2 : Int32) (m_bw S (6 * a.toNatClampNeg + 5))).2 at hu3
                change va_P _ vwCl (wM ad cL cZ cI u3 rw3 hd3) _ at hP
                change va_D _ (wM ad cL cZ cI u3 rw3 hd3) at hD
                rw [hu3] at hP hD
                refine lv_aload_n hx hb dX1_unseal_161 rfl (lv_at hl 2 rfl) ?_
                refine g_m_abw hx hb hts hin hown hK hP (hts (.fieldLink RX1 36 RX1 "blobWord" "[J") (by decide +kernel)) dX1_unseal_162 ?_
                refine lv_iload_n hx hb dX1_unseal_165 rfl (lv_at hl 5 rfl) ?_
                refine lv_iconst (v := 2) hx hb dX1_unseal_166 (by decide) ?_
                refine lv_iadd hx hb dX1_unseal_167 ?_
                refine l_m_bw hx hb hK hP (xat6 ha (xat_nI (by decide) (by decide))) dX1_unseal_168 ?_
                refine W.lcmp hx hb dX1_unseal_169 ?_
                refine lv_if_eq (tgt := 181) hx hb dX1_unseal_170 (by decide) (fun c170 => ?_) (fun c170 => ?_)
                · skip
                  refine lv_aload_n hx hb dX1_unseal_181 rfl (lv_at hl 2 rfl) ?_
                  refine lv_aload_n hx hb dX1_unseal_182 rfl (lv_at hl 2 rfl) ?_
                  refine g_m_abw hx hb hts hin hown hK hP (hts (.fieldLink RX1 36 RX1 "blobWord" "[J") (by decide +kernel)) dX1_unseal_183 ?_
                  refine lv_iload_n hx hb dX1_unseal_186 rfl (lv_at hl 5 rfl) ?_
                  refine lv_iconst (v := 4) hx hb dX1_unseal_187 (by decide) ?_
                  refine lv_iadd hx hb dX1_unseal_188 ?_
                  refine l_m_bw hx hb hK hP (xat6 ha (xat_nI (by decide) (by decide))) dX1_unseal_189 ?_
                  refine lv_aload_n hx hb dX1_unseal_190 rfl (lv_at hl 2 rfl) ?_
                  refine lv_aload_n hx hb dX1_unseal_191 rfl (lv_at hl 2 rfl) ?_
                  refine g_m_abw hx hb hts hin hown hK hP (hts (.fieldLink RX1 36 RX1 "blobWord" "[J") (by decide +kernel)) dX1_unseal_192 ?_
                  refine lv_iload_n hx hb dX1_unseal_195 rfl (lv_at hl 5 rfl) ?_
                  refine lv_iconst (v := 3) hx hb dX1_unseal_196 (by decide) ?_
                  refine lv_iadd hx hb dX1_unseal_197 ?_
                  refine l_m_bw hx hb hK hP (xat6 ha (xat_nI (by decide) (by decide))) dX1_unseal_198 ?_
                  refine lv_aload_n hx hb dX1_unseal_199 rfl (lv_at hl 2 rfl) ?_
                  refine g_m_abw hx hb hts hin hown hK hP (hts (.fieldLink RX1 36 RX1 "blobWord" "[J") (by decide +kernel)) dX1_unseal_200 ?_
                  refine lv_iload_n hx hb dX1_unseal_203 rfl (lv_at hl 5 rfl) ?_
                  refine lv_iconst (v := 2) hx hb dX1_unseal_204 (by decide) ?_
                  refine lv_iadd hx hb dX1_unseal_205 ?_
                  refine l_m_bw hx hb hK hP (xat6 ha (xat_nI (by decide) (by decide))) dX1_unseal_206 ?_
                  refine xcall_l (va_runV (As := [.long (m_bw ((M_proved S q (M_unsealK S a) (2 : Int32) (m_bw S (6 * a.toNatClampNeg + 5))).2) (6 * a.toNatClampNeg + 3)), .long (m_bw ((M_proved S q (M_unsealK S a) (2 : Int32) (m_bw S (6 * a.toNatClampNeg + 5))).2) (6 * a.toNatClampNeg + 2))]) (rest := [.long (m_bw ((M_proved S q (M_unsealK S a) (2 : Int32) (m_bw S (6 * a.toNatClampNeg + 5))).2) (6 * a.toNatClampNeg + 4)), .ref (ad 0)]) ⟨hx, hb, hml, hown, hts⟩ (c_X1_veil l dC dI ad cL cZ cI ((M_proved S q (M_unsealK S a) (2 : Int32) (m_bw S (6 * a.toNatClampNeg + 5))).2) rw3 hd3 H.size (m_bw ((M_proved S q (M_unsealK S a) (2 : Int32) (m_bw S (6 * a.toNatClampNeg + 5))).2) (6 * a.toNatClampNeg + 3)) (m_bw ((M_proved S q (M_unsealK S a) (2 : Int32) (m_bw S (6 * a.toNatClampNeg + 5))).2) (6 * a.toNatClampNeg + 2)) ) (cwV 2 hts gX1_unseal_X1_veil rfl rfl rfl (by decide +kernel) ⟨Nat.le_of_ble_eq_true rfl, Nat.le_of_ble_eq_true rfl⟩) (xpV_w [.long (m_bw ((M_proved S q (M_unsealK S a) (2 : Int32) (m_bw S (6 * a.toNatClampNeg + 5))).2) (6 * a.toNatClampNeg + 3)), .long (m_bw ((M_proved S q (M_unsealK S a) (2 : Int32) (m_bw S (6 * a.toNatClampNeg + 5))).2) (6 * a.toNatClampNeg + 2))] hK hP hD (va_recv hK hP (ci := 1) (q0 := 0) rfl rfl)) rfl rfl hl.1 rfl (lv_room (Nat.le_of_ble_eq_true rfl)) dX1_unseal_207 ⟨Nat.le_of_ble_eq_true rfl, Nat.le_of_ble_eq_true rfl⟩) hD hS hA (fun r u H locs hw hP hD hS => ?_)
                  obtain ⟨u4, rw4, hd4⟩ := u
                  obtain ⟨rfl, hu4⟩ := hw
                  change u4 = (M_proved S q (M_unsealK S a) (2 : Int32) (m_bw S (6 * a.toNatClampNeg + 5))).2 at hu4
                  change va_P _ vwCl (wM ad cL cZ cI u4 rw4 hd4) _ at hP
                  change va_D _ (wM ad cL cZ cI u4 rw4 hd4) at hD
                  rw [hu4] at hP hD
                  refine lv_lxor hx hb dX1_unseal_210 ?_
                  refine p_m_ou hx hb hts hin hown hK hP hD hS (hts (.fieldLink RX1 123 RX1 "output" "J") (by decide +kernel)) dX1_unseal_211 (fun H locs hP hD hS => ?_)
                  refine lv_iconst (v := 0) hx hb dX1_unseal_214 (by decide) ?_
                  exact W.iret (v := (0 : Int32)) hx hb hr (fun t ht hW => ⟨⟨_, ((mu_ou ((M_proved S q (M_unsealK S a) (2 : Int32) (m_bw S (6 * a.toNatClampNeg + 5))).2) ((m_bw ((M_proved S q (M_unsealK S a) (2 : Int32) (m_bw S (6 * a.toNatClampNeg + 5))).2) (6 * a.toNatClampNeg + 4)) ^^^ (M_veil ((M_proved S q (M_unsealK S a) (2 : Int32) (m_bw S (6 * a.toNatClampNeg + 5))).2) (m_bw ((M_proved S q (M_unsealK S a) (2 : Int32) (m_bw S (6 * a.toNatClampNeg + 5))).2) (6 * a.toNatClampNeg + 3)) (m_bw ((M_proved S q (M_unsealK S a) (2 : Int32) (m_bw S (6 * a.toNatClampNeg + 5))).2) (6 * a.toNatClampNeg + 2))))), rw4, hd4), rfl, ⟨(by unfold M_unseal M_unsealP; simp only [if_neg c5, if_neg c13, if_pos c23, if_pos c48, if_pos c108, if_neg c130, if_neg c151, if_pos c170] <;> rfl), (by unfold M_unseal M_unsealP; simp only [if_neg c5, if_neg c13, if_pos c23, if_pos c48, if_pos c108, if_neg c130, if_neg c151, if_pos c170] <;> rfl)⟩, by rw [ht]; exact hP, va_K.moved hW.alike hK, hD⟩, hS.F ht⟩) hS.2.2 dX1_unseal_215
                · skip
                  refine lv_aload_n hx hb dX1_unseal_173 rfl (lv_at hl 2 rfl) ?_
                  refine lv_lconst (v := 0) hx hb dX1_unseal_174 (by decide) ?_
                  refine p_m_ou hx hb hts hin hown hK hP hD hS (hts (.fieldLink RX1 123 RX1 "output" "J") (by decide +kernel)) dX1_unseal_175 (fun H locs hP hD hS => ?_)
                  refine lv_bipush (v := -7) hx hb dX1_unseal_178 (by decide) ?_
                  exact W.iret (v := (-7 : Int32)) hx hb hr (fun t ht hW => ⟨⟨_, ((mu_ou ((M_proved S q (M_unsealK S a) (2 : Int32) (m_bw S (6 * a.toNatClampNeg + 5))).2) (0 : Int64)), rw3, hd3), rfl, ⟨(by unfold M_unseal M_unsealP; simp only [if_neg c5, if_neg c13, if_pos c23, if_pos c48, if_pos c108, if_neg c130, if_neg c151, if_neg c170] <;> rfl), (by unfold M_unseal M_unsealP; simp only [if_neg c5, if_neg c13, if_pos c23, if_pos c48, if_pos c108, if_neg c130, if_neg c151, if_neg c170] <;> rfl)⟩, by rw [ht]; exact hP, va_K.moved hW.alike hK, hD⟩, hS.F ht⟩) hS.2.2 dX1_unseal_180
            · skip
              refine lv_bipush (v := -6) hx hb dX1_unseal_133 (by decide) ?_
              exact W.iret (v := (-6 : Int32)) hx hb hr (fun t ht hW => ⟨⟨_, ((M_proved S q (M_unsealK S a) (2 : Int32) (m_bw S (6 * a.toNatClampNeg + 5))).2, rw2, hd2), rfl, ⟨(by unfold M_unseal M_unsealP; simp only [if_neg c5, if_neg c13, if_pos c23, if_pos c48, if_pos c108, if_pos c130] <;> rfl), (by unfold M_unseal M_unsealP; simp only [if_neg c5, if_neg c13, if_pos c23, if_pos c48, if_pos c108, if_pos c130] <;> rfl)⟩, by rw [ht]; exact hP, va_K.moved hW.alike hK, hD⟩, hS.F ht⟩) hS.2.2 dX1_unseal_135
          · skip
            refine lv_bipush (v := -4) hx hb dX1_unseal_111 (by decide) ?_
            exact W.iret (v := (-4 : Int32)) hx hb hr (fun t ht hW => ⟨⟨_, (S, ro, hd), rfl, ⟨(by unfold M_unseal M_unsealP; simp only [if_neg c5, if_neg c13, if_pos c23, if_pos c48, if_neg c108] <;> rfl), (by unfold M_unseal M_unsealP; simp only [if_neg c5, if_neg c13, if_pos c23, if_pos c48, if_neg c108] <;> rfl)⟩, by rw [ht]; exact hP, va_K.moved hW.alike hK, hD⟩, hS.F ht⟩) hS.2.2 dX1_unseal_113
        · skip
          refine lv_bipush (v := -3) hx hb dX1_unseal_51 (by decide) ?_
          exact W.iret (v := (-3 : Int32)) hx hb hr (fun t ht hW => ⟨⟨_, (S, rw1, hd1), rfl, ⟨(by unfold M_unseal M_unsealP; simp only [if_neg c5, if_neg c13, if_pos c23, if_neg c48] <;> rfl), (by unfold M_unseal M_unsealP; simp only [if_neg c5, if_neg c13, if_pos c23, if_neg c48] <;> rfl)⟩, by rw [ht]; exact hP, va_K.moved hW.alike hK, hD⟩, hS.F ht⟩) hS.2.2 dX1_unseal_53
      · skip
        refine lv_bipush (v := -2) hx hb dX1_unseal_26 (by decide) ?_
        exact W.iret (v := (-2 : Int32)) hx hb hr (fun t ht hW => ⟨⟨_, (S, ro, hd), rfl, ⟨(by unfold M_unseal M_unsealP; simp only [if_neg c5, if_neg c13, if_neg c23] <;> rfl), (by unfold M_unseal M_unsealP; simp only [if_neg c5, if_neg c13, if_neg c23] <;> rfl)⟩, by rw [ht]; exact hP, va_K.moved hW.alike hK, hD⟩, hS.F ht⟩) hS.2.2 dX1_unseal_28
    · skip
      refine lv_iconst (v := -1) hx hb dX1_unseal_16 (by decide) ?_
      exact W.iret (v := (-1 : Int32)) hx hb hr (fun t ht hW => ⟨⟨_, (S, ro, hd), rfl, ⟨(by unfold M_unseal M_unsealP; simp only [if_neg c5, if_pos c13] <;> rfl), (by unfold M_unseal M_unsealP; simp only [if_neg c5, if_pos c13] <;> rfl)⟩, by rw [ht]; exact hP, va_K.moved hW.alike hK, hD⟩, hS.F ht⟩) hS.2.2 dX1_unseal_17
