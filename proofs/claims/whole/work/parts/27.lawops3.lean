section LWO
variable {p : Program} {l : Launch} {e : Env} {s : State} {m : MethodId} {below : List Frame} {meth : Method} {c : Code} {b L : Nat} {xs : Nat → Int32}
variable {dC : Nat → ClassId} {dI : Nat → Nat → Nat} {ad : Nat → Nat} {cL cZ cO : ClassId} {ae : Nat → Nat} {dL dZ cI : ClassId}
variable {S : SX} {N : SM} {ro hd : Nat → Int64} {H : Heap} {locs : List Loc} {i t : Nat} {ls : Array Slot}
set_option maxHeartbeats 4000000 in
set_option maxRecDepth 100000 in
theorem law_op14 (C1 : lwC p s m meth c b L xs dC dI cL cZ cO dL dZ cI) (hi : i + 8 ≤ L) (ht : t < 512) (hsim : Sim S N t) (hI : lwI s dC dI ad cL cZ cO ae dL dZ cI S N ro hd H locs) (hl : lv_has ls 4 (lwL b ad ae i)) (kk : lwKK p l e s m below meth c b dC dI ad cL cZ cO ae dL dZ cI i t) : W p l e room_1 s m #[Value.ref b] below meth c H locs 600000 7302250 (lw_Z below #[Value.ref b] s) (F0 m 770 ls []) := by
  obtain ⟨C0, hL, hKx, hKm⟩ := C1
  obtain ⟨hx, hb, hr, hml, hown0, hts0, hX, hbl, hlocks, hgv⟩ := C0
  have hown : s.vm.findClass RL = some m.cls := hown0
  have hts : ∀ w ∈ wsL_law, w.before #[Value.ref b] s = true := fun w h => hts0 w (wsL_law_in w h)
  have hA : ∀ q : Nat, s.heap.size ≤ q → lwA s q := fun _ h => h
  have hbA : ¬ lwA s b := Nat.not_le.mpr hbl
  have hBx := hsim.okB.2
  have hBm := hsim.okB.1
  have hDn := hsim.okD (Nat.le_of_lt ht)
  have hRm := hsim.room ht
  obtain ⟨hPX, hPM, hD, hS⟩ := hI
  refine lv_aload_n hx hb dL_law_770 rfl (lv_at hl 1 rfl) ?_
  refine lv_aload_n hx hb dL_law_771 rfl (lv_at hl 0 rfl) ?_
  refine lv_iload_n hx hb dL_law_772 rfl (lv_at hl 3 rfl) ?_
  refine lv_iconst (v := 1) hx hb dL_law_773 (by decide) ?_
  refine lv_iadd hx hb dL_law_774 ?_
  refine xv_sld hx hb hX hbl hbA hS (xatI 1 (by omega) hL) dL_law_775 ?_
  refine lv_aload_n hx hb dL_law_776 rfl (lv_at hl 0 rfl) ?_
  refine lv_iload_n hx hb dL_law_777 rfl (lv_at hl 3 rfl) ?_
  refine lv_iconst (v := 2) hx hb dL_law_778 (by decide) ?_
  refine lv_iadd hx hb dL_law_779 ?_
  refine xv_sld hx hb hX hbl hbA hS (xatI 2 (by omega) hL) dL_law_780 ?_
  refine xcall2_i (va_runV (As := [.int (xs (i + 1)), .int (xs (i + 2))]) (rest := []) ⟨hx, hb, hml, hown, hts⟩ (c_X0_unseal l dC dI ad cL cZ cO S H.size (xs (i + 1)) (xs (i + 2)) hBx) (cwV 2 hts gL_law_X0_unseal rfl rfl rfl (by decide +kernel) ⟨Nat.le_of_ble_eq_true rfl, Nat.le_of_ble_eq_true rfl⟩) (xpV_w [.int (xs (i + 1)), .int (xs (i + 2))] hKx hPX (xD_left hD) (va_recv hKx hPX (ci := 0) (q0 := 0) rfl rfl)) rfl rfl hl.1 rfl (lv_room (Nat.le_of_ble_eq_true rfl)) dL_law_781 ⟨Nat.le_of_ble_eq_true rfl, Nat.le_of_ble_eq_true rfl⟩) hPM hD hS hA (fun r u H locs hw hPX hPM hD hS => ?_)
  obtain ⟨rfl, rfl⟩ := hw
  refine lv_aload_n hx hb dL_law_784 rfl (lv_at hl 2 rfl) ?_
  refine lv_aload_n hx hb dL_law_785 rfl (lv_at hl 0 rfl) ?_
  refine lv_iload_n hx hb dL_law_786 rfl (lv_at hl 3 rfl) ?_
  refine lv_iconst (v := 1) hx hb dL_law_787 (by decide) ?_
  refine lv_iadd hx hb dL_law_788 ?_
  refine xv_sld hx hb hX hbl hbA hS (xatI 1 (by omega) hL) dL_law_789 ?_
  refine lv_aload_n hx hb dL_law_790 rfl (lv_at hl 0 rfl) ?_
  refine lv_iload_n hx hb dL_law_791 rfl (lv_at hl 3 rfl) ?_
  refine lv_iconst (v := 2) hx hb dL_law_792 (by decide) ?_
  refine lv_iadd hx hb dL_law_793 ?_
  refine xv_sld hx hb hX hbl hbA hS (xatI 2 (by omega) hL) dL_law_794 ?_
  refine xcall2_i (va_runV (As := [.int (xs (i + 1)), .int (xs (i + 2))]) (rest := [.int ((X_unseal S (xs (i + 1)) (xs (i + 2))).1)]) ⟨hx, hb, hml, hown, hts⟩ (c_X1_unseal l dC dI ae dL dZ cI N ro hd H.size (xs (i + 1)) (xs (i + 2)) hBm hDn) (cwV 2 hts gL_law_X1_unseal rfl rfl rfl (by decide +kernel) ⟨Nat.le_of_ble_eq_true rfl, Nat.le_of_ble_eq_true rfl⟩) (xpV_w [.int (xs (i + 1)), .int (xs (i + 2))] hKm hPM (xD_left (xD_swap hD)) (va_recv hKm hPM (ci := 1) (q0 := 0) rfl rfl)) rfl rfl hl.1 rfl (lv_room (Nat.le_of_ble_eq_true rfl)) dL_law_795 ⟨Nat.le_of_ble_eq_true rfl, Nat.le_of_ble_eq_true rfl⟩) hPX (xD_swap hD) hS hA (fun r u H locs hw hPM hPX hD hS => ?_)
  obtain ⟨u1, ro1, hd1⟩ := u
  obtain ⟨rfl, hu⟩ := hw
  have hu : u1 = _ := hu
  change va_P _ vwCl (wM ae dL dZ cI u1 ro1 hd1) _ at hPM
  change va_D _ (wM ae dL dZ cI u1 ro1 hd1 ++ _) at hD
  rw [hu] at hPM hD
  have hD := xD_swap hD
  have hs := s_unseal hsim (xs (i + 1)) (xs (i + 2))
  refine lv_icmp_eq (tgt := 1031) hx hb dL_law_798 (by decide) (fun c9 => ?_) (fun c9 => ?_)
  · exact kk _ _ _ _ _ _ ls hs.2 ⟨hPX, hPM, hD, hS⟩ (lv_sub hl [0, 1, 2, 3] rfl)
  · exact absurd hs.1 c9
set_option maxHeartbeats 4000000 in
set_option maxRecDepth 100000 in
theorem law_op15 (C1 : lwC p s m meth c b L xs dC dI cL cZ cO dL dZ cI) (hi : i + 8 ≤ L) (ht : t < 512) (hsim : Sim S N t) (hI : lwI s dC dI ad cL cZ cO ae dL dZ cI S N ro hd H locs) (hl : lv_has ls 4 (lwL b ad ae i)) (kk : lwKK p l e s m below meth c b dC dI ad cL cZ cO ae dL dZ cI i t) : W p l e room_1 s m #[Value.ref b] below meth c H locs 600000 7302250 (lw_Z below #[Value.ref b] s) (F0 m 803 ls []) := by
  obtain ⟨C0, hL, hKx, hKm⟩ := C1
  obtain ⟨hx, hb, hr, hml, hown0, hts0, hX, hbl, hlocks, hgv⟩ := C0
  have hown : s.vm.findClass RL = some m.cls := hown0
  have hts : ∀ w ∈ wsL_law, w.before #[Value.ref b] s = true := fun w h => hts0 w (wsL_law_in w h)
  have hA : ∀ q : Nat, s.heap.size ≤ q → lwA s q := fun _ h => h
  have hbA : ¬ lwA s b := Nat.not_le.mpr hbl
  have hBx := hsim.okB.2
  have hBm := hsim.okB.1
  have hDn := hsim.okD (Nat.le_of_lt ht)
  have hRm := hsim.room ht
  obtain ⟨hPX, hPM, hD, hS⟩ := hI
  refine lv_aload_n hx hb dL_law_803 rfl (lv_at hl 1 rfl) ?_
  refine lv_aload_n hx hb dL_law_804 rfl (lv_at hl 0 rfl) ?_
  refine lv_iload_n hx hb dL_law_805 rfl (lv_at hl 3 rfl) ?_
  refine lv_iconst (v := 1) hx hb dL_law_806 (by decide) ?_
  refine lv_iadd hx hb dL_law_807 ?_
  refine xv_sld hx hb hX hbl hbA hS (xatI 1 (by omega) hL) dL_law_808 ?_
  refine lv_aload_n hx hb dL_law_809 rfl (lv_at hl 0 rfl) ?_
  refine lv_iload_n hx hb dL_law_810 rfl (lv_at hl 3 rfl) ?_
  refine lv_iconst (v := 2) hx hb dL_law_811 (by decide) ?_
  refine lv_iadd hx hb dL_law_812 ?_
  refine xv_sld hx hb hX hbl hbA hS (xatI 2 (by omega) hL) dL_law_813 ?_
  refine lv_aload_n hx hb dL_law_814 rfl (lv_at hl 0 rfl) ?_
  refine lv_iload_n hx hb dL_law_815 rfl (lv_at hl 3 rfl) ?_
  refine lv_iconst (v := 3) hx hb dL_law_816 (by decide) ?_
  refine lv_iadd hx hb dL_law_817 ?_
  refine xv_sld hx hb hX hbl hbA hS (xatI 3 (by omega) hL) dL_law_818 ?_
  refine lv_aload_n hx hb dL_law_819 rfl (lv_at hl 0 rfl) ?_
  refine lv_iload_n hx hb dL_law_820 rfl (lv_at hl 3 rfl) ?_
  refine lv_iconst (v := 4) hx hb dL_law_821 (by decide) ?_
  refine lv_iadd hx hb dL_law_822 ?_
  refine xv_sld hx hb hX hbl hbA hS (xatI 4 (by omega) hL) dL_law_823 ?_
  refine lv_i2l hx hb dL_law_824 rfl ?_
  refine lv_bipush (v := 32) hx hb dL_law_825 (by decide) ?_
  refine lv_lshl hx hb dL_law_827 rfl ?_
  refine lv_aload_n hx hb dL_law_828 rfl (lv_at hl 0 rfl) ?_
  refine lv_iload_n hx hb dL_law_829 rfl (lv_at hl 3 rfl) ?_
  refine lv_iconst (v := 5) hx hb dL_law_830 (by decide) ?_
  refine lv_iadd hx hb dL_law_831 ?_
  refine xv_sld hx hb hX hbl hbA hS (xatI 5 (by omega) hL) dL_law_832 ?_
  refine lv_i2l hx hb dL_law_833 rfl ?_
  refine lv_ldc2 (v := 4294967295) hx hb hown (hts _ law_k26) dL_law_834 ?_
  refine lv_land hx hb dL_law_837 ?_
  refine lv_lor hx hb dL_law_838 ?_
  refine xcall2_i (va_runV (As := [.int (xs (i + 1)), .int (xs (i + 2)), .int (xs (i + 3)), .long (lj (xs (i + 4)) (xs (i + 5)))]) (rest := []) ⟨hx, hb, hml, hown, hts⟩ (c_X0_quote l dC dI ad cL cZ cO S H.size (xs (i + 1)) (xs (i + 2)) (xs (i + 3)) (lj (xs (i + 4)) (xs (i + 5))) hBx) (cwV 4 hts gL_law_X0_quote rfl rfl rfl (by decide +kernel) ⟨Nat.le_of_ble_eq_true rfl, Nat.le_of_ble_eq_true rfl⟩) (xpV_w [.int (xs (i + 1)), .int (xs (i + 2)), .int (xs (i + 3)), .long (lj (xs (i + 4)) (xs (i + 5)))] hKx hPX (xD_left hD) (va_recv hKx hPX (ci := 0) (q0 := 0) rfl rfl)) rfl rfl hl.1 rfl (lv_room (Nat.le_of_ble_eq_true rfl)) dL_law_839 ⟨Nat.le_of_ble_eq_true rfl, Nat.le_of_ble_eq_true rfl⟩) hPM hD hS hA (fun r u H locs hw hPX hPM hD hS => ?_)
  obtain ⟨rfl, rfl⟩ := hw
  refine lv_aload_n hx hb dL_law_842 rfl (lv_at hl 2 rfl) ?_
  refine lv_aload_n hx hb dL_law_843 rfl (lv_at hl 0 rfl) ?_
  refine lv_iload_n hx hb dL_law_844 rfl (lv_at hl 3 rfl) ?_
  refine lv_iconst (v := 1) hx hb dL_law_845 (by decide) ?_
  refine lv_iadd hx hb dL_law_846 ?_
  refine xv_sld hx hb hX hbl hbA hS (xatI 1 (by omega) hL) dL_law_847 ?_
  refine lv_aload_n hx hb dL_law_848 rfl (lv_at hl 0 rfl) ?_
  refine lv_iload_n hx hb dL_law_849 rfl (lv_at hl 3 rfl) ?_
  refine lv_iconst (v := 2) hx hb dL_law_850 (by decide) ?_
  refine lv_iadd hx hb dL_law_851 ?_
  refine xv_sld hx hb hX hbl hbA hS (xatI 2 (by omega) hL) dL_law_852 ?_
  refine lv_aload_n hx hb dL_law_853 rfl (lv_at hl 0 rfl) ?_
  refine lv_iload_n hx hb dL_law_854 rfl (lv_at hl 3 rfl) ?_
  refine lv_iconst (v := 3) hx hb dL_law_855 (by decide) ?_
  refine lv_iadd hx hb dL_law_856 ?_
  refine xv_sld hx hb hX hbl hbA hS (xatI 3 (by omega) hL) dL_law_857 ?_
  refine lv_aload_n hx hb dL_law_858 rfl (lv_at hl 0 rfl) ?_
  refine lv_iload_n hx hb dL_law_859 rfl (lv_at hl 3 rfl) ?_
  refine lv_iconst (v := 4) hx hb dL_law_860 (by decide) ?_
  refine lv_iadd hx hb dL_law_861 ?_
  refine xv_sld hx hb hX hbl hbA hS (xatI 4 (by omega) hL) dL_law_862 ?_
  refine lv_i2l hx hb dL_law_863 rfl ?_
  refine lv_bipush (v := 32) hx hb dL_law_864 (by decide) ?_
  refine lv_lshl hx hb dL_law_866 rfl ?_
  refine lv_aload_n hx hb dL_law_867 rfl (lv_at hl 0 rfl) ?_
  refine lv_iload_n hx hb dL_law_868 rfl (lv_at hl 3 rfl) ?_
  refine lv_iconst (v := 5) hx hb dL_law_869 (by decide) ?_
  refine lv_iadd hx hb dL_law_870 ?_
  refine xv_sld hx hb hX hbl hbA hS (xatI 5 (by omega) hL) dL_law_871 ?_
  refine lv_i2l hx hb dL_law_872 rfl ?_
  refine lv_ldc2 (v := 4294967295) hx hb hown (hts _ law_k26) dL_law_873 ?_
  refine lv_land hx hb dL_law_876 ?_
  refine lv_lor hx hb dL_law_877 ?_
  refine xcall2_i (va_runV (As := [.int (xs (i + 1)), .int (xs (i + 2)), .int (xs (i + 3)), .long (lj (xs (i + 4)) (xs (i + 5)))]) (rest := [.int ((X_quote S (xs (i + 1)) (xs (i + 2)) (xs (i + 3)) (lj (xs (i + 4)) (xs (i + 5)))).1)]) ⟨hx, hb, hml, hown, hts⟩ (c_X1_quote l dC dI ae dL dZ cI N ro hd H.size (xs (i + 1)) (xs (i + 2)) (xs (i + 3)) (lj (xs (i + 4)) (xs (i + 5))) hDn) (cwV 4 hts gL_law_X1_quote rfl rfl rfl (by decide +kernel) ⟨Nat.le_of_ble_eq_true rfl, Nat.le_of_ble_eq_true rfl⟩) (xpV_w [.int (xs (i + 1)), .int (xs (i + 2)), .int (xs (i + 3)), .long (lj (xs (i + 4)) (xs (i + 5)))] hKm hPM (xD_left (xD_swap hD)) (va_recv hKm hPM (ci := 1) (q0 := 0) rfl rfl)) rfl rfl hl.1 rfl (lv_room (Nat.le_of_ble_eq_true rfl)) dL_law_878 ⟨Nat.le_of_ble_eq_true rfl, Nat.le_of_ble_eq_true rfl⟩) hPX (xD_swap hD) hS hA (fun r u H locs hw hPM hPX hD hS => ?_)
  obtain ⟨u1, ro1, hd1⟩ := u
  obtain ⟨rfl, hu⟩ := hw
  have hu : u1 = _ := hu
  change va_P _ vwCl (wM ae dL dZ cI u1 ro1 hd1) _ at hPM
  change va_D _ (wM ae dL dZ cI u1 ro1 hd1 ++ _) at hD
  rw [hu] at hPM hD
  have hD := xD_swap hD
  have hs := s_quote hsim (xs (i + 1)) (xs (i + 2)) (xs (i + 3)) (lj (xs (i + 4)) (xs (i + 5)))
  refine lv_icmp_eq (tgt := 1031) hx hb dL_law_881 (by decide) (fun c9 => ?_) (fun c9 => ?_)
  · exact kk _ _ _ _ _ _ ls hs.2 ⟨hPX, hPM, hD, hS⟩ (lv_sub hl [0, 1, 2, 3] rfl)
  · exact absurd hs.1 c9
set_option maxHeartbeats 4000000 in
set_option maxRecDepth 100000 in
theorem law_op16 (C1 : lwC p s m meth c b L xs dC dI cL cZ cO dL dZ cI) (hi : i + 8 ≤ L) (ht : t < 512) (hsim : Sim S N t) (hI : lwI s dC dI ad cL cZ cO ae dL dZ cI S N ro hd H locs) (hl : lv_has ls 4 (lwL b ad ae i)) (kk : lwKK p l e s m below meth c b dC dI ad cL cZ cO ae dL dZ cI i t) : W p l e room_1 s m #[Value.ref b] below meth c H locs 600000 7302250 (lw_Z below #[Value.ref b] s) (F0 m 886 ls []) := by
  obtain ⟨C0, hL, hKx, hKm⟩ := C1
  obtain ⟨hx, hb, hr, hml, hown0, hts0, hX, hbl, hlocks, hgv⟩ := C0
  have hown : s.vm.findClass RL = some m.cls := hown0
  have hts : ∀ w ∈ wsL_law, w.before #[Value.ref b] s = true := fun w h => hts0 w (wsL_law_in w h)
  have hA : ∀ q : Nat, s.heap.size ≤ q → lwA s q := fun _ h => h
  have hbA : ¬ lwA s b := Nat.not_le.mpr hbl
  have hBx := hsim.okB.2
  have hBm := hsim.okB.1
  have hDn := hsim.okD (Nat.le_of_lt ht)
  have hRm := hsim.room ht
  obtain ⟨hPX, hPM, hD, hS⟩ := hI
  refine lv_aload_n hx hb dL_law_886 rfl (lv_at hl 1 rfl) ?_
  refine vp_callSl (va_Run.run (va_runV (As := []) (rest := []) ⟨hx, hb, hml, hown, hts⟩ (c_X0_output l dC dI ad cL cZ cO S ) (cwV 0 hts gL_law_X0_output rfl rfl rfl (by decide +kernel) ⟨Nat.le_of_ble_eq_true rfl, Nat.le_of_ble_eq_true rfl⟩) (xpV_r [] hKx hPX (va_recv hKx hPX (ci := 0) (q0 := 0) rfl rfl)) rfl rfl hl.1 rfl (lv_room (Nat.le_of_ble_eq_true rfl)) dL_law_887 ⟨Nat.le_of_ble_eq_true rfl, Nat.le_of_ble_eq_true rfl⟩)) (fun r hr9 => ?_)
  subst hr9
  refine lv_aload_n hx hb dL_law_890 rfl (lv_at hl 2 rfl) ?_
  refine vp_callSl (va_Run.run (va_runV (As := []) (rest := [.long (x_ou S)]) ⟨hx, hb, hml, hown, hts⟩ (c_X1_output l dC dI ae dL dZ cI N ro hd ) (cwV 0 hts gL_law_X1_output rfl rfl rfl (by decide +kernel) ⟨Nat.le_of_ble_eq_true rfl, Nat.le_of_ble_eq_true rfl⟩) (xpV_r [] hKm hPM (va_recv hKm hPM (ci := 1) (q0 := 0) rfl rfl)) rfl rfl hl.1 rfl (lv_room (Nat.le_of_ble_eq_true rfl)) dL_law_891 ⟨Nat.le_of_ble_eq_true rfl, Nat.le_of_ble_eq_true rfl⟩)) (fun r hr9 => ?_)
  subst hr9
  refine W.lcmp hx hb dL_law_894 ?_
  have hs := s_output hsim
  refine lv_if_eq (tgt := 1031) hx hb dL_law_895 (by decide) (fun c9 => ?_) (fun c9 => ?_)
  · exact kk _ _ _ _ _ _ ls hsim.up ⟨hPX, hPM, hD, hS⟩ (lv_sub hl [0, 1, 2, 3] rfl)
  · exact absurd (by rw [hs]; exact lg_cmp_self _) c9
set_option maxHeartbeats 4000000 in
set_option maxRecDepth 100000 in
theorem law_op17 (C1 : lwC p s m meth c b L xs dC dI cL cZ cO dL dZ cI) (hi : i + 8 ≤ L) (ht : t < 512) (hsim : Sim S N t) (hI : lwI s dC dI ad cL cZ cO ae dL dZ cI S N ro hd H locs) (hl : lv_has ls 4 (lwL b ad ae i)) (kk : lwKK p l e s m below meth c b dC dI ad cL cZ cO ae dL dZ cI i t) : W p l e room_1 s m #[Value.ref b] below meth c H locs 600000 7302250 (lw_Z below #[Value.ref b] s) (F0 m 900 ls []) := by
  obtain ⟨C0, hL, hKx, hKm⟩ := C1
  obtain ⟨hx, hb, hr, hml, hown0, hts0, hX, hbl, hlocks, hgv⟩ := C0
  have hown : s.vm.findClass RL = some m.cls := hown0
  have hts : ∀ w ∈ wsL_law, w.before #[Value.ref b] s = true := fun w h => hts0 w (wsL_law_in w h)
  have hA : ∀ q : Nat, s.heap.size ≤ q → lwA s q := fun _ h => h
  have hbA : ¬ lwA s b := Nat.not_le.mpr hbl
  have hBx := hsim.okB.2
  have hBm := hsim.okB.1
  have hDn := hsim.okD (Nat.le_of_lt ht)
  have hRm := hsim.room ht
  obtain ⟨hPX, hPM, hD, hS⟩ := hI
  refine lv_aload_n hx hb dL_law_900 rfl (lv_at hl 1 rfl) ?_
  refine lv_aload_n hx hb dL_law_901 rfl (lv_at hl 0 rfl) ?_
  refine lv_iload_n hx hb dL_law_902 rfl (lv_at hl 3 rfl) ?_
  refine lv_iconst (v := 1) hx hb dL_law_903 (by decide) ?_
  refine lv_iadd hx hb dL_law_904 ?_
  refine xv_sld hx hb hX hbl hbA hS (xatI 1 (by omega) hL) dL_law_905 ?_
  refine lv_aload_n hx hb dL_law_906 rfl (lv_at hl 0 rfl) ?_
  refine lv_iload_n hx hb dL_law_907 rfl (lv_at hl 3 rfl) ?_
  refine lv_iconst (v := 2) hx hb dL_law_908 (by decide) ?_
  refine lv_iadd hx hb dL_law_909 ?_
  refine xv_sld hx hb hX hbl hbA hS (xatI 2 (by omega) hL) dL_law_910 ?_
  refine vp_callSl (va_Run.run (va_runV (As := [.int (xs (i + 1)), .int (xs (i + 2))]) (rest := []) ⟨hx, hb, hml, hown, hts⟩ (c_X0_blob l dC dI ad cL cZ cO S (xs (i + 1)) (xs (i + 2)) hBx) (cwV 2 hts gL_law_X0_blob rfl rfl rfl (by decide +kernel) ⟨Nat.le_of_ble_eq_true rfl, Nat.le_of_ble_eq_true rfl⟩) (xpV_r [.int (xs (i + 1)), .int (xs (i + 2))] hKx hPX (va_recv hKx hPX (ci := 0) (q0 := 0) rfl rfl)) rfl rfl hl.1 rfl (lv_room (Nat.le_of_ble_eq_true rfl)) dL_law_911 ⟨Nat.le_of_ble_eq_true rfl, Nat.le_of_ble_eq_true rfl⟩)) (fun r hr9 => ?_)
  subst hr9
  refine lv_aload_n hx hb dL_law_914 rfl (lv_at hl 2 rfl) ?_
  refine lv_aload_n hx hb dL_law_915 rfl (lv_at hl 0 rfl) ?_
  refine lv_iload_n hx hb dL_law_916 rfl (lv_at hl 3 rfl) ?_
  refine lv_iconst (v := 1) hx hb dL_law_917 (by decide) ?_
  refine lv_iadd hx hb dL_law_918 ?_
  refine xv_sld hx hb hX hbl hbA hS (xatI 1 (by omega) hL) dL_law_919 ?_
  refine lv_aload_n hx hb dL_law_920 rfl (lv_at hl 0 rfl) ?_
  refine lv_iload_n hx hb dL_law_921 rfl (lv_at hl 3 rfl) ?_
  refine lv_iconst (v := 2) hx hb dL_law_922 (by decide) ?_
  refine lv_iadd hx hb dL_law_923 ?_
  refine xv_sld hx hb hX hbl hbA hS (xatI 2 (by omega) hL) dL_law_924 ?_
  refine vp_callSl (va_Run.run (va_runV (As := [.int (xs (i + 1)), .int (xs (i + 2))]) (rest := [.long (X_blob S (xs (i + 1)) (xs (i + 2)))]) ⟨hx, hb, hml, hown, hts⟩ (c_X1_blob l dC dI ae dL dZ cI N ro hd (xs (i + 1)) (xs (i + 2)) hBm) (cwV 2 hts gL_law_X1_blob rfl rfl rfl (by decide +kernel) ⟨Nat.le_of_ble_eq_true rfl, Nat.le_of_ble_eq_true rfl⟩) (xpV_r [.int (xs (i + 1)), .int (xs (i + 2))] hKm hPM (va_recv hKm hPM (ci := 1) (q0 := 0) rfl rfl)) rfl rfl hl.1 rfl (lv_room (Nat.le_of_ble_eq_true rfl)) dL_law_925 ⟨Nat.le_of_ble_eq_true rfl, Nat.le_of_ble_eq_true rfl⟩)) (fun r hr9 => ?_)
  subst hr9
  refine W.lcmp hx hb dL_law_928 ?_
  have hs := s_blob hsim (xs (i + 1)) (xs (i + 2))
  refine lv_if_eq (tgt := 1031) hx hb dL_law_929 (by decide) (fun c9 => ?_) (fun c9 => ?_)
  · exact kk _ _ _ _ _ _ ls hsim.up ⟨hPX, hPM, hD, hS⟩ (lv_sub hl [0, 1, 2, 3] rfl)
  · exact absurd (by rw [hs]; exact lg_cmp_self _) c9
set_option maxHeartbeats 4000000 in
set_option maxRecDepth 100000 in
theorem law_op18 (C1 : lwC p s m meth c b L xs dC dI cL cZ cO dL dZ cI) (hi : i + 8 ≤ L) (ht : t < 512) (hsim : Sim S N t) (hI : lwI s dC dI ad cL cZ cO ae dL dZ cI S N ro hd H locs) (hl : lv_has ls 4 (lwL b ad ae i)) (kk : lwKK p l e s m below meth c b dC dI ad cL cZ cO ae dL dZ cI i t) : W p l e room_1 s m #[Value.ref b] below meth c H locs 600000 7302250 (lw_Z below #[Value.ref b] s) (F0 m 934 ls []) := by
  obtain ⟨C0, hL, hKx, hKm⟩ := C1
  obtain ⟨hx, hb, hr, hml, hown0, hts0, hX, hbl, hlocks, hgv⟩ := C0
  have hown : s.vm.findClass RL = some m.cls := hown0
  have hts : ∀ w ∈ wsL_law, w.before #[Value.ref b] s = true := fun w h => hts0 w (wsL_law_in w h)
  have hA : ∀ q : Nat, s.heap.size ≤ q → lwA s q := fun _ h => h
  have hbA : ¬ lwA s b := Nat.not_le.mpr hbl
  have hBx := hsim.okB.2
  have hBm := hsim.okB.1
  have hDn := hsim.okD (Nat.le_of_lt ht)
  have hRm := hsim.room ht
  obtain ⟨hPX, hPM, hD, hS⟩ := hI
  refine lv_aload_n hx hb dL_law_934 rfl (lv_at hl 1 rfl) ?_
  refine lv_aload_n hx hb dL_law_935 rfl (lv_at hl 0 rfl) ?_
  refine lv_iload_n hx hb dL_law_936 rfl (lv_at hl 3 rfl) ?_
  refine lv_iconst (v := 1) hx hb dL_law_937 (by decide) ?_
  refine lv_iadd hx hb dL_law_938 ?_
  refine xv_sld hx hb hX hbl hbA hS (xatI 1 (by omega) hL) dL_law_939 ?_
  refine lv_aload_n hx hb dL_law_940 rfl (lv_at hl 0 rfl) ?_
  refine lv_iload_n hx hb dL_law_941 rfl (lv_at hl 3 rfl) ?_
  refine lv_iconst (v := 2) hx hb dL_law_942 (by decide) ?_
  refine lv_iadd hx hb dL_law_943 ?_
  refine xv_sld hx hb hX hbl hbA hS (xatI 2 (by omega) hL) dL_law_944 ?_
  refine lv_aload_n hx hb dL_law_945 rfl (lv_at hl 0 rfl) ?_
  refine lv_iload_n hx hb dL_law_946 rfl (lv_at hl 3 rfl) ?_
  refine lv_iconst (v := 3) hx hb dL_law_947 (by decide) ?_
  refine lv_iadd hx hb dL_law_948 ?_
  refine xv_sld hx hb hX hbl hbA hS (xatI 3 (by omega) hL) dL_law_949 ?_
  refine lv_i2l hx hb dL_law_950 rfl ?_
  refine lv_bipush (v := 32) hx hb dL_law_951 (by decide) ?_
  refine lv_lshl hx hb dL_law_953 rfl ?_
  refine lv_aload_n hx hb dL_law_954 rfl (lv_at hl 0 rfl) ?_
  refine lv_iload_n hx hb dL_law_955 rfl (lv_at hl 3 rfl) ?_
  refine lv_iconst (v := 4) hx hb dL_law_956 (by decide) ?_
  refine lv_iadd hx hb dL_law_957 ?_
  refine xv_sld hx hb hX hbl hbA hS (xatI 4 (by omega) hL) dL_law_958 ?_
  refine lv_i2l hx hb dL_law_959 rfl ?_
  refine lv_ldc2 (v := 4294967295) hx hb hown (hts _ law_k26) dL_law_960 ?_
  refine lv_land hx hb dL_law_963 ?_
  refine lv_lor hx hb dL_law_964 ?_
  refine xcall2_i (va_runV (As := [.int (xs (i + 1)), .int (xs (i + 2)), .long (lj (xs (i + 3)) (xs (i + 4)))]) (rest := []) ⟨hx, hb, hml, hown, hts⟩ (c_X0_change l dC dI ad cL cZ cO S H.size (xs (i + 1)) (xs (i + 2)) (lj (xs (i + 3)) (xs (i + 4))) hBx) (cwV 3 hts gL_law_X0_change rfl rfl rfl (by decide +kernel) ⟨Nat.le_of_ble_eq_true rfl, Nat.le_of_ble_eq_true rfl⟩) (xpV_w [.int (xs (i + 1)), .int (xs (i + 2)), .long (lj (xs (i + 3)) (xs (i + 4)))] hKx hPX (xD_left hD) (va_recv hKx hPX (ci := 0) (q0 := 0) rfl rfl)) rfl rfl hl.1 rfl (lv_room (Nat.le_of_ble_eq_true rfl)) dL_law_965 ⟨Nat.le_of_ble_eq_true rfl, Nat.le_of_ble_eq_true rfl⟩) hPM hD hS hA (fun r u H locs hw hPX hPM hD hS => ?_)
  obtain ⟨rfl, rfl⟩ := hw
  refine lv_aload_n hx hb dL_law_968 rfl (lv_at hl 2 rfl) ?_
  refine lv_aload_n hx hb dL_law_969 rfl (lv_at hl 0 rfl) ?_
  refine lv_iload_n hx hb dL_law_970 rfl (lv_at hl 3 rfl) ?_
  refine lv_iconst (v := 1) hx hb dL_law_971 (by decide) ?_
  refine lv_iadd hx hb dL_law_972 ?_
  refine xv_sld hx hb hX hbl hbA hS (xatI 1 (by omega) hL) dL_law_973 ?_
  refine lv_aload_n hx hb dL_law_974 rfl (lv_at hl 0 rfl) ?_
  refine lv_iload_n hx hb dL_law_975 rfl (lv_at hl 3 rfl) ?_
  refine lv_iconst (v := 2) hx hb dL_law_976 (by decide) ?_
  refine lv_iadd hx hb dL_law_977 ?_
  refine xv_sld hx hb hX hbl hbA hS (xatI 2 (by omega) hL) dL_law_978 ?_
  refine lv_aload_n hx hb dL_law_979 rfl (lv_at hl 0 rfl) ?_
  refine lv_iload_n hx hb dL_law_980 rfl (lv_at hl 3 rfl) ?_
  refine lv_iconst (v := 3) hx hb dL_law_981 (by decide) ?_
  refine lv_iadd hx hb dL_law_982 ?_
  refine xv_sld hx hb hX hbl hbA hS (xatI 3 (by omega) hL) dL_law_983 ?_
  refine lv_i2l hx hb dL_law_984 rfl ?_
  refine lv_bipush (v := 32) hx hb dL_law_985 (by decide) ?_
  refine lv_lshl hx hb dL_law_987 rfl ?_
  refine lv_aload_n hx hb dL_law_988 rfl (lv_at hl 0 rfl) ?_
  refine lv_iload_n hx hb dL_law_989 rfl (lv_at hl 3 rfl) ?_
  refine lv_iconst (v := 4) hx hb dL_law_990 (by decide) ?_
  refine lv_iadd hx hb dL_law_991 ?_
  refine xv_sld hx hb hX hbl hbA hS (xatI 4 (by omega) hL) dL_law_992 ?_
  refine lv_i2l hx hb dL_law_993 rfl ?_
  refine lv_ldc2 (v := 4294967295) hx hb hown (hts _ law_k26) dL_law_994 ?_
  refine lv_land hx hb dL_law_997 ?_
  refine lv_lor hx hb dL_law_998 ?_
  refine xcall2_i (va_runV (As := [.int (xs (i + 1)), .int (xs (i + 2)), .long (lj (xs (i + 3)) (xs (i + 4)))]) (rest := [.int ((X_change S (xs (i + 1)) (xs (i + 2)) (lj (xs (i + 3)) (xs (i + 4)))).1)]) ⟨hx, hb, hml, hown, hts⟩ (c_X1_change l dC dI ae dL dZ cI N ro hd H.size (xs (i + 1)) (xs (i + 2)) (lj (xs (i + 3)) (xs (i + 4))) hBm) (cwV 3 hts gL_law_X1_change rfl rfl rfl (by decide +kernel) ⟨Nat.le_of_ble_eq_true rfl, Nat.le_of_ble_eq_true rfl⟩) (xpV_w [.int (xs (i + 1)), .int (xs (i + 2)), .long (lj (xs (i + 3)) (xs (i + 4)))] hKm hPM (xD_left (xD_swap hD)) (va_recv hKm hPM (ci := 1) (q0 := 0) rfl rfl)) rfl rfl hl.1 rfl (lv_room (Nat.le_of_ble_eq_true rfl)) dL_law_999 ⟨Nat.le_of_ble_eq_true rfl, Nat.le_of_ble_eq_true rfl⟩) hPX (xD_swap hD) hS hA (fun r u H locs hw hPM hPX hD hS => ?_)
  obtain ⟨u1, ro1, hd1⟩ := u
  obtain ⟨rfl, hu⟩ := hw
  have hu : u1 = _ := hu
  change va_P _ vwCl (wM ae dL dZ cI u1 ro1 hd1) _ at hPM
  change va_D _ (wM ae dL dZ cI u1 ro1 hd1 ++ _) at hD
  rw [hu] at hPM hD
  have hD := xD_swap hD
  have hs := s_change hsim (xs (i + 1)) (xs (i + 2)) (lj (xs (i + 3)) (xs (i + 4)))
  refine lv_icmp_eq (tgt := 1031) hx hb dL_law_1002 (by decide) (fun c9 => ?_) (fun c9 => ?_)
  · exact kk _ _ _ _ _ _ ls hs.2 ⟨hPX, hPM, hD, hS⟩ (lv_sub hl [0, 1, 2, 3] rfl)
  · exact absurd hs.1 c9
set_option maxHeartbeats 4000000 in
set_option maxRecDepth 100000 in
theorem law_op19 (C1 : lwC p s m meth c b L xs dC dI cL cZ cO dL dZ cI) (hi : i + 8 ≤ L) (ht : t < 512) (hsim : Sim S N t) (hI : lwI s dC dI ad cL cZ cO ae dL dZ cI S N ro hd H locs) (hl : lv_has ls 4 (lwL b ad ae i)) (kk : lwKK p l e s m below meth c b dC dI ad cL cZ cO ae dL dZ cI i t) : W p l e room_1 s m #[Value.ref b] below meth c H locs 600000 7302250 (lw_Z below #[Value.ref b] s) (F0 m 1007 ls []) := by
  obtain ⟨C0, hL, hKx, hKm⟩ := C1
  obtain ⟨hx, hb, hr, hml, hown0, hts0, hX, hbl, hlocks, hgv⟩ := C0
  have hown : s.vm.findClass RL = some m.cls := hown0
  have hts : ∀ w ∈ wsL_law, w.before #[Value.ref b] s = true := fun w h => hts0 w (wsL_law_in w h)
  have hA : ∀ q : Nat, s.heap.size ≤ q → lwA s q := fun _ h => h
  have hbA : ¬ lwA s b := Nat.not_le.mpr hbl
  have hBx := hsim.okB.2
  have hBm := hsim.okB.1
  have hDn := hsim.okD (Nat.le_of_lt ht)
  have hRm := hsim.room ht
  obtain ⟨hPX, hPM, hD, hS⟩ := hI
  refine lv_aload_n hx hb dL_law_1007 rfl (lv_at hl 1 rfl) ?_
  refine xcall2_v (va_runV (As := []) (rest := []) ⟨hx, hb, hml, hown, hts⟩ (c_X0_reboot l dC dI ad cL cZ cO S H.size ) (cwV 0 hts gL_law_X0_reboot rfl rfl rfl (by decide +kernel) ⟨Nat.le_of_ble_eq_true rfl, Nat.le_of_ble_eq_true rfl⟩) (xpV_w [] hKx hPX (xD_left hD) (va_recv hKx hPX (ci := 0) (q0 := 0) rfl rfl)) rfl rfl hl.1 rfl (lv_room (Nat.le_of_ble_eq_true rfl)) dL_law_1008 ⟨Nat.le_of_ble_eq_true rfl, Nat.le_of_ble_eq_true rfl⟩) hPM hD hS hA (fun u H locs hw hPX hPM hD hS => ?_)
  subst hw
  refine lv_aload_n hx hb dL_law_1011 rfl (lv_at hl 2 rfl) ?_
  refine xcall2_v (va_runV (As := []) (rest := []) ⟨hx, hb, hml, hown, hts⟩ (c_X1_reboot l dC dI ae dL dZ cI N ro hd H.size ) (cwV 0 hts gL_law_X1_reboot rfl rfl rfl (by decide +kernel) ⟨Nat.le_of_ble_eq_true rfl, Nat.le_of_ble_eq_true rfl⟩) (xpV_w [] hKm hPM (xD_left (xD_swap hD)) (va_recv hKm hPM (ci := 1) (q0 := 0) rfl rfl)) rfl rfl hl.1 rfl (lv_room (Nat.le_of_ble_eq_true rfl)) dL_law_1012 ⟨Nat.le_of_ble_eq_true rfl, Nat.le_of_ble_eq_true rfl⟩) hPX (xD_swap hD) hS hA (fun u H locs hw hPM hPX hD hS => ?_)
  obtain ⟨u1, ro1, hd1⟩ := u
  have hu : u1 = _ := hw
  change va_P _ vwCl (wM ae dL dZ cI u1 ro1 hd1) _ at hPM
  change va_D _ (wM ae dL dZ cI u1 ro1 hd1 ++ _) at hD
  rw [hu] at hPM hD
  have hD := xD_swap hD
  refine lv_goto (tgt := 1031) hx hb dL_law_1015 (by decide) ?_
  exact kk _ _ _ _ _ _ ls (s_reboot hsim) ⟨hPX, hPM, hD, hS⟩ (lv_sub hl [0, 1, 2, 3] rfl)
set_option maxHeartbeats 4000000 in
set_option maxRecDepth 100000 in
theorem law_op20 (C1 : lwC p s m meth c b L xs dC dI cL cZ cO dL dZ cI) (hi : i + 8 ≤ L) (ht : t < 512) (hsim : Sim S N t) (hI : lwI s dC dI ad cL cZ cO ae dL dZ cI S N ro hd H locs) (hl : lv_has ls 4 (lwL b ad ae i)) (kk : lwKK p l e s m below meth c b dC dI ad cL cZ cO ae dL dZ cI i t) : W p l e room_1 s m #[Value.ref b] below meth c H locs 600000 7302250 (lw_Z below #[Value.ref b] s) (F0 m 1018 ls []) := by
  obtain ⟨C0, hL, hKx, hKm⟩ := C1
  obtain ⟨hx, hb, hr, hml, hown0, hts0, hX, hbl, hlocks, hgv⟩ := C0
  have hown : s.vm.findClass RL = some m.cls := hown0
  have hts : ∀ w ∈ wsL_law, w.before #[Value.ref b] s = true := fun w h => hts0 w (wsL_law_in w h)
  have hA : ∀ q : Nat, s.heap.size ≤ q → lwA s q := fun _ h => h
  have hbA : ¬ lwA s b := Nat.not_le.mpr hbl
  have hBx := hsim.okB.2
  have hBm := hsim.okB.1
  have hDn := hsim.okD (Nat.le_of_lt ht)
  have hRm := hsim.room ht
  obtain ⟨hPX, hPM, hD, hS⟩ := hI
  refine lv_aload_n hx hb dL_law_1018 rfl (lv_at hl 1 rfl) ?_
  refine vp_callSi (va_Run.run (va_runV (As := []) (rest := []) ⟨hx, hb, hml, hown, hts⟩ (c_X0_failures l dC dI ad cL cZ cO S ) (cwV 0 hts gL_law_X0_failures rfl rfl rfl (by decide +kernel) ⟨Nat.le_of_ble_eq_true rfl, Nat.le_of_ble_eq_true rfl⟩) (xpV_r [] hKx hPX (va_recv hKx hPX (ci := 0) (q0 := 0) rfl rfl)) rfl rfl hl.1 rfl (lv_room (Nat.le_of_ble_eq_true rfl)) dL_law_1019 ⟨Nat.le_of_ble_eq_true rfl, Nat.le_of_ble_eq_true rfl⟩)) (fun r hr9 => ?_)
  subst hr9
  refine lv_aload_n hx hb dL_law_1022 rfl (lv_at hl 2 rfl) ?_
  refine vp_callSi (va_Run.run (va_runV (As := []) (rest := [.int (x_fa S)]) ⟨hx, hb, hml, hown, hts⟩ (c_X1_failures l dC dI ae dL dZ cI N ro hd ) (cwV 0 hts gL_law_X1_failures rfl rfl rfl (by decide +kernel) ⟨Nat.le_of_ble_eq_true rfl, Nat.le_of_ble_eq_true rfl⟩) (xpV_r [] hKm hPM (va_recv hKm hPM (ci := 1) (q0 := 0) rfl rfl)) rfl rfl hl.1 rfl (lv_room (Nat.le_of_ble_eq_true rfl)) dL_law_1023 ⟨Nat.le_of_ble_eq_true rfl, Nat.le_of_ble_eq_true rfl⟩)) (fun r hr9 => ?_)
  subst hr9
  have hs := s_failures hsim
  refine lv_icmp_eq (tgt := 1031) hx hb dL_law_1026 (by decide) (fun c9 => ?_) (fun c9 => ?_)
  · exact kk _ _ _ _ _ _ ls hsim.up ⟨hPX, hPM, hD, hS⟩ (lv_sub hl [0, 1, 2, 3] rfl)
  · exact absurd hs c9
end LWO
