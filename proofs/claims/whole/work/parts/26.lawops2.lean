section LWO
variable {p : Program} {l : Launch} {e : Env} {s : State} {m : MethodId} {below : List Frame} {meth : Method} {c : Code} {b L : Nat} {xs : Nat → Int32}
variable {dC : Nat → ClassId} {dI : Nat → Nat → Nat} {ad : Nat → Nat} {cL cZ cO : ClassId} {ae : Nat → Nat} {dL dZ cI : ClassId}
variable {S : SX} {N : SM} {ro hd : Nat → Int64} {H : Heap} {locs : List Loc} {i t : Nat} {ls : Array Slot}
set_option maxHeartbeats 4000000 in
set_option maxRecDepth 100000 in
theorem law_op7 (C1 : lwC p s m meth c b L xs dC dI cL cZ cO dL dZ cI) (hi : i + 8 ≤ L) (ht : t < 512) (hsim : Sim S N t) (hI : lwI s dC dI ad cL cZ cO ae dL dZ cI S N ro hd H locs) (hl : lv_has ls 4 (lwL b ad ae i)) (kk : lwKK p l e s m below meth c b dC dI ad cL cZ cO ae dL dZ cI i t) : W p l e room_1 s m #[Value.ref b] below meth c H locs 600000 7302250 (lw_Z below #[Value.ref b] s) (F0 m 385 ls []) := by
  obtain ⟨C0, hL, hKx, hKm⟩ := C1
  obtain ⟨hx, hb, hr, hml, hown0, hts0, hX, hbl, hlocks, hgv⟩ := C0
  have hown : s.vm.findClass RL = some m.cls := hown0
  have hts : ∀ w ∈ wsL_law, w.before #[Value.ref b] s = true := fun w h => hts0 w (wsL_law_in w h)
  have hA : ∀ q : Nat, s.heap.size ≤ q → lwA s q := fun _ h => h
  have hbA : ¬ lwA s b := Nat.not_le.mpr hbl
  have hBx := hsim.okB.2
  have hBm := hsim.okB.1
  have hDn := hsim.okD (Nat.le_of_lt ht)
  have hRm := hsim.room ht
  obtain ⟨hPX, hPM, hD, hS⟩ := hI
  refine lv_aload_n hx hb dL_law_385 rfl (lv_at hl 1 rfl) ?_
  refine lv_aload_n hx hb dL_law_386 rfl (lv_at hl 0 rfl) ?_
  refine lv_iload_n hx hb dL_law_387 rfl (lv_at hl 3 rfl) ?_
  refine lv_iconst (v := 1) hx hb dL_law_388 (by decide) ?_
  refine lv_iadd hx hb dL_law_389 ?_
  refine xv_sld hx hb hX hbl hbA hS (xatI 1 (by omega) hL) dL_law_390 ?_
  refine vp_callSl (va_Run.run (va_runV (As := [.int (xs (i + 1))]) (rest := []) ⟨hx, hb, hml, hown, hts⟩ (c_X0_name l dC dI ad cL cZ cO S (xs (i + 1)) ) (cwV 1 hts gL_law_X0_name rfl rfl rfl (by decide +kernel) ⟨Nat.le_of_ble_eq_true rfl, Nat.le_of_ble_eq_true rfl⟩) (xpV_r [.int (xs (i + 1))] hKx hPX (va_recv hKx hPX (ci := 0) (q0 := 0) rfl rfl)) rfl rfl hl.1 rfl (lv_room (Nat.le_of_ble_eq_true rfl)) dL_law_391 ⟨Nat.le_of_ble_eq_true rfl, Nat.le_of_ble_eq_true rfl⟩)) (fun r hr9 => ?_)
  subst hr9
  refine lv_aload_n hx hb dL_law_394 rfl (lv_at hl 2 rfl) ?_
  refine lv_aload_n hx hb dL_law_395 rfl (lv_at hl 0 rfl) ?_
  refine lv_iload_n hx hb dL_law_396 rfl (lv_at hl 3 rfl) ?_
  refine lv_iconst (v := 1) hx hb dL_law_397 (by decide) ?_
  refine lv_iadd hx hb dL_law_398 ?_
  refine xv_sld hx hb hX hbl hbA hS (xatI 1 (by omega) hL) dL_law_399 ?_
  refine xcall2_l (va_runV (As := [.int (xs (i + 1))]) (rest := [.long (X_name S (xs (i + 1)))]) ⟨hx, hb, hml, hown, hts⟩ (c_X1_name l dC dI ae dL dZ cI N ro hd H.size (xs (i + 1)) ) (cwV 1 hts gL_law_X1_name rfl rfl rfl (by decide +kernel) ⟨Nat.le_of_ble_eq_true rfl, Nat.le_of_ble_eq_true rfl⟩) (xpV_w [.int (xs (i + 1))] hKm hPM (xD_left (xD_swap hD)) (va_recv hKm hPM (ci := 1) (q0 := 0) rfl rfl)) rfl rfl hl.1 rfl (lv_room (Nat.le_of_ble_eq_true rfl)) dL_law_400 ⟨Nat.le_of_ble_eq_true rfl, Nat.le_of_ble_eq_true rfl⟩) hPX (xD_swap hD) hS hA (fun r u H locs hw hPM hPX hD hS => ?_)
  obtain ⟨u1, ro1, hd1⟩ := u
  obtain ⟨rfl, hu⟩ := hw
  have hu : u1 = _ := hu
  change va_P _ vwCl (wM ae dL dZ cI u1 ro1 hd1) _ at hPM
  change va_D _ (wM ae dL dZ cI u1 ro1 hd1 ++ _) at hD
  rw [hu] at hPM hD
  have hD := xD_swap hD
  refine W.lcmp hx hb dL_law_403 ?_
  have hs := s_name hsim (xs (i + 1))
  refine lv_if_eq (tgt := 1031) hx hb dL_law_404 (by decide) (fun c9 => ?_) (fun c9 => ?_)
  · exact kk _ _ _ _ _ _ ls hsim.up ⟨hPX, hPM, hD, hS⟩ (lv_sub hl [0, 1, 2, 3] rfl)
  · exact absurd (by rw [hs]; exact lg_cmp_self _) c9
set_option maxHeartbeats 4000000 in
set_option maxRecDepth 100000 in
theorem law_op8 (C1 : lwC p s m meth c b L xs dC dI cL cZ cO dL dZ cI) (hi : i + 8 ≤ L) (ht : t < 512) (hsim : Sim S N t) (hI : lwI s dC dI ad cL cZ cO ae dL dZ cI S N ro hd H locs) (hl : lv_has ls 4 (lwL b ad ae i)) (kk : lwKK p l e s m below meth c b dC dI ad cL cZ cO ae dL dZ cI i t) : W p l e room_1 s m #[Value.ref b] below meth c H locs 600000 7302250 (lw_Z below #[Value.ref b] s) (F0 m 409 ls []) := by
  obtain ⟨C0, hL, hKx, hKm⟩ := C1
  obtain ⟨hx, hb, hr, hml, hown0, hts0, hX, hbl, hlocks, hgv⟩ := C0
  have hown : s.vm.findClass RL = some m.cls := hown0
  have hts : ∀ w ∈ wsL_law, w.before #[Value.ref b] s = true := fun w h => hts0 w (wsL_law_in w h)
  have hA : ∀ q : Nat, s.heap.size ≤ q → lwA s q := fun _ h => h
  have hbA : ¬ lwA s b := Nat.not_le.mpr hbl
  have hBx := hsim.okB.2
  have hBm := hsim.okB.1
  have hDn := hsim.okD (Nat.le_of_lt ht)
  have hRm := hsim.room ht
  obtain ⟨hPX, hPM, hD, hS⟩ := hI
  refine lv_aload_n hx hb dL_law_409 rfl (lv_at hl 1 rfl) ?_
  refine lv_aload_n hx hb dL_law_410 rfl (lv_at hl 0 rfl) ?_
  refine lv_iload_n hx hb dL_law_411 rfl (lv_at hl 3 rfl) ?_
  refine lv_iconst (v := 1) hx hb dL_law_412 (by decide) ?_
  refine lv_iadd hx hb dL_law_413 ?_
  refine xv_sld hx hb hX hbl hbA hS (xatI 1 (by omega) hL) dL_law_414 ?_
  refine lv_i2l hx hb dL_law_415 rfl ?_
  refine lv_bipush (v := 32) hx hb dL_law_416 (by decide) ?_
  refine lv_lshl hx hb dL_law_418 rfl ?_
  refine lv_aload_n hx hb dL_law_419 rfl (lv_at hl 0 rfl) ?_
  refine lv_iload_n hx hb dL_law_420 rfl (lv_at hl 3 rfl) ?_
  refine lv_iconst (v := 2) hx hb dL_law_421 (by decide) ?_
  refine lv_iadd hx hb dL_law_422 ?_
  refine xv_sld hx hb hX hbl hbA hS (xatI 2 (by omega) hL) dL_law_423 ?_
  refine lv_i2l hx hb dL_law_424 rfl ?_
  refine lv_ldc2 (v := 4294967295) hx hb hown (hts _ law_k26) dL_law_425 ?_
  refine lv_land hx hb dL_law_428 ?_
  refine lv_lor hx hb dL_law_429 ?_
  refine xcall2_i (va_runV (As := [.long (lj (xs (i + 1)) (xs (i + 2)))]) (rest := []) ⟨hx, hb, hml, hown, hts⟩ (c_X0_begin l dC dI ad cL cZ cO S H.size (lj (xs (i + 1)) (xs (i + 2))) ) (cwV 1 hts gL_law_X0_begin rfl rfl rfl (by decide +kernel) ⟨Nat.le_of_ble_eq_true rfl, Nat.le_of_ble_eq_true rfl⟩) (xpV_w [.long (lj (xs (i + 1)) (xs (i + 2)))] hKx hPX (xD_left hD) (va_recv hKx hPX (ci := 0) (q0 := 0) rfl rfl)) rfl rfl hl.1 rfl (lv_room (Nat.le_of_ble_eq_true rfl)) dL_law_430 ⟨Nat.le_of_ble_eq_true rfl, Nat.le_of_ble_eq_true rfl⟩) hPM hD hS hA (fun r u H locs hw hPX hPM hD hS => ?_)
  obtain ⟨rfl, rfl⟩ := hw
  refine lv_aload_n hx hb dL_law_433 rfl (lv_at hl 2 rfl) ?_
  refine lv_aload_n hx hb dL_law_434 rfl (lv_at hl 0 rfl) ?_
  refine lv_iload_n hx hb dL_law_435 rfl (lv_at hl 3 rfl) ?_
  refine lv_iconst (v := 1) hx hb dL_law_436 (by decide) ?_
  refine lv_iadd hx hb dL_law_437 ?_
  refine xv_sld hx hb hX hbl hbA hS (xatI 1 (by omega) hL) dL_law_438 ?_
  refine lv_i2l hx hb dL_law_439 rfl ?_
  refine lv_bipush (v := 32) hx hb dL_law_440 (by decide) ?_
  refine lv_lshl hx hb dL_law_442 rfl ?_
  refine lv_aload_n hx hb dL_law_443 rfl (lv_at hl 0 rfl) ?_
  refine lv_iload_n hx hb dL_law_444 rfl (lv_at hl 3 rfl) ?_
  refine lv_iconst (v := 2) hx hb dL_law_445 (by decide) ?_
  refine lv_iadd hx hb dL_law_446 ?_
  refine xv_sld hx hb hX hbl hbA hS (xatI 2 (by omega) hL) dL_law_447 ?_
  refine lv_i2l hx hb dL_law_448 rfl ?_
  refine lv_ldc2 (v := 4294967295) hx hb hown (hts _ law_k26) dL_law_449 ?_
  refine lv_land hx hb dL_law_452 ?_
  refine lv_lor hx hb dL_law_453 ?_
  refine xcall2_i (va_runV (As := [.long (lj (xs (i + 1)) (xs (i + 2)))]) (rest := [.int ((X_begin S (lj (xs (i + 1)) (xs (i + 2)))).1)]) ⟨hx, hb, hml, hown, hts⟩ (c_X1_begin l dC dI ae dL dZ cI N ro hd H.size (lj (xs (i + 1)) (xs (i + 2))) ) (cwV 1 hts gL_law_X1_begin rfl rfl rfl (by decide +kernel) ⟨Nat.le_of_ble_eq_true rfl, Nat.le_of_ble_eq_true rfl⟩) (xpV_w [.long (lj (xs (i + 1)) (xs (i + 2)))] hKm hPM (xD_left (xD_swap hD)) (va_recv hKm hPM (ci := 1) (q0 := 0) rfl rfl)) rfl rfl hl.1 rfl (lv_room (Nat.le_of_ble_eq_true rfl)) dL_law_454 ⟨Nat.le_of_ble_eq_true rfl, Nat.le_of_ble_eq_true rfl⟩) hPX (xD_swap hD) hS hA (fun r u H locs hw hPM hPX hD hS => ?_)
  obtain ⟨u1, ro1, hd1⟩ := u
  obtain ⟨rfl, hu⟩ := hw
  have hu : u1 = _ := hu
  change va_P _ vwCl (wM ae dL dZ cI u1 ro1 hd1) _ at hPM
  change va_D _ (wM ae dL dZ cI u1 ro1 hd1 ++ _) at hD
  rw [hu] at hPM hD
  have hD := xD_swap hD
  have hs := s_begin hsim (lj (xs (i + 1)) (xs (i + 2)))
  refine lv_icmp_eq (tgt := 1031) hx hb dL_law_457 (by decide) (fun c9 => ?_) (fun c9 => ?_)
  · exact kk _ _ _ _ _ _ ls hs.2 ⟨hPX, hPM, hD, hS⟩ (lv_sub hl [0, 1, 2, 3] rfl)
  · exact absurd hs.1 c9
set_option maxHeartbeats 4000000 in
set_option maxRecDepth 100000 in
theorem law_op9 (C1 : lwC p s m meth c b L xs dC dI cL cZ cO dL dZ cI) (hi : i + 8 ≤ L) (ht : t < 512) (hsim : Sim S N t) (hI : lwI s dC dI ad cL cZ cO ae dL dZ cI S N ro hd H locs) (hl : lv_has ls 4 (lwL b ad ae i)) (kk : lwKK p l e s m below meth c b dC dI ad cL cZ cO ae dL dZ cI i t) : W p l e room_1 s m #[Value.ref b] below meth c H locs 600000 7302250 (lw_Z below #[Value.ref b] s) (F0 m 462 ls []) := by
  obtain ⟨C0, hL, hKx, hKm⟩ := C1
  obtain ⟨hx, hb, hr, hml, hown0, hts0, hX, hbl, hlocks, hgv⟩ := C0
  have hown : s.vm.findClass RL = some m.cls := hown0
  have hts : ∀ w ∈ wsL_law, w.before #[Value.ref b] s = true := fun w h => hts0 w (wsL_law_in w h)
  have hA : ∀ q : Nat, s.heap.size ≤ q → lwA s q := fun _ h => h
  have hbA : ¬ lwA s b := Nat.not_le.mpr hbl
  have hBx := hsim.okB.2
  have hBm := hsim.okB.1
  have hDn := hsim.okD (Nat.le_of_lt ht)
  have hRm := hsim.room ht
  obtain ⟨hPX, hPM, hD, hS⟩ := hI
  refine lv_aload_n hx hb dL_law_462 rfl (lv_at hl 1 rfl) ?_
  refine lv_aload_n hx hb dL_law_463 rfl (lv_at hl 0 rfl) ?_
  refine lv_iload_n hx hb dL_law_464 rfl (lv_at hl 3 rfl) ?_
  refine lv_iconst (v := 1) hx hb dL_law_465 (by decide) ?_
  refine lv_iadd hx hb dL_law_466 ?_
  refine xv_sld hx hb hX hbl hbA hS (xatI 1 (by omega) hL) dL_law_467 ?_
  refine xcall2_i (va_runV (As := [.int (xs (i + 1))]) (rest := []) ⟨hx, hb, hml, hown, hts⟩ (c_X0_end l dC dI ad cL cZ cO S H.size (xs (i + 1)) ) (cwV 1 hts gL_law_X0_end rfl rfl rfl (by decide +kernel) ⟨Nat.le_of_ble_eq_true rfl, Nat.le_of_ble_eq_true rfl⟩) (xpV_w [.int (xs (i + 1))] hKx hPX (xD_left hD) (va_recv hKx hPX (ci := 0) (q0 := 0) rfl rfl)) rfl rfl hl.1 rfl (lv_room (Nat.le_of_ble_eq_true rfl)) dL_law_468 ⟨Nat.le_of_ble_eq_true rfl, Nat.le_of_ble_eq_true rfl⟩) hPM hD hS hA (fun r u H locs hw hPX hPM hD hS => ?_)
  obtain ⟨rfl, rfl⟩ := hw
  refine lv_aload_n hx hb dL_law_471 rfl (lv_at hl 2 rfl) ?_
  refine lv_aload_n hx hb dL_law_472 rfl (lv_at hl 0 rfl) ?_
  refine lv_iload_n hx hb dL_law_473 rfl (lv_at hl 3 rfl) ?_
  refine lv_iconst (v := 1) hx hb dL_law_474 (by decide) ?_
  refine lv_iadd hx hb dL_law_475 ?_
  refine xv_sld hx hb hX hbl hbA hS (xatI 1 (by omega) hL) dL_law_476 ?_
  refine xcall2_i (va_runV (As := [.int (xs (i + 1))]) (rest := [.int ((X_end S (xs (i + 1))).1)]) ⟨hx, hb, hml, hown, hts⟩ (c_X1_end l dC dI ae dL dZ cI N ro hd H.size (xs (i + 1)) ) (cwV 1 hts gL_law_X1_end rfl rfl rfl (by decide +kernel) ⟨Nat.le_of_ble_eq_true rfl, Nat.le_of_ble_eq_true rfl⟩) (xpV_w [.int (xs (i + 1))] hKm hPM (xD_left (xD_swap hD)) (va_recv hKm hPM (ci := 1) (q0 := 0) rfl rfl)) rfl rfl hl.1 rfl (lv_room (Nat.le_of_ble_eq_true rfl)) dL_law_477 ⟨Nat.le_of_ble_eq_true rfl, Nat.le_of_ble_eq_true rfl⟩) hPX (xD_swap hD) hS hA (fun r u H locs hw hPM hPX hD hS => ?_)
  obtain ⟨u1, ro1, hd1⟩ := u
  obtain ⟨rfl, hu⟩ := hw
  have hu : u1 = _ := hu
  change va_P _ vwCl (wM ae dL dZ cI u1 ro1 hd1) _ at hPM
  change va_D _ (wM ae dL dZ cI u1 ro1 hd1 ++ _) at hD
  rw [hu] at hPM hD
  have hD := xD_swap hD
  have hs := s_end hsim (xs (i + 1))
  refine lv_icmp_eq (tgt := 1031) hx hb dL_law_480 (by decide) (fun c9 => ?_) (fun c9 => ?_)
  · exact kk _ _ _ _ _ _ ls hs.2 ⟨hPX, hPM, hD, hS⟩ (lv_sub hl [0, 1, 2, 3] rfl)
  · exact absurd hs.1 c9
set_option maxHeartbeats 4000000 in
set_option maxRecDepth 100000 in
theorem law_op10 (C1 : lwC p s m meth c b L xs dC dI cL cZ cO dL dZ cI) (hi : i + 8 ≤ L) (ht : t < 512) (hsim : Sim S N t) (hI : lwI s dC dI ad cL cZ cO ae dL dZ cI S N ro hd H locs) (hl : lv_has ls 4 (lwL b ad ae i)) (kk : lwKK p l e s m below meth c b dC dI ad cL cZ cO ae dL dZ cI i t) : W p l e room_1 s m #[Value.ref b] below meth c H locs 600000 7302250 (lw_Z below #[Value.ref b] s) (F0 m 485 ls []) := by
  obtain ⟨C0, hL, hKx, hKm⟩ := C1
  obtain ⟨hx, hb, hr, hml, hown0, hts0, hX, hbl, hlocks, hgv⟩ := C0
  have hown : s.vm.findClass RL = some m.cls := hown0
  have hts : ∀ w ∈ wsL_law, w.before #[Value.ref b] s = true := fun w h => hts0 w (wsL_law_in w h)
  have hA : ∀ q : Nat, s.heap.size ≤ q → lwA s q := fun _ h => h
  have hbA : ¬ lwA s b := Nat.not_le.mpr hbl
  have hBx := hsim.okB.2
  have hBm := hsim.okB.1
  have hDn := hsim.okD (Nat.le_of_lt ht)
  have hRm := hsim.room ht
  obtain ⟨hPX, hPM, hD, hS⟩ := hI
  refine lv_aload_n hx hb dL_law_485 rfl (lv_at hl 1 rfl) ?_
  refine lv_aload_n hx hb dL_law_486 rfl (lv_at hl 0 rfl) ?_
  refine lv_iload_n hx hb dL_law_487 rfl (lv_at hl 3 rfl) ?_
  refine lv_iconst (v := 1) hx hb dL_law_488 (by decide) ?_
  refine lv_iadd hx hb dL_law_489 ?_
  refine xv_sld hx hb hX hbl hbA hS (xatI 1 (by omega) hL) dL_law_490 ?_
  refine vp_callSl (va_Run.run (va_runV (As := [.int (xs (i + 1))]) (rest := []) ⟨hx, hb, hml, hown, hts⟩ (c_X0_nonce l dC dI ad cL cZ cO S (xs (i + 1)) ) (cwV 1 hts gL_law_X0_nonce rfl rfl rfl (by decide +kernel) ⟨Nat.le_of_ble_eq_true rfl, Nat.le_of_ble_eq_true rfl⟩) (xpV_r [.int (xs (i + 1))] hKx hPX (va_recv hKx hPX (ci := 0) (q0 := 0) rfl rfl)) rfl rfl hl.1 rfl (lv_room (Nat.le_of_ble_eq_true rfl)) dL_law_491 ⟨Nat.le_of_ble_eq_true rfl, Nat.le_of_ble_eq_true rfl⟩)) (fun r hr9 => ?_)
  subst hr9
  refine lv_aload_n hx hb dL_law_494 rfl (lv_at hl 2 rfl) ?_
  refine lv_aload_n hx hb dL_law_495 rfl (lv_at hl 0 rfl) ?_
  refine lv_iload_n hx hb dL_law_496 rfl (lv_at hl 3 rfl) ?_
  refine lv_iconst (v := 1) hx hb dL_law_497 (by decide) ?_
  refine lv_iadd hx hb dL_law_498 ?_
  refine xv_sld hx hb hX hbl hbA hS (xatI 1 (by omega) hL) dL_law_499 ?_
  refine xcall2_l (va_runV (As := [.int (xs (i + 1))]) (rest := [.long (X_nonce S (xs (i + 1)))]) ⟨hx, hb, hml, hown, hts⟩ (c_X1_nonce l dC dI ae dL dZ cI N ro hd H.size (xs (i + 1)) ) (cwV 1 hts gL_law_X1_nonce rfl rfl rfl (by decide +kernel) ⟨Nat.le_of_ble_eq_true rfl, Nat.le_of_ble_eq_true rfl⟩) (xpV_w [.int (xs (i + 1))] hKm hPM (xD_left (xD_swap hD)) (va_recv hKm hPM (ci := 1) (q0 := 0) rfl rfl)) rfl rfl hl.1 rfl (lv_room (Nat.le_of_ble_eq_true rfl)) dL_law_500 ⟨Nat.le_of_ble_eq_true rfl, Nat.le_of_ble_eq_true rfl⟩) hPX (xD_swap hD) hS hA (fun r u H locs hw hPM hPX hD hS => ?_)
  obtain ⟨u1, ro1, hd1⟩ := u
  obtain ⟨rfl, hu⟩ := hw
  have hu : u1 = _ := hu
  change va_P _ vwCl (wM ae dL dZ cI u1 ro1 hd1) _ at hPM
  change va_D _ (wM ae dL dZ cI u1 ro1 hd1 ++ _) at hD
  rw [hu] at hPM hD
  have hD := xD_swap hD
  refine W.lcmp hx hb dL_law_503 ?_
  have hs := s_nonce hsim (xs (i + 1))
  refine lv_if_eq (tgt := 1031) hx hb dL_law_504 (by decide) (fun c9 => ?_) (fun c9 => ?_)
  · exact kk _ _ _ _ _ _ ls hsim.up ⟨hPX, hPM, hD, hS⟩ (lv_sub hl [0, 1, 2, 3] rfl)
  · exact absurd (by rw [hs]; exact lg_cmp_self _) c9
set_option maxHeartbeats 4000000 in
set_option maxRecDepth 100000 in
theorem law_op11 (C1 : lwC p s m meth c b L xs dC dI cL cZ cO dL dZ cI) (hi : i + 8 ≤ L) (ht : t < 512) (hsim : Sim S N t) (hI : lwI s dC dI ad cL cZ cO ae dL dZ cI S N ro hd H locs) (hl : lv_has ls 4 (lwL b ad ae i)) (kk : lwKK p l e s m below meth c b dC dI ad cL cZ cO ae dL dZ cI i t) : W p l e room_1 s m #[Value.ref b] below meth c H locs 600000 7302250 (lw_Z below #[Value.ref b] s) (F0 m 509 ls []) := by
  obtain ⟨C0, hL, hKx, hKm⟩ := C1
  obtain ⟨hx, hb, hr, hml, hown0, hts0, hX, hbl, hlocks, hgv⟩ := C0
  have hown : s.vm.findClass RL = some m.cls := hown0
  have hts : ∀ w ∈ wsL_law, w.before #[Value.ref b] s = true := fun w h => hts0 w (wsL_law_in w h)
  have hA : ∀ q : Nat, s.heap.size ≤ q → lwA s q := fun _ h => h
  have hbA : ¬ lwA s b := Nat.not_le.mpr hbl
  have hBx := hsim.okB.2
  have hBm := hsim.okB.1
  have hDn := hsim.okD (Nat.le_of_lt ht)
  have hRm := hsim.room ht
  obtain ⟨hPX, hPM, hD, hS⟩ := hI
  refine lv_aload_n hx hb dL_law_509 rfl (lv_at hl 1 rfl) ?_
  refine lv_aload_n hx hb dL_law_510 rfl (lv_at hl 0 rfl) ?_
  refine lv_iload_n hx hb dL_law_511 rfl (lv_at hl 3 rfl) ?_
  refine lv_iconst (v := 1) hx hb dL_law_512 (by decide) ?_
  refine lv_iadd hx hb dL_law_513 ?_
  refine xv_sld hx hb hX hbl hbA hS (xatI 1 (by omega) hL) dL_law_514 ?_
  refine lv_i2l hx hb dL_law_515 rfl ?_
  refine lv_bipush (v := 32) hx hb dL_law_516 (by decide) ?_
  refine lv_lshl hx hb dL_law_518 rfl ?_
  refine lv_aload_n hx hb dL_law_519 rfl (lv_at hl 0 rfl) ?_
  refine lv_iload_n hx hb dL_law_520 rfl (lv_at hl 3 rfl) ?_
  refine lv_iconst (v := 2) hx hb dL_law_521 (by decide) ?_
  refine lv_iadd hx hb dL_law_522 ?_
  refine xv_sld hx hb hX hbl hbA hS (xatI 2 (by omega) hL) dL_law_523 ?_
  refine lv_i2l hx hb dL_law_524 rfl ?_
  refine lv_ldc2 (v := 4294967295) hx hb hown (hts _ law_k26) dL_law_525 ?_
  refine lv_land hx hb dL_law_528 ?_
  refine lv_lor hx hb dL_law_529 ?_
  refine lv_aload_n hx hb dL_law_530 rfl (lv_at hl 0 rfl) ?_
  refine lv_iload_n hx hb dL_law_531 rfl (lv_at hl 3 rfl) ?_
  refine lv_iconst (v := 3) hx hb dL_law_532 (by decide) ?_
  refine lv_iadd hx hb dL_law_533 ?_
  refine xv_sld hx hb hX hbl hbA hS (xatI 3 (by omega) hL) dL_law_534 ?_
  refine lv_aload_n hx hb dL_law_535 rfl (lv_at hl 0 rfl) ?_
  refine lv_iload_n hx hb dL_law_536 rfl (lv_at hl 3 rfl) ?_
  refine lv_iconst (v := 4) hx hb dL_law_537 (by decide) ?_
  refine lv_iadd hx hb dL_law_538 ?_
  refine xv_sld hx hb hX hbl hbA hS (xatI 4 (by omega) hL) dL_law_539 ?_
  refine lv_aload_n hx hb dL_law_540 rfl (lv_at hl 0 rfl) ?_
  refine lv_iload_n hx hb dL_law_541 rfl (lv_at hl 3 rfl) ?_
  refine lv_iconst (v := 5) hx hb dL_law_542 (by decide) ?_
  refine lv_iadd hx hb dL_law_543 ?_
  refine xv_sld hx hb hX hbl hbA hS (xatI 5 (by omega) hL) dL_law_544 ?_
  refine lv_aload_n hx hb dL_law_545 rfl (lv_at hl 0 rfl) ?_
  refine lv_iload_n hx hb dL_law_546 rfl (lv_at hl 3 rfl) ?_
  refine lv_bipush (v := 6) hx hb dL_law_547 (by decide) ?_
  refine lv_iadd hx hb dL_law_549 ?_
  refine xv_sld hx hb hX hbl hbA hS (xatI 6 (by omega) hL) dL_law_550 ?_
  refine lv_i2l hx hb dL_law_551 rfl ?_
  refine lv_bipush (v := 32) hx hb dL_law_552 (by decide) ?_
  refine lv_lshl hx hb dL_law_554 rfl ?_
  refine lv_aload_n hx hb dL_law_555 rfl (lv_at hl 0 rfl) ?_
  refine lv_iload_n hx hb dL_law_556 rfl (lv_at hl 3 rfl) ?_
  refine lv_bipush (v := 7) hx hb dL_law_557 (by decide) ?_
  refine lv_iadd hx hb dL_law_559 ?_
  refine xv_sld hx hb hX hbl hbA hS (xatI 7 (by omega) hL) dL_law_560 ?_
  refine lv_i2l hx hb dL_law_561 rfl ?_
  refine lv_ldc2 (v := 4294967295) hx hb hown (hts _ law_k26) dL_law_562 ?_
  refine lv_land hx hb dL_law_565 ?_
  refine lv_lor hx hb dL_law_566 ?_
  refine xcall2_i (va_runV (As := [.long (lj (xs (i + 1)) (xs (i + 2))), .int (xs (i + 3)), .int (xs (i + 4)), .int (xs (i + 5)), .long (lj (xs (i + 6)) (xs (i + 7)))]) (rest := []) ⟨hx, hb, hml, hown, hts⟩ (c_X0_prove l dC dI ad cL cZ cO S H.size (lj (xs (i + 1)) (xs (i + 2))) (xs (i + 3)) (xs (i + 4)) (xs (i + 5)) (lj (xs (i + 6)) (xs (i + 7))) hBx) (cwV 5 hts gL_law_X0_prove rfl rfl rfl (by decide +kernel) ⟨Nat.le_of_ble_eq_true rfl, Nat.le_of_ble_eq_true rfl⟩) (xpV_w [.long (lj (xs (i + 1)) (xs (i + 2))), .int (xs (i + 3)), .int (xs (i + 4)), .int (xs (i + 5)), .long (lj (xs (i + 6)) (xs (i + 7)))] hKx hPX (xD_left hD) (va_recv hKx hPX (ci := 0) (q0 := 0) rfl rfl)) rfl rfl hl.1 rfl (lv_room (Nat.le_of_ble_eq_true rfl)) dL_law_567 ⟨Nat.le_of_ble_eq_true rfl, Nat.le_of_ble_eq_true rfl⟩) hPM hD hS hA (fun r u H locs hw hPX hPM hD hS => ?_)
  obtain ⟨rfl, rfl⟩ := hw
  refine lv_aload_n hx hb dL_law_570 rfl (lv_at hl 2 rfl) ?_
  refine lv_aload_n hx hb dL_law_571 rfl (lv_at hl 0 rfl) ?_
  refine lv_iload_n hx hb dL_law_572 rfl (lv_at hl 3 rfl) ?_
  refine lv_iconst (v := 1) hx hb dL_law_573 (by decide) ?_
  refine lv_iadd hx hb dL_law_574 ?_
  refine xv_sld hx hb hX hbl hbA hS (xatI 1 (by omega) hL) dL_law_575 ?_
  refine lv_i2l hx hb dL_law_576 rfl ?_
  refine lv_bipush (v := 32) hx hb dL_law_577 (by decide) ?_
  refine lv_lshl hx hb dL_law_579 rfl ?_
  refine lv_aload_n hx hb dL_law_580 rfl (lv_at hl 0 rfl) ?_
  refine lv_iload_n hx hb dL_law_581 rfl (lv_at hl 3 rfl) ?_
  refine lv_iconst (v := 2) hx hb dL_law_582 (by decide) ?_
  refine lv_iadd hx hb dL_law_583 ?_
  refine xv_sld hx hb hX hbl hbA hS (xatI 2 (by omega) hL) dL_law_584 ?_
  refine lv_i2l hx hb dL_law_585 rfl ?_
  refine lv_ldc2 (v := 4294967295) hx hb hown (hts _ law_k26) dL_law_586 ?_
  refine lv_land hx hb dL_law_589 ?_
  refine lv_lor hx hb dL_law_590 ?_
  refine lv_aload_n hx hb dL_law_591 rfl (lv_at hl 0 rfl) ?_
  refine lv_iload_n hx hb dL_law_592 rfl (lv_at hl 3 rfl) ?_
  refine lv_iconst (v := 3) hx hb dL_law_593 (by decide) ?_
  refine lv_iadd hx hb dL_law_594 ?_
  refine xv_sld hx hb hX hbl hbA hS (xatI 3 (by omega) hL) dL_law_595 ?_
  refine lv_aload_n hx hb dL_law_596 rfl (lv_at hl 0 rfl) ?_
  refine lv_iload_n hx hb dL_law_597 rfl (lv_at hl 3 rfl) ?_
  refine lv_iconst (v := 4) hx hb dL_law_598 (by decide) ?_
  refine lv_iadd hx hb dL_law_599 ?_
  refine xv_sld hx hb hX hbl hbA hS (xatI 4 (by omega) hL) dL_law_600 ?_
  refine lv_aload_n hx hb dL_law_601 rfl (lv_at hl 0 rfl) ?_
  refine lv_iload_n hx hb dL_law_602 rfl (lv_at hl 3 rfl) ?_
  refine lv_iconst (v := 5) hx hb dL_law_603 (by decide) ?_
  refine lv_iadd hx hb dL_law_604 ?_
  refine xv_sld hx hb hX hbl hbA hS (xatI 5 (by omega) hL) dL_law_605 ?_
  refine lv_aload_n hx hb dL_law_606 rfl (lv_at hl 0 rfl) ?_
  refine lv_iload_n hx hb dL_law_607 rfl (lv_at hl 3 rfl) ?_
  refine lv_bipush (v := 6) hx hb dL_law_608 (by decide) ?_
  refine lv_iadd hx hb dL_law_610 ?_
  refine xv_sld hx hb hX hbl hbA hS (xatI 6 (by omega) hL) dL_law_611 ?_
  refine lv_i2l hx hb dL_law_612 rfl ?_
  refine lv_bipush (v := 32) hx hb dL_law_613 (by decide) ?_
  refine lv_lshl hx hb dL_law_615 rfl ?_
  refine lv_aload_n hx hb dL_law_616 rfl (lv_at hl 0 rfl) ?_
  refine lv_iload_n hx hb dL_law_617 rfl (lv_at hl 3 rfl) ?_
  refine lv_bipush (v := 7) hx hb dL_law_618 (by decide) ?_
  refine lv_iadd hx hb dL_law_620 ?_
  refine xv_sld hx hb hX hbl hbA hS (xatI 7 (by omega) hL) dL_law_621 ?_
  refine lv_i2l hx hb dL_law_622 rfl ?_
  refine lv_ldc2 (v := 4294967295) hx hb hown (hts _ law_k26) dL_law_623 ?_
  refine lv_land hx hb dL_law_626 ?_
  refine lv_lor hx hb dL_law_627 ?_
  refine xcall2_i (va_runV (As := [.long (lj (xs (i + 1)) (xs (i + 2))), .int (xs (i + 3)), .int (xs (i + 4)), .int (xs (i + 5)), .long (lj (xs (i + 6)) (xs (i + 7)))]) (rest := [.int ((X_prove S (lj (xs (i + 1)) (xs (i + 2))) (xs (i + 3)) (xs (i + 4)) (xs (i + 5)) (lj (xs (i + 6)) (xs (i + 7)))).1)]) ⟨hx, hb, hml, hown, hts⟩ (c_X1_prove l dC dI ae dL dZ cI N ro hd H.size (lj (xs (i + 1)) (xs (i + 2))) (xs (i + 3)) (xs (i + 4)) (xs (i + 5)) (lj (xs (i + 6)) (xs (i + 7))) hBm) (cwV 5 hts gL_law_X1_prove rfl rfl rfl (by decide +kernel) ⟨Nat.le_of_ble_eq_true rfl, Nat.le_of_ble_eq_true rfl⟩) (xpV_w [.long (lj (xs (i + 1)) (xs (i + 2))), .int (xs (i + 3)), .int (xs (i + 4)), .int (xs (i + 5)), .long (lj (xs (i + 6)) (xs (i + 7)))] hKm hPM (xD_left (xD_swap hD)) (va_recv hKm hPM (ci := 1) (q0 := 0) rfl rfl)) rfl rfl hl.1 rfl (lv_room (Nat.le_of_ble_eq_true rfl)) dL_law_628 ⟨Nat.le_of_ble_eq_true rfl, Nat.le_of_ble_eq_true rfl⟩) hPX (xD_swap hD) hS hA (fun r u H locs hw hPM hPX hD hS => ?_)
  obtain ⟨u1, ro1, hd1⟩ := u
  obtain ⟨rfl, hu⟩ := hw
  have hu : u1 = _ := hu
  change va_P _ vwCl (wM ae dL dZ cI u1 ro1 hd1) _ at hPM
  change va_D _ (wM ae dL dZ cI u1 ro1 hd1 ++ _) at hD
  rw [hu] at hPM hD
  have hD := xD_swap hD
  have hs := s_prove hsim (lj (xs (i + 1)) (xs (i + 2))) (xs (i + 3)) (xs (i + 4)) (xs (i + 5)) (lj (xs (i + 6)) (xs (i + 7)))
  refine lv_icmp_eq (tgt := 1031) hx hb dL_law_631 (by decide) (fun c9 => ?_) (fun c9 => ?_)
  · exact kk _ _ _ _ _ _ ls hs.2 ⟨hPX, hPM, hD, hS⟩ (lv_sub hl [0, 1, 2, 3] rfl)
  · exact absurd hs.1 c9
set_option maxHeartbeats 4000000 in
set_option maxRecDepth 100000 in
theorem law_op12 (C1 : lwC p s m meth c b L xs dC dI cL cZ cO dL dZ cI) (hi : i + 8 ≤ L) (ht : t < 512) (hsim : Sim S N t) (hI : lwI s dC dI ad cL cZ cO ae dL dZ cI S N ro hd H locs) (hl : lv_has ls 4 (lwL b ad ae i)) (kk : lwKK p l e s m below meth c b dC dI ad cL cZ cO ae dL dZ cI i t) : W p l e room_1 s m #[Value.ref b] below meth c H locs 600000 7302250 (lw_Z below #[Value.ref b] s) (F0 m 636 ls []) := by
  obtain ⟨C0, hL, hKx, hKm⟩ := C1
  obtain ⟨hx, hb, hr, hml, hown0, hts0, hX, hbl, hlocks, hgv⟩ := C0
  have hown : s.vm.findClass RL = some m.cls := hown0
  have hts : ∀ w ∈ wsL_law, w.before #[Value.ref b] s = true := fun w h => hts0 w (wsL_law_in w h)
  have hA : ∀ q : Nat, s.heap.size ≤ q → lwA s q := fun _ h => h
  have hbA : ¬ lwA s b := Nat.not_le.mpr hbl
  have hBx := hsim.okB.2
  have hBm := hsim.okB.1
  have hDn := hsim.okD (Nat.le_of_lt ht)
  have hRm := hsim.room ht
  obtain ⟨hPX, hPM, hD, hS⟩ := hI
  refine lv_aload_n hx hb dL_law_636 rfl (lv_at hl 1 rfl) ?_
  refine lv_aload_n hx hb dL_law_637 rfl (lv_at hl 0 rfl) ?_
  refine lv_iload_n hx hb dL_law_638 rfl (lv_at hl 3 rfl) ?_
  refine lv_iconst (v := 1) hx hb dL_law_639 (by decide) ?_
  refine lv_iadd hx hb dL_law_640 ?_
  refine xv_sld hx hb hX hbl hbA hS (xatI 1 (by omega) hL) dL_law_641 ?_
  refine lv_i2l hx hb dL_law_642 rfl ?_
  refine lv_bipush (v := 32) hx hb dL_law_643 (by decide) ?_
  refine lv_lshl hx hb dL_law_645 rfl ?_
  refine lv_aload_n hx hb dL_law_646 rfl (lv_at hl 0 rfl) ?_
  refine lv_iload_n hx hb dL_law_647 rfl (lv_at hl 3 rfl) ?_
  refine lv_iconst (v := 2) hx hb dL_law_648 (by decide) ?_
  refine lv_iadd hx hb dL_law_649 ?_
  refine xv_sld hx hb hX hbl hbA hS (xatI 2 (by omega) hL) dL_law_650 ?_
  refine lv_i2l hx hb dL_law_651 rfl ?_
  refine lv_ldc2 (v := 4294967295) hx hb hown (hts _ law_k26) dL_law_652 ?_
  refine lv_land hx hb dL_law_655 ?_
  refine lv_lor hx hb dL_law_656 ?_
  refine xcall2_v (va_runV (As := [.long (lj (xs (i + 1)) (xs (i + 2)))]) (rest := []) ⟨hx, hb, hml, hown, hts⟩ (c_X0_present l dC dI ad cL cZ cO S H.size (lj (xs (i + 1)) (xs (i + 2))) ) (cwV 1 hts gL_law_X0_present rfl rfl rfl (by decide +kernel) ⟨Nat.le_of_ble_eq_true rfl, Nat.le_of_ble_eq_true rfl⟩) (xpV_w [.long (lj (xs (i + 1)) (xs (i + 2)))] hKx hPX (xD_left hD) (va_recv hKx hPX (ci := 0) (q0 := 0) rfl rfl)) rfl rfl hl.1 rfl (lv_room (Nat.le_of_ble_eq_true rfl)) dL_law_657 ⟨Nat.le_of_ble_eq_true rfl, Nat.le_of_ble_eq_true rfl⟩) hPM hD hS hA (fun u H locs hw hPX hPM hD hS => ?_)
  subst hw
  refine lv_aload_n hx hb dL_law_660 rfl (lv_at hl 2 rfl) ?_
  refine lv_aload_n hx hb dL_law_661 rfl (lv_at hl 0 rfl) ?_
  refine lv_iload_n hx hb dL_law_662 rfl (lv_at hl 3 rfl) ?_
  refine lv_iconst (v := 1) hx hb dL_law_663 (by decide) ?_
  refine lv_iadd hx hb dL_law_664 ?_
  refine xv_sld hx hb hX hbl hbA hS (xatI 1 (by omega) hL) dL_law_665 ?_
  refine lv_i2l hx hb dL_law_666 rfl ?_
  refine lv_bipush (v := 32) hx hb dL_law_667 (by decide) ?_
  refine lv_lshl hx hb dL_law_669 rfl ?_
  refine lv_aload_n hx hb dL_law_670 rfl (lv_at hl 0 rfl) ?_
  refine lv_iload_n hx hb dL_law_671 rfl (lv_at hl 3 rfl) ?_
  refine lv_iconst (v := 2) hx hb dL_law_672 (by decide) ?_
  refine lv_iadd hx hb dL_law_673 ?_
  refine xv_sld hx hb hX hbl hbA hS (xatI 2 (by omega) hL) dL_law_674 ?_
  refine lv_i2l hx hb dL_law_675 rfl ?_
  refine lv_ldc2 (v := 4294967295) hx hb hown (hts _ law_k26) dL_law_676 ?_
  refine lv_land hx hb dL_law_679 ?_
  refine lv_lor hx hb dL_law_680 ?_
  refine xcall2_v (va_runV (As := [.long (lj (xs (i + 1)) (xs (i + 2)))]) (rest := []) ⟨hx, hb, hml, hown, hts⟩ (c_X1_present l dC dI ae dL dZ cI N ro hd H.size (lj (xs (i + 1)) (xs (i + 2))) ) (cwV 1 hts gL_law_X1_present rfl rfl rfl (by decide +kernel) ⟨Nat.le_of_ble_eq_true rfl, Nat.le_of_ble_eq_true rfl⟩) (xpV_w [.long (lj (xs (i + 1)) (xs (i + 2)))] hKm hPM (xD_left (xD_swap hD)) (va_recv hKm hPM (ci := 1) (q0 := 0) rfl rfl)) rfl rfl hl.1 rfl (lv_room (Nat.le_of_ble_eq_true rfl)) dL_law_681 ⟨Nat.le_of_ble_eq_true rfl, Nat.le_of_ble_eq_true rfl⟩) hPX (xD_swap hD) hS hA (fun u H locs hw hPM hPX hD hS => ?_)
  obtain ⟨u1, ro1, hd1⟩ := u
  have hu : u1 = _ := hw
  change va_P _ vwCl (wM ae dL dZ cI u1 ro1 hd1) _ at hPM
  change va_D _ (wM ae dL dZ cI u1 ro1 hd1 ++ _) at hD
  rw [hu] at hPM hD
  have hD := xD_swap hD
  refine lv_goto (tgt := 1031) hx hb dL_law_684 (by decide) ?_
  exact kk _ _ _ _ _ _ ls (s_present hsim (lj (xs (i + 1)) (xs (i + 2)))) ⟨hPX, hPM, hD, hS⟩ (lv_sub hl [0, 1, 2, 3] rfl)
set_option maxHeartbeats 4000000 in
set_option maxRecDepth 100000 in
theorem law_op13 (C1 : lwC p s m meth c b L xs dC dI cL cZ cO dL dZ cI) (hi : i + 8 ≤ L) (ht : t < 512) (hsim : Sim S N t) (hI : lwI s dC dI ad cL cZ cO ae dL dZ cI S N ro hd H locs) (hl : lv_has ls 4 (lwL b ad ae i)) (kk : lwKK p l e s m below meth c b dC dI ad cL cZ cO ae dL dZ cI i t) : W p l e room_1 s m #[Value.ref b] below meth c H locs 600000 7302250 (lw_Z below #[Value.ref b] s) (F0 m 687 ls []) := by
  obtain ⟨C0, hL, hKx, hKm⟩ := C1
  obtain ⟨hx, hb, hr, hml, hown0, hts0, hX, hbl, hlocks, hgv⟩ := C0
  have hown : s.vm.findClass RL = some m.cls := hown0
  have hts : ∀ w ∈ wsL_law, w.before #[Value.ref b] s = true := fun w h => hts0 w (wsL_law_in w h)
  have hA : ∀ q : Nat, s.heap.size ≤ q → lwA s q := fun _ h => h
  have hbA : ¬ lwA s b := Nat.not_le.mpr hbl
  have hBx := hsim.okB.2
  have hBm := hsim.okB.1
  have hDn := hsim.okD (Nat.le_of_lt ht)
  have hRm := hsim.room ht
  obtain ⟨hPX, hPM, hD, hS⟩ := hI
  refine lv_aload_n hx hb dL_law_687 rfl (lv_at hl 1 rfl) ?_
  refine lv_aload_n hx hb dL_law_688 rfl (lv_at hl 0 rfl) ?_
  refine lv_iload_n hx hb dL_law_689 rfl (lv_at hl 3 rfl) ?_
  refine lv_iconst (v := 1) hx hb dL_law_690 (by decide) ?_
  refine lv_iadd hx hb dL_law_691 ?_
  refine xv_sld hx hb hX hbl hbA hS (xatI 1 (by omega) hL) dL_law_692 ?_
  refine lv_aload_n hx hb dL_law_693 rfl (lv_at hl 0 rfl) ?_
  refine lv_iload_n hx hb dL_law_694 rfl (lv_at hl 3 rfl) ?_
  refine lv_iconst (v := 2) hx hb dL_law_695 (by decide) ?_
  refine lv_iadd hx hb dL_law_696 ?_
  refine xv_sld hx hb hX hbl hbA hS (xatI 2 (by omega) hL) dL_law_697 ?_
  refine lv_aload_n hx hb dL_law_698 rfl (lv_at hl 0 rfl) ?_
  refine lv_iload_n hx hb dL_law_699 rfl (lv_at hl 3 rfl) ?_
  refine lv_iconst (v := 3) hx hb dL_law_700 (by decide) ?_
  refine lv_iadd hx hb dL_law_701 ?_
  refine xv_sld hx hb hX hbl hbA hS (xatI 3 (by omega) hL) dL_law_702 ?_
  refine lv_aload_n hx hb dL_law_703 rfl (lv_at hl 0 rfl) ?_
  refine lv_iload_n hx hb dL_law_704 rfl (lv_at hl 3 rfl) ?_
  refine lv_iconst (v := 4) hx hb dL_law_705 (by decide) ?_
  refine lv_iadd hx hb dL_law_706 ?_
  refine xv_sld hx hb hX hbl hbA hS (xatI 4 (by omega) hL) dL_law_707 ?_
  refine lv_i2l hx hb dL_law_708 rfl ?_
  refine lv_bipush (v := 32) hx hb dL_law_709 (by decide) ?_
  refine lv_lshl hx hb dL_law_711 rfl ?_
  refine lv_aload_n hx hb dL_law_712 rfl (lv_at hl 0 rfl) ?_
  refine lv_iload_n hx hb dL_law_713 rfl (lv_at hl 3 rfl) ?_
  refine lv_iconst (v := 5) hx hb dL_law_714 (by decide) ?_
  refine lv_iadd hx hb dL_law_715 ?_
  refine xv_sld hx hb hX hbl hbA hS (xatI 5 (by omega) hL) dL_law_716 ?_
  refine lv_i2l hx hb dL_law_717 rfl ?_
  refine lv_ldc2 (v := 4294967295) hx hb hown (hts _ law_k26) dL_law_718 ?_
  refine lv_land hx hb dL_law_721 ?_
  refine lv_lor hx hb dL_law_722 ?_
  refine xcall2_i (va_runV (As := [.int (xs (i + 1)), .int (xs (i + 2)), .int (xs (i + 3)), .long (lj (xs (i + 4)) (xs (i + 5)))]) (rest := []) ⟨hx, hb, hml, hown, hts⟩ (c_X0_seal l dC dI ad cL cZ cO S H.size (xs (i + 1)) (xs (i + 2)) (xs (i + 3)) (lj (xs (i + 4)) (xs (i + 5))) hBx) (cwV 4 hts gL_law_X0_seal rfl rfl rfl (by decide +kernel) ⟨Nat.le_of_ble_eq_true rfl, Nat.le_of_ble_eq_true rfl⟩) (xpV_w [.int (xs (i + 1)), .int (xs (i + 2)), .int (xs (i + 3)), .long (lj (xs (i + 4)) (xs (i + 5)))] hKx hPX (xD_left hD) (va_recv hKx hPX (ci := 0) (q0 := 0) rfl rfl)) rfl rfl hl.1 rfl (lv_room (Nat.le_of_ble_eq_true rfl)) dL_law_723 ⟨Nat.le_of_ble_eq_true rfl, Nat.le_of_ble_eq_true rfl⟩) hPM hD hS hA (fun r u H locs hw hPX hPM hD hS => ?_)
  obtain ⟨rfl, rfl⟩ := hw
  refine lv_aload_n hx hb dL_law_726 rfl (lv_at hl 2 rfl) ?_
  refine lv_aload_n hx hb dL_law_727 rfl (lv_at hl 0 rfl) ?_
  refine lv_iload_n hx hb dL_law_728 rfl (lv_at hl 3 rfl) ?_
  refine lv_iconst (v := 1) hx hb dL_law_729 (by decide) ?_
  refine lv_iadd hx hb dL_law_730 ?_
  refine xv_sld hx hb hX hbl hbA hS (xatI 1 (by omega) hL) dL_law_731 ?_
  refine lv_aload_n hx hb dL_law_732 rfl (lv_at hl 0 rfl) ?_
  refine lv_iload_n hx hb dL_law_733 rfl (lv_at hl 3 rfl) ?_
  refine lv_iconst (v := 2) hx hb dL_law_734 (by decide) ?_
  refine lv_iadd hx hb dL_law_735 ?_
  refine xv_sld hx hb hX hbl hbA hS (xatI 2 (by omega) hL) dL_law_736 ?_
  refine lv_aload_n hx hb dL_law_737 rfl (lv_at hl 0 rfl) ?_
  refine lv_iload_n hx hb dL_law_738 rfl (lv_at hl 3 rfl) ?_
  refine lv_iconst (v := 3) hx hb dL_law_739 (by decide) ?_
  refine lv_iadd hx hb dL_law_740 ?_
  refine xv_sld hx hb hX hbl hbA hS (xatI 3 (by omega) hL) dL_law_741 ?_
  refine lv_aload_n hx hb dL_law_742 rfl (lv_at hl 0 rfl) ?_
  refine lv_iload_n hx hb dL_law_743 rfl (lv_at hl 3 rfl) ?_
  refine lv_iconst (v := 4) hx hb dL_law_744 (by decide) ?_
  refine lv_iadd hx hb dL_law_745 ?_
  refine xv_sld hx hb hX hbl hbA hS (xatI 4 (by omega) hL) dL_law_746 ?_
  refine lv_i2l hx hb dL_law_747 rfl ?_
  refine lv_bipush (v := 32) hx hb dL_law_748 (by decide) ?_
  refine lv_lshl hx hb dL_law_750 rfl ?_
  refine lv_aload_n hx hb dL_law_751 rfl (lv_at hl 0 rfl) ?_
  refine lv_iload_n hx hb dL_law_752 rfl (lv_at hl 3 rfl) ?_
  refine lv_iconst (v := 5) hx hb dL_law_753 (by decide) ?_
  refine lv_iadd hx hb dL_law_754 ?_
  refine xv_sld hx hb hX hbl hbA hS (xatI 5 (by omega) hL) dL_law_755 ?_
  refine lv_i2l hx hb dL_law_756 rfl ?_
  refine lv_ldc2 (v := 4294967295) hx hb hown (hts _ law_k26) dL_law_757 ?_
  refine lv_land hx hb dL_law_760 ?_
  refine lv_lor hx hb dL_law_761 ?_
  refine xcall2_i (va_runV (As := [.int (xs (i + 1)), .int (xs (i + 2)), .int (xs (i + 3)), .long (lj (xs (i + 4)) (xs (i + 5)))]) (rest := [.int ((X_seal S (xs (i + 1)) (xs (i + 2)) (xs (i + 3)) (lj (xs (i + 4)) (xs (i + 5)))).1)]) ⟨hx, hb, hml, hown, hts⟩ (c_X1_seal l dC dI ae dL dZ cI N ro hd H.size (xs (i + 1)) (xs (i + 2)) (xs (i + 3)) (lj (xs (i + 4)) (xs (i + 5))) hBm hDn) (cwV 4 hts gL_law_X1_seal rfl rfl rfl (by decide +kernel) ⟨Nat.le_of_ble_eq_true rfl, Nat.le_of_ble_eq_true rfl⟩) (xpV_w [.int (xs (i + 1)), .int (xs (i + 2)), .int (xs (i + 3)), .long (lj (xs (i + 4)) (xs (i + 5)))] hKm hPM (xD_left (xD_swap hD)) (va_recv hKm hPM (ci := 1) (q0 := 0) rfl rfl)) rfl rfl hl.1 rfl (lv_room (Nat.le_of_ble_eq_true rfl)) dL_law_762 ⟨Nat.le_of_ble_eq_true rfl, Nat.le_of_ble_eq_true rfl⟩) hPX (xD_swap hD) hS hA (fun r u H locs hw hPM hPX hD hS => ?_)
  obtain ⟨u1, ro1, hd1⟩ := u
  obtain ⟨rfl, hu⟩ := hw
  have hu : u1 = _ := hu
  change va_P _ vwCl (wM ae dL dZ cI u1 ro1 hd1) _ at hPM
  change va_D _ (wM ae dL dZ cI u1 ro1 hd1 ++ _) at hD
  rw [hu] at hPM hD
  have hD := xD_swap hD
  have hs := s_seal hsim (xs (i + 1)) (xs (i + 2)) (xs (i + 3)) (lj (xs (i + 4)) (xs (i + 5)))
  refine lv_icmp_eq (tgt := 1031) hx hb dL_law_765 (by decide) (fun c9 => ?_) (fun c9 => ?_)
  · exact kk _ _ _ _ _ _ ls hs.2 ⟨hPX, hPM, hD, hS⟩ (lv_sub hl [0, 1, 2, 3] rfl)
  · exact absurd hs.1 c9
end LWO
