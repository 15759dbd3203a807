section LWO
variable {p : Program} {l : Launch} {e : Env} {s : State} {m : MethodId} {below : List Frame} {meth : Method} {c : Code} {b L : Nat} {xs : Nat → Int32}
variable {dC : Nat → ClassId} {dI : Nat → Nat → Nat} {ad : Nat → Nat} {cL cZ cO : ClassId} {ae : Nat → Nat} {dL dZ cI : ClassId}
variable {S : SX} {N : SM} {ro hd : Nat → Int64} {H : Heap} {locs : List Loc} {i t : Nat} {ls : Array Slot}
set_option maxHeartbeats 4000000 in
set_option maxRecDepth 100000 in
theorem law_op0 (C1 : lwC p s m meth c b L xs dC dI cL cZ cO dL dZ cI) (hi : i + 8 ≤ L) (ht : t < 512) (hsim : Sim S N t) (hI : lwI s dC dI ad cL cZ cO ae dL dZ cI S N ro hd H locs) (hl : lv_has ls 4 (lwL b ad ae i)) (kk : lwKK p l e s m below meth c b dC dI ad cL cZ cO ae dL dZ cI i t) : W p l e room_1 s m #[Value.ref b] below meth c H locs 600000 7302250 (lw_Z below #[Value.ref b] s) (F0 m 152 ls []) := by
  obtain ⟨C0, hL, hKx, hKm⟩ := C1
  obtain ⟨hx, hb, hr, hml, hown0, hts0, hX, hbl, hlocks, hgv⟩ := C0
  have hown : s.vm.findClass RL = some m.cls := hown0
  have hts : ∀ w ∈ wsL_law, w.before #[Value.ref b] s = true := fun w h => hts0 w (wsL_law_in w h)
  have hA : ∀ q : Nat, s.heap.size ≤ q → lwA s q := fun _ h => h
  have hbA : ¬ lwA s b := Nat.not_le.mpr hbl
  have hBx := hsim.okB.2
  have hBm := hsim.okB.1
  have hDn := hsim.okD (Nat.le_of_lt ht)
  have hRm := hsim.room ht
  obtain ⟨hPX, hPM, hD, hS⟩ := hI
  refine lv_aload_n hx hb dL_law_152 rfl (lv_at hl 1 rfl) ?_
  refine lv_aload_n hx hb dL_law_153 rfl (lv_at hl 0 rfl) ?_
  refine lv_iload_n hx hb dL_law_154 rfl (lv_at hl 3 rfl) ?_
  refine lv_iconst (v := 1) hx hb dL_law_155 (by decide) ?_
  refine lv_iadd hx hb dL_law_156 ?_
  refine xv_sld hx hb hX hbl hbA hS (xatI 1 (by omega) hL) dL_law_157 ?_
  refine xcall2_i (va_runV (As := [.int (xs (i + 1))]) (rest := []) ⟨hx, hb, hml, hown, hts⟩ (c_X0_locality l dC dI ad cL cZ cO S H.size (xs (i + 1)) ) (cwV 1 hts gL_law_X0_locality rfl rfl rfl (by decide +kernel) ⟨Nat.le_of_ble_eq_true rfl, Nat.le_of_ble_eq_true rfl⟩) (xpV_w [.int (xs (i + 1))] hKx hPX (xD_left hD) (va_recv hKx hPX (ci := 0) (q0 := 0) rfl rfl)) rfl rfl hl.1 rfl (lv_room (Nat.le_of_ble_eq_true rfl)) dL_law_158 ⟨Nat.le_of_ble_eq_true rfl, Nat.le_of_ble_eq_true rfl⟩) hPM hD hS hA (fun r u H locs hw hPX hPM hD hS => ?_)
  obtain ⟨rfl, rfl⟩ := hw
  refine lv_aload_n hx hb dL_law_161 rfl (lv_at hl 2 rfl) ?_
  refine lv_aload_n hx hb dL_law_162 rfl (lv_at hl 0 rfl) ?_
  refine lv_iload_n hx hb dL_law_163 rfl (lv_at hl 3 rfl) ?_
  refine lv_iconst (v := 1) hx hb dL_law_164 (by decide) ?_
  refine lv_iadd hx hb dL_law_165 ?_
  refine xv_sld hx hb hX hbl hbA hS (xatI 1 (by omega) hL) dL_law_166 ?_
  refine xcall2_i (va_runV (As := [.int (xs (i + 1))]) (rest := [.int ((X_locality S (xs (i + 1))).1)]) ⟨hx, hb, hml, hown, hts⟩ (c_X1_locality l dC dI ae dL dZ cI N ro hd H.size (xs (i + 1)) ) (cwV 1 hts gL_law_X1_locality rfl rfl rfl (by decide +kernel) ⟨Nat.le_of_ble_eq_true rfl, Nat.le_of_ble_eq_true rfl⟩) (xpV_w [.int (xs (i + 1))] hKm hPM (xD_left (xD_swap hD)) (va_recv hKm hPM (ci := 1) (q0 := 0) rfl rfl)) rfl rfl hl.1 rfl (lv_room (Nat.le_of_ble_eq_true rfl)) dL_law_167 ⟨Nat.le_of_ble_eq_true rfl, Nat.le_of_ble_eq_true rfl⟩) hPX (xD_swap hD) hS hA (fun r u H locs hw hPM hPX hD hS => ?_)
  obtain ⟨u1, ro1, hd1⟩ := u
  obtain ⟨rfl, hu⟩ := hw
  have hu : u1 = _ := hu
  change va_P _ vwCl (wM ae dL dZ cI u1 ro1 hd1) _ at hPM
  change va_D _ (wM ae dL dZ cI u1 ro1 hd1 ++ _) at hD
  rw [hu] at hPM hD
  have hD := xD_swap hD
  have hs := s_locality hsim (xs (i + 1))
  refine lv_icmp_eq (tgt := 1031) hx hb dL_law_170 (by decide) (fun c9 => ?_) (fun c9 => ?_)
  · exact kk _ _ _ _ _ _ ls hs.2 ⟨hPX, hPM, hD, hS⟩ (lv_sub hl [0, 1, 2, 3] rfl)
  · exact absurd hs.1 c9
set_option maxHeartbeats 4000000 in
set_option maxRecDepth 100000 in
theorem law_op1 (C1 : lwC p s m meth c b L xs dC dI cL cZ cO dL dZ cI) (hi : i + 8 ≤ L) (ht : t < 512) (hsim : Sim S N t) (hI : lwI s dC dI ad cL cZ cO ae dL dZ cI S N ro hd H locs) (hl : lv_has ls 4 (lwL b ad ae i)) (kk : lwKK p l e s m below meth c b dC dI ad cL cZ cO ae dL dZ cI i t) : W p l e room_1 s m #[Value.ref b] below meth c H locs 600000 7302250 (lw_Z below #[Value.ref b] s) (F0 m 175 ls []) := by
  obtain ⟨C0, hL, hKx, hKm⟩ := C1
  obtain ⟨hx, hb, hr, hml, hown0, hts0, hX, hbl, hlocks, hgv⟩ := C0
  have hown : s.vm.findClass RL = some m.cls := hown0
  have hts : ∀ w ∈ wsL_law, w.before #[Value.ref b] s = true := fun w h => hts0 w (wsL_law_in w h)
  have hA : ∀ q : Nat, s.heap.size ≤ q → lwA s q := fun _ h => h
  have hbA : ¬ lwA s b := Nat.not_le.mpr hbl
  have hBx := hsim.okB.2
  have hBm := hsim.okB.1
  have hDn := hsim.okD (Nat.le_of_lt ht)
  have hRm := hsim.room ht
  obtain ⟨hPX, hPM, hD, hS⟩ := hI
  refine lv_aload_n hx hb dL_law_175 rfl (lv_at hl 1 rfl) ?_
  refine lv_aload_n hx hb dL_law_176 rfl (lv_at hl 0 rfl) ?_
  refine lv_iload_n hx hb dL_law_177 rfl (lv_at hl 3 rfl) ?_
  refine lv_iconst (v := 1) hx hb dL_law_178 (by decide) ?_
  refine lv_iadd hx hb dL_law_179 ?_
  refine xv_sld hx hb hX hbl hbA hS (xatI 1 (by omega) hL) dL_law_180 ?_
  refine lv_aload_n hx hb dL_law_181 rfl (lv_at hl 0 rfl) ?_
  refine lv_iload_n hx hb dL_law_182 rfl (lv_at hl 3 rfl) ?_
  refine lv_iconst (v := 2) hx hb dL_law_183 (by decide) ?_
  refine lv_iadd hx hb dL_law_184 ?_
  refine xv_sld hx hb hX hbl hbA hS (xatI 2 (by omega) hL) dL_law_185 ?_
  refine lv_i2l hx hb dL_law_186 rfl ?_
  refine lv_bipush (v := 32) hx hb dL_law_187 (by decide) ?_
  refine lv_lshl hx hb dL_law_189 rfl ?_
  refine lv_aload_n hx hb dL_law_190 rfl (lv_at hl 0 rfl) ?_
  refine lv_iload_n hx hb dL_law_191 rfl (lv_at hl 3 rfl) ?_
  refine lv_iconst (v := 3) hx hb dL_law_192 (by decide) ?_
  refine lv_iadd hx hb dL_law_193 ?_
  refine xv_sld hx hb hX hbl hbA hS (xatI 3 (by omega) hL) dL_law_194 ?_
  refine lv_i2l hx hb dL_law_195 rfl ?_
  refine lv_ldc2 (v := 4294967295) hx hb hown (hts _ law_k26) dL_law_196 ?_
  refine lv_land hx hb dL_law_199 ?_
  refine lv_lor hx hb dL_law_200 ?_
  refine xcall2_i (va_runV (As := [.int (xs (i + 1)), .long (lj (xs (i + 2)) (xs (i + 3)))]) (rest := []) ⟨hx, hb, hml, hown, hts⟩ (c_X0_extend l dC dI ad cL cZ cO S H.size (xs (i + 1)) (lj (xs (i + 2)) (xs (i + 3))) ) (cwV 2 hts gL_law_X0_extend rfl rfl rfl (by decide +kernel) ⟨Nat.le_of_ble_eq_true rfl, Nat.le_of_ble_eq_true rfl⟩) (xpV_w [.int (xs (i + 1)), .long (lj (xs (i + 2)) (xs (i + 3)))] hKx hPX (xD_left hD) (va_recv hKx hPX (ci := 0) (q0 := 0) rfl rfl)) rfl rfl hl.1 rfl (lv_room (Nat.le_of_ble_eq_true rfl)) dL_law_201 ⟨Nat.le_of_ble_eq_true rfl, Nat.le_of_ble_eq_true rfl⟩) hPM hD hS hA (fun r u H locs hw hPX hPM hD hS => ?_)
  obtain ⟨rfl, rfl⟩ := hw
  refine lv_aload_n hx hb dL_law_204 rfl (lv_at hl 2 rfl) ?_
  refine lv_aload_n hx hb dL_law_205 rfl (lv_at hl 0 rfl) ?_
  refine lv_iload_n hx hb dL_law_206 rfl (lv_at hl 3 rfl) ?_
  refine lv_iconst (v := 1) hx hb dL_law_207 (by decide) ?_
  refine lv_iadd hx hb dL_law_208 ?_
  refine xv_sld hx hb hX hbl hbA hS (xatI 1 (by omega) hL) dL_law_209 ?_
  refine lv_aload_n hx hb dL_law_210 rfl (lv_at hl 0 rfl) ?_
  refine lv_iload_n hx hb dL_law_211 rfl (lv_at hl 3 rfl) ?_
  refine lv_iconst (v := 2) hx hb dL_law_212 (by decide) ?_
  refine lv_iadd hx hb dL_law_213 ?_
  refine xv_sld hx hb hX hbl hbA hS (xatI 2 (by omega) hL) dL_law_214 ?_
  refine lv_i2l hx hb dL_law_215 rfl ?_
  refine lv_bipush (v := 32) hx hb dL_law_216 (by decide) ?_
  refine lv_lshl hx hb dL_law_218 rfl ?_
  refine lv_aload_n hx hb dL_law_219 rfl (lv_at hl 0 rfl) ?_
  refine lv_iload_n hx hb dL_law_220 rfl (lv_at hl 3 rfl) ?_
  refine lv_iconst (v := 3) hx hb dL_law_221 (by decide) ?_
  refine lv_iadd hx hb dL_law_222 ?_
  refine xv_sld hx hb hX hbl hbA hS (xatI 3 (by omega) hL) dL_law_223 ?_
  refine lv_i2l hx hb dL_law_224 rfl ?_
  refine lv_ldc2 (v := 4294967295) hx hb hown (hts _ law_k26) dL_law_225 ?_
  refine lv_land hx hb dL_law_228 ?_
  refine lv_lor hx hb dL_law_229 ?_
  refine xcall2_i (va_runV (As := [.int (xs (i + 1)), .long (lj (xs (i + 2)) (xs (i + 3)))]) (rest := [.int ((X_extend S (xs (i + 1)) (lj (xs (i + 2)) (xs (i + 3)))).1)]) ⟨hx, hb, hml, hown, hts⟩ (c_X1_extend l dC dI ae dL dZ cI N ro hd H.size (xs (i + 1)) (lj (xs (i + 2)) (xs (i + 3))) hRm) (cwV 2 hts gL_law_X1_extend rfl rfl rfl (by decide +kernel) ⟨Nat.le_of_ble_eq_true rfl, Nat.le_of_ble_eq_true rfl⟩) (xpV_w [.int (xs (i + 1)), .long (lj (xs (i + 2)) (xs (i + 3)))] hKm hPM (xD_left (xD_swap hD)) (va_recv hKm hPM (ci := 1) (q0 := 0) rfl rfl)) rfl rfl hl.1 rfl (lv_room (Nat.le_of_ble_eq_true rfl)) dL_law_230 ⟨Nat.le_of_ble_eq_true rfl, Nat.le_of_ble_eq_true rfl⟩) hPX (xD_swap hD) hS hA (fun r u H locs hw hPM hPX hD hS => ?_)
  obtain ⟨u1, ro1, hd1⟩ := u
  obtain ⟨rfl, hu⟩ := hw
  have hu : u1 = _ := hu
  change va_P _ vwCl (wM ae dL dZ cI u1 ro1 hd1) _ at hPM
  change va_D _ (wM ae dL dZ cI u1 ro1 hd1 ++ _) at hD
  rw [hu] at hPM hD
  have hD := xD_swap hD
  have hs := s_extend ht hsim (xs (i + 1)) (lj (xs (i + 2)) (xs (i + 3)))
  refine lv_icmp_eq (tgt := 1031) hx hb dL_law_233 (by decide) (fun c9 => ?_) (fun c9 => ?_)
  · exact kk _ _ _ _ _ _ ls hs.2 ⟨hPX, hPM, hD, hS⟩ (lv_sub hl [0, 1, 2, 3] rfl)
  · exact absurd hs.1 c9
set_option maxHeartbeats 4000000 in
set_option maxRecDepth 100000 in
theorem law_op2 (C1 : lwC p s m meth c b L xs dC dI cL cZ cO dL dZ cI) (hi : i + 8 ≤ L) (ht : t < 512) (hsim : Sim S N t) (hI : lwI s dC dI ad cL cZ cO ae dL dZ cI S N ro hd H locs) (hl : lv_has ls 4 (lwL b ad ae i)) (kk : lwKK p l e s m below meth c b dC dI ad cL cZ cO ae dL dZ cI i t) : W p l e room_1 s m #[Value.ref b] below meth c H locs 600000 7302250 (lw_Z below #[Value.ref b] s) (F0 m 238 ls []) := by
  obtain ⟨C0, hL, hKx, hKm⟩ := C1
  obtain ⟨hx, hb, hr, hml, hown0, hts0, hX, hbl, hlocks, hgv⟩ := C0
  have hown : s.vm.findClass RL = some m.cls := hown0
  have hts : ∀ w ∈ wsL_law, w.before #[Value.ref b] s = true := fun w h => hts0 w (wsL_law_in w h)
  have hA : ∀ q : Nat, s.heap.size ≤ q → lwA s q := fun _ h => h
  have hbA : ¬ lwA s b := Nat.not_le.mpr hbl
  have hBx := hsim.okB.2
  have hBm := hsim.okB.1
  have hDn := hsim.okD (Nat.le_of_lt ht)
  have hRm := hsim.room ht
  obtain ⟨hPX, hPM, hD, hS⟩ := hI
  refine lv_aload_n hx hb dL_law_238 rfl (lv_at hl 1 rfl) ?_
  refine lv_aload_n hx hb dL_law_239 rfl (lv_at hl 0 rfl) ?_
  refine lv_iload_n hx hb dL_law_240 rfl (lv_at hl 3 rfl) ?_
  refine lv_iconst (v := 1) hx hb dL_law_241 (by decide) ?_
  refine lv_iadd hx hb dL_law_242 ?_
  refine xv_sld hx hb hX hbl hbA hS (xatI 1 (by omega) hL) dL_law_243 ?_
  refine xcall2_i (va_runV (As := [.int (xs (i + 1))]) (rest := []) ⟨hx, hb, hml, hown, hts⟩ (c_X0_reset l dC dI ad cL cZ cO S H.size (xs (i + 1)) ) (cwV 1 hts gL_law_X0_reset rfl rfl rfl (by decide +kernel) ⟨Nat.le_of_ble_eq_true rfl, Nat.le_of_ble_eq_true rfl⟩) (xpV_w [.int (xs (i + 1))] hKx hPX (xD_left hD) (va_recv hKx hPX (ci := 0) (q0 := 0) rfl rfl)) rfl rfl hl.1 rfl (lv_room (Nat.le_of_ble_eq_true rfl)) dL_law_244 ⟨Nat.le_of_ble_eq_true rfl, Nat.le_of_ble_eq_true rfl⟩) hPM hD hS hA (fun r u H locs hw hPX hPM hD hS => ?_)
  obtain ⟨rfl, rfl⟩ := hw
  refine lv_aload_n hx hb dL_law_247 rfl (lv_at hl 2 rfl) ?_
  refine lv_aload_n hx hb dL_law_248 rfl (lv_at hl 0 rfl) ?_
  refine lv_iload_n hx hb dL_law_249 rfl (lv_at hl 3 rfl) ?_
  refine lv_iconst (v := 1) hx hb dL_law_250 (by decide) ?_
  refine lv_iadd hx hb dL_law_251 ?_
  refine xv_sld hx hb hX hbl hbA hS (xatI 1 (by omega) hL) dL_law_252 ?_
  refine xcall2_i (va_runV (As := [.int (xs (i + 1))]) (rest := [.int ((X_reset S (xs (i + 1))).1)]) ⟨hx, hb, hml, hown, hts⟩ (c_X1_reset l dC dI ae dL dZ cI N ro hd H.size (xs (i + 1)) hRm) (cwV 1 hts gL_law_X1_reset rfl rfl rfl (by decide +kernel) ⟨Nat.le_of_ble_eq_true rfl, Nat.le_of_ble_eq_true rfl⟩) (xpV_w [.int (xs (i + 1))] hKm hPM (xD_left (xD_swap hD)) (va_recv hKm hPM (ci := 1) (q0 := 0) rfl rfl)) rfl rfl hl.1 rfl (lv_room (Nat.le_of_ble_eq_true rfl)) dL_law_253 ⟨Nat.le_of_ble_eq_true rfl, Nat.le_of_ble_eq_true rfl⟩) hPX (xD_swap hD) hS hA (fun r u H locs hw hPM hPX hD hS => ?_)
  obtain ⟨u1, ro1, hd1⟩ := u
  obtain ⟨rfl, hu⟩ := hw
  have hu : u1 = _ := hu
  change va_P _ vwCl (wM ae dL dZ cI u1 ro1 hd1) _ at hPM
  change va_D _ (wM ae dL dZ cI u1 ro1 hd1 ++ _) at hD
  rw [hu] at hPM hD
  have hD := xD_swap hD
  have hs := s_reset ht hsim (xs (i + 1))
  refine lv_icmp_eq (tgt := 1031) hx hb dL_law_256 (by decide) (fun c9 => ?_) (fun c9 => ?_)
  · exact kk _ _ _ _ _ _ ls hs.2 ⟨hPX, hPM, hD, hS⟩ (lv_sub hl [0, 1, 2, 3] rfl)
  · exact absurd hs.1 c9
set_option maxHeartbeats 4000000 in
set_option maxRecDepth 100000 in
theorem law_op3 (C1 : lwC p s m meth c b L xs dC dI cL cZ cO dL dZ cI) (hi : i + 8 ≤ L) (ht : t < 512) (hsim : Sim S N t) (hI : lwI s dC dI ad cL cZ cO ae dL dZ cI S N ro hd H locs) (hl : lv_has ls 4 (lwL b ad ae i)) (kk : lwKK p l e s m below meth c b dC dI ad cL cZ cO ae dL dZ cI i t) : W p l e room_1 s m #[Value.ref b] below meth c H locs 600000 7302250 (lw_Z below #[Value.ref b] s) (F0 m 261 ls []) := by
  obtain ⟨C0, hL, hKx, hKm⟩ := C1
  obtain ⟨hx, hb, hr, hml, hown0, hts0, hX, hbl, hlocks, hgv⟩ := C0
  have hown : s.vm.findClass RL = some m.cls := hown0
  have hts : ∀ w ∈ wsL_law, w.before #[Value.ref b] s = true := fun w h => hts0 w (wsL_law_in w h)
  have hA : ∀ q : Nat, s.heap.size ≤ q → lwA s q := fun _ h => h
  have hbA : ¬ lwA s b := Nat.not_le.mpr hbl
  have hBx := hsim.okB.2
  have hBm := hsim.okB.1
  have hDn := hsim.okD (Nat.le_of_lt ht)
  have hRm := hsim.room ht
  obtain ⟨hPX, hPM, hD, hS⟩ := hI
  refine lv_aload_n hx hb dL_law_261 rfl (lv_at hl 1 rfl) ?_
  refine lv_aload_n hx hb dL_law_262 rfl (lv_at hl 0 rfl) ?_
  refine lv_iload_n hx hb dL_law_263 rfl (lv_at hl 3 rfl) ?_
  refine lv_iconst (v := 1) hx hb dL_law_264 (by decide) ?_
  refine lv_iadd hx hb dL_law_265 ?_
  refine xv_sld hx hb hX hbl hbA hS (xatI 1 (by omega) hL) dL_law_266 ?_
  refine vp_callSl (va_Run.run (va_runV (As := [.int (xs (i + 1))]) (rest := []) ⟨hx, hb, hml, hown, hts⟩ (c_X0_register l dC dI ad cL cZ cO S (xs (i + 1)) ) (cwV 1 hts gL_law_X0_register rfl rfl rfl (by decide +kernel) ⟨Nat.le_of_ble_eq_true rfl, Nat.le_of_ble_eq_true rfl⟩) (xpV_r [.int (xs (i + 1))] hKx hPX (va_recv hKx hPX (ci := 0) (q0 := 0) rfl rfl)) rfl rfl hl.1 rfl (lv_room (Nat.le_of_ble_eq_true rfl)) dL_law_267 ⟨Nat.le_of_ble_eq_true rfl, Nat.le_of_ble_eq_true rfl⟩)) (fun r hr9 => ?_)
  subst hr9
  refine lv_aload_n hx hb dL_law_270 rfl (lv_at hl 2 rfl) ?_
  refine lv_aload_n hx hb dL_law_271 rfl (lv_at hl 0 rfl) ?_
  refine lv_iload_n hx hb dL_law_272 rfl (lv_at hl 3 rfl) ?_
  refine lv_iconst (v := 1) hx hb dL_law_273 (by decide) ?_
  refine lv_iadd hx hb dL_law_274 ?_
  refine xv_sld hx hb hX hbl hbA hS (xatI 1 (by omega) hL) dL_law_275 ?_
  refine xcall2_l (va_runV (As := [.int (xs (i + 1))]) (rest := [.long (X_register S (xs (i + 1)))]) ⟨hx, hb, hml, hown, hts⟩ (c_X1_register l dC dI ae dL dZ cI N ro hd H.size (xs (i + 1)) hDn) (cwV 1 hts gL_law_X1_register rfl rfl rfl (by decide +kernel) ⟨Nat.le_of_ble_eq_true rfl, Nat.le_of_ble_eq_true rfl⟩) (xpV_w [.int (xs (i + 1))] hKm hPM (xD_left (xD_swap hD)) (va_recv hKm hPM (ci := 1) (q0 := 0) rfl rfl)) rfl rfl hl.1 rfl (lv_room (Nat.le_of_ble_eq_true rfl)) dL_law_276 ⟨Nat.le_of_ble_eq_true rfl, Nat.le_of_ble_eq_true rfl⟩) hPX (xD_swap hD) hS hA (fun r u H locs hw hPM hPX hD hS => ?_)
  obtain ⟨u1, ro1, hd1⟩ := u
  obtain ⟨rfl, hu⟩ := hw
  have hu : u1 = _ := hu
  change va_P _ vwCl (wM ae dL dZ cI u1 ro1 hd1) _ at hPM
  change va_D _ (wM ae dL dZ cI u1 ro1 hd1 ++ _) at hD
  rw [hu] at hPM hD
  have hD := xD_swap hD
  refine W.lcmp hx hb dL_law_279 ?_
  have hs := s_register hsim (xs (i + 1))
  refine lv_if_eq (tgt := 1031) hx hb dL_law_280 (by decide) (fun c9 => ?_) (fun c9 => ?_)
  · exact kk _ _ _ _ _ _ ls hsim.up ⟨hPX, hPM, hD, hS⟩ (lv_sub hl [0, 1, 2, 3] rfl)
  · exact absurd (by rw [hs]; exact lg_cmp_self _) c9
set_option maxHeartbeats 4000000 in
set_option maxRecDepth 100000 in
theorem law_op4 (C1 : lwC p s m meth c b L xs dC dI cL cZ cO dL dZ cI) (hi : i + 8 ≤ L) (ht : t < 512) (hsim : Sim S N t) (hI : lwI s dC dI ad cL cZ cO ae dL dZ cI S N ro hd H locs) (hl : lv_has ls 4 (lwL b ad ae i)) (kk : lwKK p l e s m below meth c b dC dI ad cL cZ cO ae dL dZ cI i t) : W p l e room_1 s m #[Value.ref b] below meth c H locs 600000 7302250 (lw_Z below #[Value.ref b] s) (F0 m 285 ls []) := by
  obtain ⟨C0, hL, hKx, hKm⟩ := C1
  obtain ⟨hx, hb, hr, hml, hown0, hts0, hX, hbl, hlocks, hgv⟩ := C0
  have hown : s.vm.findClass RL = some m.cls := hown0
  have hts : ∀ w ∈ wsL_law, w.before #[Value.ref b] s = true := fun w h => hts0 w (wsL_law_in w h)
  have hA : ∀ q : Nat, s.heap.size ≤ q → lwA s q := fun _ h => h
  have hbA : ¬ lwA s b := Nat.not_le.mpr hbl
  have hBx := hsim.okB.2
  have hBm := hsim.okB.1
  have hDn := hsim.okD (Nat.le_of_lt ht)
  have hRm := hsim.room ht
  obtain ⟨hPX, hPM, hD, hS⟩ := hI
  refine lv_aload_n hx hb dL_law_285 rfl (lv_at hl 1 rfl) ?_
  refine lv_aload_n hx hb dL_law_286 rfl (lv_at hl 0 rfl) ?_
  refine lv_iload_n hx hb dL_law_287 rfl (lv_at hl 3 rfl) ?_
  refine lv_iconst (v := 1) hx hb dL_law_288 (by decide) ?_
  refine lv_iadd hx hb dL_law_289 ?_
  refine xv_sld hx hb hX hbl hbA hS (xatI 1 (by omega) hL) dL_law_290 ?_
  refine vp_callSl (va_Run.run (va_runV (As := [.int (xs (i + 1))]) (rest := []) ⟨hx, hb, hml, hown, hts⟩ (c_X0_digest l dC dI ad cL cZ cO S (xs (i + 1)) ) (cwV 1 hts gL_law_X0_digest rfl rfl rfl (by decide +kernel) ⟨Nat.le_of_ble_eq_true rfl, Nat.le_of_ble_eq_true rfl⟩) (xpV_r [.int (xs (i + 1))] hKx hPX (va_recv hKx hPX (ci := 0) (q0 := 0) rfl rfl)) rfl rfl hl.1 rfl (lv_room (Nat.le_of_ble_eq_true rfl)) dL_law_291 ⟨Nat.le_of_ble_eq_true rfl, Nat.le_of_ble_eq_true rfl⟩)) (fun r hr9 => ?_)
  subst hr9
  refine lv_aload_n hx hb dL_law_294 rfl (lv_at hl 2 rfl) ?_
  refine lv_aload_n hx hb dL_law_295 rfl (lv_at hl 0 rfl) ?_
  refine lv_iload_n hx hb dL_law_296 rfl (lv_at hl 3 rfl) ?_
  refine lv_iconst (v := 1) hx hb dL_law_297 (by decide) ?_
  refine lv_iadd hx hb dL_law_298 ?_
  refine xv_sld hx hb hX hbl hbA hS (xatI 1 (by omega) hL) dL_law_299 ?_
  refine xcall2_l (va_runV (As := [.int (xs (i + 1))]) (rest := [.long (X_digest S (xs (i + 1)))]) ⟨hx, hb, hml, hown, hts⟩ (c_X1_digest l dC dI ae dL dZ cI N ro hd H.size (xs (i + 1)) hDn) (cwV 1 hts gL_law_X1_digest rfl rfl rfl (by decide +kernel) ⟨Nat.le_of_ble_eq_true rfl, Nat.le_of_ble_eq_true rfl⟩) (xpV_w [.int (xs (i + 1))] hKm hPM (xD_left (xD_swap hD)) (va_recv hKm hPM (ci := 1) (q0 := 0) rfl rfl)) rfl rfl hl.1 rfl (lv_room (Nat.le_of_ble_eq_true rfl)) dL_law_300 ⟨Nat.le_of_ble_eq_true rfl, Nat.le_of_ble_eq_true rfl⟩) hPX (xD_swap hD) hS hA (fun r u H locs hw hPM hPX hD hS => ?_)
  obtain ⟨u1, ro1, hd1⟩ := u
  obtain ⟨rfl, hu⟩ := hw
  have hu : u1 = _ := hu
  change va_P _ vwCl (wM ae dL dZ cI u1 ro1 hd1) _ at hPM
  change va_D _ (wM ae dL dZ cI u1 ro1 hd1 ++ _) at hD
  rw [hu] at hPM hD
  have hD := xD_swap hD
  refine W.lcmp hx hb dL_law_303 ?_
  have hs := s_digest hsim (xs (i + 1))
  refine lv_if_eq (tgt := 1031) hx hb dL_law_304 (by decide) (fun c9 => ?_) (fun c9 => ?_)
  · exact kk _ _ _ _ _ _ ls hsim.up ⟨hPX, hPM, hD, hS⟩ (lv_sub hl [0, 1, 2, 3] rfl)
  · exact absurd (by rw [hs]; exact lg_cmp_self _) c9
set_option maxHeartbeats 4000000 in
set_option maxRecDepth 100000 in
theorem law_op5 (C1 : lwC p s m meth c b L xs dC dI cL cZ cO dL dZ cI) (hi : i + 8 ≤ L) (ht : t < 512) (hsim : Sim S N t) (hI : lwI s dC dI ad cL cZ cO ae dL dZ cI S N ro hd H locs) (hl : lv_has ls 4 (lwL b ad ae i)) (kk : lwKK p l e s m below meth c b dC dI ad cL cZ cO ae dL dZ cI i t) : W p l e room_1 s m #[Value.ref b] below meth c H locs 600000 7302250 (lw_Z below #[Value.ref b] s) (F0 m 309 ls []) := by
  obtain ⟨C0, hL, hKx, hKm⟩ := C1
  obtain ⟨hx, hb, hr, hml, hown0, hts0, hX, hbl, hlocks, hgv⟩ := C0
  have hown : s.vm.findClass RL = some m.cls := hown0
  have hts : ∀ w ∈ wsL_law, w.before #[Value.ref b] s = true := fun w h => hts0 w (wsL_law_in w h)
  have hA : ∀ q : Nat, s.heap.size ≤ q → lwA s q := fun _ h => h
  have hbA : ¬ lwA s b := Nat.not_le.mpr hbl
  have hBx := hsim.okB.2
  have hBm := hsim.okB.1
  have hDn := hsim.okD (Nat.le_of_lt ht)
  have hRm := hsim.room ht
  obtain ⟨hPX, hPM, hD, hS⟩ := hI
  refine lv_aload_n hx hb dL_law_309 rfl (lv_at hl 1 rfl) ?_
  refine lv_aload_n hx hb dL_law_310 rfl (lv_at hl 0 rfl) ?_
  refine lv_iload_n hx hb dL_law_311 rfl (lv_at hl 3 rfl) ?_
  refine lv_iconst (v := 1) hx hb dL_law_312 (by decide) ?_
  refine lv_iadd hx hb dL_law_313 ?_
  refine xv_sld hx hb hX hbl hbA hS (xatI 1 (by omega) hL) dL_law_314 ?_
  refine lv_i2l hx hb dL_law_315 rfl ?_
  refine lv_bipush (v := 32) hx hb dL_law_316 (by decide) ?_
  refine lv_lshl hx hb dL_law_318 rfl ?_
  refine lv_aload_n hx hb dL_law_319 rfl (lv_at hl 0 rfl) ?_
  refine lv_iload_n hx hb dL_law_320 rfl (lv_at hl 3 rfl) ?_
  refine lv_iconst (v := 2) hx hb dL_law_321 (by decide) ?_
  refine lv_iadd hx hb dL_law_322 ?_
  refine xv_sld hx hb hX hbl hbA hS (xatI 2 (by omega) hL) dL_law_323 ?_
  refine lv_i2l hx hb dL_law_324 rfl ?_
  refine lv_ldc2 (v := 4294967295) hx hb hown (hts _ law_k26) dL_law_325 ?_
  refine lv_land hx hb dL_law_328 ?_
  refine lv_lor hx hb dL_law_329 ?_
  refine xcall2_i (va_runV (As := [.long (lj (xs (i + 1)) (xs (i + 2)))]) (rest := []) ⟨hx, hb, hml, hown, hts⟩ (c_X0_create l dC dI ad cL cZ cO S H.size (lj (xs (i + 1)) (xs (i + 2))) ) (cwV 1 hts gL_law_X0_create rfl rfl rfl (by decide +kernel) ⟨Nat.le_of_ble_eq_true rfl, Nat.le_of_ble_eq_true rfl⟩) (xpV_w [.long (lj (xs (i + 1)) (xs (i + 2)))] hKx hPX (xD_left hD) (va_recv hKx hPX (ci := 0) (q0 := 0) rfl rfl)) rfl rfl hl.1 rfl (lv_room (Nat.le_of_ble_eq_true rfl)) dL_law_330 ⟨Nat.le_of_ble_eq_true rfl, Nat.le_of_ble_eq_true rfl⟩) hPM hD hS hA (fun r u H locs hw hPX hPM hD hS => ?_)
  obtain ⟨rfl, rfl⟩ := hw
  refine lv_aload_n hx hb dL_law_333 rfl (lv_at hl 2 rfl) ?_
  refine lv_aload_n hx hb dL_law_334 rfl (lv_at hl 0 rfl) ?_
  refine lv_iload_n hx hb dL_law_335 rfl (lv_at hl 3 rfl) ?_
  refine lv_iconst (v := 1) hx hb dL_law_336 (by decide) ?_
  refine lv_iadd hx hb dL_law_337 ?_
  refine xv_sld hx hb hX hbl hbA hS (xatI 1 (by omega) hL) dL_law_338 ?_
  refine lv_i2l hx hb dL_law_339 rfl ?_
  refine lv_bipush (v := 32) hx hb dL_law_340 (by decide) ?_
  refine lv_lshl hx hb dL_law_342 rfl ?_
  refine lv_aload_n hx hb dL_law_343 rfl (lv_at hl 0 rfl) ?_
  refine lv_iload_n hx hb dL_law_344 rfl (lv_at hl 3 rfl) ?_
  refine lv_iconst (v := 2) hx hb dL_law_345 (by decide) ?_
  refine lv_iadd hx hb dL_law_346 ?_
  refine xv_sld hx hb hX hbl hbA hS (xatI 2 (by omega) hL) dL_law_347 ?_
  refine lv_i2l hx hb dL_law_348 rfl ?_
  refine lv_ldc2 (v := 4294967295) hx hb hown (hts _ law_k26) dL_law_349 ?_
  refine lv_land hx hb dL_law_352 ?_
  refine lv_lor hx hb dL_law_353 ?_
  refine xcall2_i (va_runV (As := [.long (lj (xs (i + 1)) (xs (i + 2)))]) (rest := [.int ((X_create S (lj (xs (i + 1)) (xs (i + 2)))).1)]) ⟨hx, hb, hml, hown, hts⟩ (c_X1_create l dC dI ae dL dZ cI N ro hd H.size (lj (xs (i + 1)) (xs (i + 2))) ) (cwV 1 hts gL_law_X1_create rfl rfl rfl (by decide +kernel) ⟨Nat.le_of_ble_eq_true rfl, Nat.le_of_ble_eq_true rfl⟩) (xpV_w [.long (lj (xs (i + 1)) (xs (i + 2)))] hKm hPM (xD_left (xD_swap hD)) (va_recv hKm hPM (ci := 1) (q0 := 0) rfl rfl)) rfl rfl hl.1 rfl (lv_room (Nat.le_of_ble_eq_true rfl)) dL_law_354 ⟨Nat.le_of_ble_eq_true rfl, Nat.le_of_ble_eq_true rfl⟩) hPX (xD_swap hD) hS hA (fun r u H locs hw hPM hPX hD hS => ?_)
  obtain ⟨u1, ro1, hd1⟩ := u
  obtain ⟨rfl, hu⟩ := hw
  have hu : u1 = _ := hu
  change va_P _ vwCl (wM ae dL dZ cI u1 ro1 hd1) _ at hPM
  change va_D _ (wM ae dL dZ cI u1 ro1 hd1 ++ _) at hD
  rw [hu] at hPM hD
  have hD := xD_swap hD
  have hs := s_create hsim (lj (xs (i + 1)) (xs (i + 2)))
  refine lv_icmp_eq (tgt := 1031) hx hb dL_law_357 (by decide) (fun c9 => ?_) (fun c9 => ?_)
  · exact kk _ _ _ _ _ _ ls hs.2 ⟨hPX, hPM, hD, hS⟩ (lv_sub hl [0, 1, 2, 3] rfl)
  · exact absurd hs.1 c9
set_option maxHeartbeats 4000000 in
set_option maxRecDepth 100000 in
theorem law_op6 (C1 : lwC p s m meth c b L xs dC dI cL cZ cO dL dZ cI) (hi : i + 8 ≤ L) (ht : t < 512) (hsim : Sim S N t) (hI : lwI s dC dI ad cL cZ cO ae dL dZ cI S N ro hd H locs) (hl : lv_has ls 4 (lwL b ad ae i)) (kk : lwKK p l e s m below meth c b dC dI ad cL cZ cO ae dL dZ cI i t) : W p l e room_1 s m #[Value.ref b] below meth c H locs 600000 7302250 (lw_Z below #[Value.ref b] s) (F0 m 362 ls []) := by
  obtain ⟨C0, hL, hKx, hKm⟩ := C1
  obtain ⟨hx, hb, hr, hml, hown0, hts0, hX, hbl, hlocks, hgv⟩ := C0
  have hown : s.vm.findClass RL = some m.cls := hown0
  have hts : ∀ w ∈ wsL_law, w.before #[Value.ref b] s = true := fun w h => hts0 w (wsL_law_in w h)
  have hA : ∀ q : Nat, s.heap.size ≤ q → lwA s q := fun _ h => h
  have hbA : ¬ lwA s b := Nat.not_le.mpr hbl
  have hBx := hsim.okB.2
  have hBm := hsim.okB.1
  have hDn := hsim.okD (Nat.le_of_lt ht)
  have hRm := hsim.room ht
  obtain ⟨hPX, hPM, hD, hS⟩ := hI
  refine lv_aload_n hx hb dL_law_362 rfl (lv_at hl 1 rfl) ?_
  refine lv_aload_n hx hb dL_law_363 rfl (lv_at hl 0 rfl) ?_
  refine lv_iload_n hx hb dL_law_364 rfl (lv_at hl 3 rfl) ?_
  refine lv_iconst (v := 1) hx hb dL_law_365 (by decide) ?_
  refine lv_iadd hx hb dL_law_366 ?_
  refine xv_sld hx hb hX hbl hbA hS (xatI 1 (by omega) hL) dL_law_367 ?_
  refine xcall2_i (va_runV (As := [.int (xs (i + 1))]) (rest := []) ⟨hx, hb, hml, hown, hts⟩ (c_X0_destroy l dC dI ad cL cZ cO S H.size (xs (i + 1)) ) (cwV 1 hts gL_law_X0_destroy rfl rfl rfl (by decide +kernel) ⟨Nat.le_of_ble_eq_true rfl, Nat.le_of_ble_eq_true rfl⟩) (xpV_w [.int (xs (i + 1))] hKx hPX (xD_left hD) (va_recv hKx hPX (ci := 0) (q0 := 0) rfl rfl)) rfl rfl hl.1 rfl (lv_room (Nat.le_of_ble_eq_true rfl)) dL_law_368 ⟨Nat.le_of_ble_eq_true rfl, Nat.le_of_ble_eq_true rfl⟩) hPM hD hS hA (fun r u H locs hw hPX hPM hD hS => ?_)
  obtain ⟨rfl, rfl⟩ := hw
  refine lv_aload_n hx hb dL_law_371 rfl (lv_at hl 2 rfl) ?_
  refine lv_aload_n hx hb dL_law_372 rfl (lv_at hl 0 rfl) ?_
  refine lv_iload_n hx hb dL_law_373 rfl (lv_at hl 3 rfl) ?_
  refine lv_iconst (v := 1) hx hb dL_law_374 (by decide) ?_
  refine lv_iadd hx hb dL_law_375 ?_
  refine xv_sld hx hb hX hbl hbA hS (xatI 1 (by omega) hL) dL_law_376 ?_
  refine xcall2_i (va_runV (As := [.int (xs (i + 1))]) (rest := [.int ((X_destroy S (xs (i + 1))).1)]) ⟨hx, hb, hml, hown, hts⟩ (c_X1_destroy l dC dI ae dL dZ cI N ro hd H.size (xs (i + 1)) ) (cwV 1 hts gL_law_X1_destroy rfl rfl rfl (by decide +kernel) ⟨Nat.le_of_ble_eq_true rfl, Nat.le_of_ble_eq_true rfl⟩) (xpV_w [.int (xs (i + 1))] hKm hPM (xD_left (xD_swap hD)) (va_recv hKm hPM (ci := 1) (q0 := 0) rfl rfl)) rfl rfl hl.1 rfl (lv_room (Nat.le_of_ble_eq_true rfl)) dL_law_377 ⟨Nat.le_of_ble_eq_true rfl, Nat.le_of_ble_eq_true rfl⟩) hPX (xD_swap hD) hS hA (fun r u H locs hw hPM hPX hD hS => ?_)
  obtain ⟨u1, ro1, hd1⟩ := u
  obtain ⟨rfl, hu⟩ := hw
  have hu : u1 = _ := hu
  change va_P _ vwCl (wM ae dL dZ cI u1 ro1 hd1) _ at hPM
  change va_D _ (wM ae dL dZ cI u1 ro1 hd1 ++ _) at hD
  rw [hu] at hPM hD
  have hD := xD_swap hD
  have hs := s_destroy hsim (xs (i + 1))
  refine lv_icmp_eq (tgt := 1031) hx hb dL_law_380 (by decide) (fun c9 => ?_) (fun c9 => ?_)
  · exact kk _ _ _ _ _ _ ls hs.2 ⟨hPX, hPM, hD, hS⟩ (lv_sub hl [0, 1, 2, 3] rfl)
  · exact absurd hs.1 c9
end LWO
