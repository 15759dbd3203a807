theorem lkN_snoc (kt : Nat → Int32) (nm : Nat → Int64) (x : Int64) : ∀ r i : Nat, i + r < 2 ^ 31 → lkN kt nm x i (r + 1) = if 0 ≤ lkN kt nm x i r then lkN kt nm x i r else if kt (i + r) = 0 then -1 else if lg_cmp (nm (i + r)) x = 0 then nI (i + r) else -1
  | 0, i, _ => by
    rw [show lkN kt nm x i 0 = -1 from rfl, if_neg (show ¬ (0 : Int32) ≤ -1 by decide)]
    rfl
  | r + 1, i, h => by
    have ih := lkN_snoc kt nm x r (i + 1) (by omega)
    rw [show lkN kt nm x i (r + 1 + 1) = (if kt i = 0 then lkN kt nm x (i + 1) (r + 1) else if lg_cmp (nm i) x = 0 then nI i else lkN kt nm x (i + 1) (r + 1)) from rfl]
    rw [show lkN kt nm x i (r + 1) = (if kt i = 0 then lkN kt nm x (i + 1) r else if lg_cmp (nm i) x = 0 then nI i else lkN kt nm x (i + 1) r) from rfl]
    rw [ih, show i + 1 + r = i + (r + 1) by omega]
    by_cases c1 : kt i = 0
    · rw [if_pos c1, if_pos c1]
    · rw [if_neg c1, if_neg c1]
      by_cases c2 : lg_cmp (nm i) x = 0
      · rw [if_pos c2, if_pos c2, if_pos (nI_pos' (by omega))]
      · rw [if_neg c2, if_neg c2]
theorem mfin_lk (kt : Nat → Int32) (nm : Nat → Int64) (x : Int64) : ∀ (n : Nat) (K : Int32), n < 2 ^ 31 → mfin kt nm x n K = if 0 ≤ lkN kt nm x 0 n then lkN kt nm x 0 n else K
  | 0, K, _ => by
    rw [show lkN kt nm x 0 0 = -1 from rfl, if_neg (show ¬ (0 : Int32) ≤ -1 by decide)]
    rfl
  | n + 1, K, h => by
    rw [show mfin kt nm x (n + 1) K = mfin kt nm x n (if kt n = 0 then K else if lg_cmp (nm n) x = 0 then nI n else K) from rfl]
    rw [mfin_lk kt nm x n _ (by omega), lkN_snoc kt nm x n 0 (by omega), Nat.zero_add]
    by_cases c1 : 0 ≤ lkN kt nm x 0 n
    · rw [if_pos c1, if_pos c1, if_pos c1]
    · rw [if_neg c1, if_neg c1]
      by_cases c2 : kt n = 0
      · rw [if_pos c2, if_pos c2, if_neg (show ¬ (0 : Int32) ≤ -1 by decide)]
      · rw [if_neg c2, if_neg c2]
        by_cases c3 : lg_cmp (nm n) x = 0
        · rw [if_pos c3, if_pos c3, if_pos (nI_pos' (by omega))]
        · rw [if_neg c3, if_neg c3, if_neg (show ¬ (0 : Int32) ≤ -1 by decide)]
theorem lkN_congr {kt : Nat → Int32} {kn nm : Nat → Int64} {x : Int64} : ∀ r i : Nat, (∀ j, j < i + r → ¬ kt j = 0 → kn j = nm j) → lkN kt kn x i r = lkN kt nm x i r
  | 0, _, _ => rfl
  | r + 1, i, h => by
    rw [show lkN kt kn x i (r + 1) = (if kt i = 0 then lkN kt kn x (i + 1) r else if lg_cmp (kn i) x = 0 then nI i else lkN kt kn x (i + 1) r) from rfl]
    rw [show lkN kt nm x i (r + 1) = (if kt i = 0 then lkN kt nm x (i + 1) r else if lg_cmp (nm i) x = 0 then nI i else lkN kt nm x (i + 1) r) from rfl]
    rw [lkN_congr r (i + 1) (fun j hj => h j (by omega))]
    by_cases c1 : kt i = 0
    · rw [if_pos c1, if_pos c1]
    · rw [if_neg c1, if_neg c1, h i (by omega) c1]
theorem lkN_neg (kt : Nat → Int32) (nm : Nat → Int64) (x : Int64) : ∀ r i : Nat, i + r < 2 ^ 31 → ¬ 0 ≤ lkN kt nm x i r → lkN kt nm x i r = -1
  | 0, _, _, _ => rfl
  | r + 1, i, h, hn => by
    unfold lkN at hn ⊢
    by_cases c1 : kt i = 0
    · rw [if_pos c1] at hn ⊢
      exact lkN_neg kt nm x r (i + 1) (by omega) hn
    · rw [if_neg c1] at hn ⊢
      by_cases c2 : lg_cmp (nm i) x = 0
      · rw [if_pos c2] at hn
        exact absurd (nI_pos' (by omega)) hn
      · rw [if_neg c2] at hn ⊢
        exact lkN_neg kt nm x r (i + 1) (by omega) hn
theorem lk_sim {N : SM} {rg kn mn : Nat → Int64} {bl : Nat → Nat → Int64} (hKn : sKn N kn) (x : Int64) : X_leastKeyNamed (XS N rg kn mn bl) x = M_leastKey N x := by
  unfold M_leastKey
  rw [mfin_lk _ _ _ 6 _ (by decide)]
  show lkN (m_kt N) kn x 0 6 = _
  rw [lkN_congr (nm := fun j => M_nameOf N (nI j)) 6 0 (fun j hj hk => hKn j (by omega) hk)]
  by_cases c1 : 0 ≤ lkN (m_kt N) (fun j => M_nameOf N (nI j)) x 0 6
  · rw [if_pos c1]
  · rw [if_neg c1, lkN_neg _ _ _ 6 0 (by decide) c1]
theorem s_unseal {S : SX} {N : SM} {c : Nat} (h : Sim S N c) (q a : Int32) : (X_unseal S q a).1 = (M_unseal N q a).1 ∧ Sim (X_unseal S q a).2 (M_unseal N q a).2 (c + 1) := by
  have hu := h.up
  have f1 : X_isSession S q = M_hasSession N q := by obtain ⟨rg, kn, mn, bl, rfl, -⟩ := h; rfl
  have f2 : X_isBlob S a = M_hasBlob N a := by obtain ⟨rg, kn, mn, bl, rfl, -⟩ := h; rfl
  have f3 : x_fa S = m_fa N := by obtain ⟨rg, kn, mn, bl, rfl, -⟩ := h; rfl
  unfold X_unseal M_unseal X_isLocked
  rw [f1, f2, f3]
  by_cases c1 : M_hasSession N q = 0
  · rw [if_pos c1, if_pos c1]
    exact ⟨rfl, hu⟩
  rw [if_neg c1, if_neg c1]
  by_cases c2 : M_hasBlob N a = 0
  · rw [if_pos c2, if_pos c2]
    exact ⟨rfl, hu⟩
  rw [if_neg c2, if_neg c2]
  by_cases c3 : m_fa N < 3
  · rw [if_pos c3, if_pos c3, if_pos (show (0 : Int32) = 0 from rfl)]
    obtain ⟨j, hj, rfl⟩ := hasBlob_nI h.okB.1 c2
    rw [nI_clamp (by omega)]
    have g1 : ∀ i : Nat, i < 6 → x_bl S j i = m_bw N (6 * j + i) := by
      obtain ⟨rg, kn, mn, bl, rfl, hR, hKn, hMn, hBl, -⟩ := h
      exact fun i hi => hBl j hj i hi
    have g2 : X_sealOf S j = M_sealOf N (nI j) := by
      obtain ⟨rg, kn, mn, bl, rfl, hR, hKn, hMn, hBl, -⟩ := h
      exact seal_sim hBl hj
    have g3 : X_leastKeyNamed S (x_bl S j 0) = M_unsealK N (nI j) := by
      rw [g1 0 (by decide)]
      unfold M_unsealK
      rw [nI_clamp (by omega)]
      obtain ⟨rg, kn, mn, bl, rfl, hR, hKn, hMn, hBl, -⟩ := h
      exact lk_sim hKn _
    rw [g1 5 (by decide), g2]
    by_cases c4 : lg_cmp (m_bw N (6 * j + 5)) (M_sealOf N (nI j)) = 0
    · rw [if_pos c4, if_pos c4, g3]
      by_cases c5 : 0 ≤ M_unsealK N (nI j)
      · rw [if_pos c5, if_pos c5]
        unfold X_unsealP M_unsealP
        rw [nI_clamp (by omega), g3, g1 5 (by decide)]
        obtain ⟨e1, e2⟩ := s_pass h c1 (M_unsealK N (nI j)) 2 (m_bw N (6 * j + 5))
        rw [e1]
        generalize M_proved N q (M_unsealK N (nI j)) 2 (m_bw N (6 * j + 5)) = P at e1 e2 ⊢
        generalize X_passesProving S (x_ks S (M_unsealK N (nI j)).toNatClampNeg) q 2 (m_bw N (6 * j + 5)) = PX at e1 e2 ⊢
        by_cases c6 : P.1 = 0
        · rw [if_pos c6, if_pos c6]
          exact ⟨rfl, e2.up⟩
        · rw [if_neg c6, if_neg c6]
          have hu2 := e2.up
          obtain ⟨rg, kn, mn, bl, e, hR, hKn, hMn, hBl, hB, d, hd, h7⟩ := e2
          rw [e]
          have so : ∀ v : Int64, Sim (xu_ou (XS P.2 rg kn mn bl) v) (mu_ou P.2 v) (c + 1) := fun v => ⟨rg, kn, mn, bl, rfl, hR, hKn, hMn, hBl, hB, d, by omega, h7⟩
          have b1 : ∀ i : Nat, i < 6 → x_bl (XS P.2 rg kn mn bl) j i = m_bw P.2 (6 * j + i) := fun i hi => hBl j hj i hi
          unfold X_isPolicyMet
          rw [isMask_eq, b1 1 (by decide), b1 2 (by decide), b1 3 (by decide), b1 4 (by decide), cover_sim]
          by_cases c7 : M_isMask (m_bw P.2 (6 * j + 1)) = 0
          · rw [if_pos c7, if_pos c7, if_pos (show (0 : Int32) = 0 from rfl)]
            exact ⟨rfl, so _⟩
          · rw [if_neg c7, if_neg c7, dig_sim hR (isMaskL c7)]
            by_cases c8 : lg_cmp (M_digestOf P.2 (m_bw P.2 (6 * j + 1)).toInt32) (m_bw P.2 (6 * j + 2)) = 0
            · rw [if_pos c8, if_pos c8, if_neg (show ¬ (1 : Int32) = 0 by decide)]
              exact ⟨rfl, so _⟩
            · rw [if_neg c8, if_neg c8, if_pos (show (0 : Int32) = 0 from rfl)]
              exact ⟨rfl, so _⟩
      · rw [if_neg c5, if_neg c5]
        exact ⟨rfl, hu⟩
    · rw [if_neg c4, if_neg c4]
      exact ⟨rfl, hu⟩
  · rw [if_neg c3, if_neg c3, if_neg (show ¬ (1 : Int32) = 0 by decide)]
    exact ⟨rfl, hu⟩
theorem s_quote {S : SX} {N : SM} {c : Nat} (h : Sim S N c) (q k mask : Int32) (ch : Int64) : (X_quote S q k mask ch).1 = (M_quote N q k mask ch).1 ∧ Sim (X_quote S q k mask ch).2 (M_quote N q k mask ch).2 (c + 1) := by
  have hu := h.up
  have f1 : X_isSession S q = M_hasSession N q := by obtain ⟨rg, kn, mn, bl, rfl, -⟩ := h; rfl
  have f2 : X_isKey S k = M_hasKey N k := by obtain ⟨rg, kn, mn, bl, rfl, -⟩ := h; rfl
  have f3 : x_fa S = m_fa N := by obtain ⟨rg, kn, mn, bl, rfl, -⟩ := h; rfl
  have f4 : x_ks S k.toNatClampNeg = m_ks N k.toNatClampNeg := by obtain ⟨rg, kn, mn, bl, rfl, -⟩ := h; rfl
  unfold X_quote M_quote M_quoteP X_isLocked
  rw [f1, f2, f3, isMask_eq]
  by_cases c1 : M_hasSession N q = 0
  · rw [if_pos c1, if_pos c1]
    exact ⟨rfl, hu⟩
  rw [if_neg c1, if_neg c1]
  by_cases c2 : M_hasKey N k = 0
  · rw [if_pos c2, if_pos c2]
    exact ⟨rfl, hu⟩
  rw [if_neg c2, if_neg c2]
  by_cases c3 : M_isMask mask.toInt64 = 0
  · rw [if_pos c3, if_pos c3]
    exact ⟨rfl, hu⟩
  rw [if_neg c3, if_neg c3]
  by_cases c4 : m_fa N < 3
  · rw [if_pos c4, if_pos c4, if_pos (show (0 : Int32) = 0 from rfl)]
    obtain ⟨e1, e2⟩ := s_pass h c1 k 3 (h2 mask.toInt64 ch)
    have e3 := M_pass_kt N q k 3 (h2 mask.toInt64 ch)
    rw [e1]
    generalize M_proved N q k 3 (h2 mask.toInt64 ch) = P at e1 e2 e3 ⊢
    rw [f4] at e1 e2 ⊢
    generalize X_passesProving S (m_ks N k.toNatClampNeg) q 3 (h2 mask.toInt64 ch) = PX at e1 e2 ⊢
    by_cases c6 : P.1 = 0
    · rw [if_pos c6, if_pos c6]
      exact ⟨rfl, e2.up⟩
    · rw [if_neg c6, if_neg c6, ← e3.2.1]
      obtain ⟨rg, kn, mn, bl, e, hR, hKn, hMn, hBl, hB, d, hd, h7⟩ := e2
      rw [e]
      have g : X_signature (XS P.2 rg kn mn bl) (m_ks P.2 k.toNatClampNeg) mask ch = M_signature P.2 (m_ks P.2 k.toNatClampNeg) mask ch := by
        unfold X_signature M_signature
        rw [dig_sim hR (isMask_nI c3)]
      rw [g]
      have so : ∀ v : Int64, Sim (xu_ou (XS P.2 rg kn mn bl) v) (mu_ou P.2 v) (c + 1) := fun v => ⟨rg, kn, mn, bl, rfl, hR, hKn, hMn, hBl, hB, d, by omega, h7⟩
      exact ⟨rfl, so _⟩
  · rw [if_neg c4, if_neg c4, if_neg (show ¬ (1 : Int32) = 0 by decide)]
    exact ⟨rfl, hu⟩
theorem s_blob {S : SX} {N : SM} {c : Nat} (h : Sim S N c) (k i : Int32) : X_blob S k i = M_blob N k i := by
  have f2 : X_isBlob S k = M_hasBlob N k := by obtain ⟨rg, kn, mn, bl, rfl, -⟩ := h; rfl
  unfold X_blob M_blob X_isBlobWord
  rw [f2]
  by_cases c1 : M_hasBlob N k = 0
  · rw [if_pos c1, if_pos c1, if_pos (show (0 : Int32) = 0 from rfl)]
  rw [if_neg c1, if_neg c1]
  by_cases c2 : i < 0
  · rw [if_pos c2, if_pos c2, if_pos (show (0 : Int32) = 0 from rfl)]
  rw [if_neg c2, if_neg c2]
  by_cases c3 : 6 ≤ i
  · rw [if_pos c3, if_pos ((i56 _).mp c3), if_pos (show (0 : Int32) = 0 from rfl)]
  · rw [if_neg c3, if_neg (fun n => c3 ((i56 _).mpr n)), if_neg (show ¬ (1 : Int32) = 0 by decide)]
    obtain ⟨a, ha, rfl⟩ := hasBlob_nI h.okB.1 c1
    obtain ⟨b, hb, rfl⟩ := vp_in_of (n := 6) (xin_of (M := 6) rfl (by decide) c2 c3) (by decide)
    rw [nI_clamp (by omega), nI_clamp (by omega)]
    obtain ⟨rg, kn, mn, bl, rfl, hR, hKn, hMn, hBl, -⟩ := h
    exact hBl a ha b hb
theorem s_change {S : SX} {N : SM} {c : Nat} (h : Sim S N c) (k i : Int32) (v : Int64) : (X_change S k i v).1 = (M_change N k i v).1 ∧ Sim (X_change S k i v).2 (M_change N k i v).2 (c + 1) := by
  have hu := h.up
  have f2 : X_isBlob S k = M_hasBlob N k := by obtain ⟨rg, kn, mn, bl, rfl, -⟩ := h; rfl
  unfold X_change M_change X_isBlobWord
  rw [f2]
  by_cases c1 : M_hasBlob N k = 0
  · rw [if_pos c1, if_pos c1, if_pos (show (0 : Int32) = 0 from rfl)]
    exact ⟨rfl, hu⟩
  rw [if_neg c1, if_neg c1]
  by_cases c2 : i < 0
  · rw [if_pos c2, if_pos c2, if_pos (show (0 : Int32) = 0 from rfl)]
    exact ⟨rfl, hu⟩
  rw [if_neg c2, if_neg c2]
  by_cases c3 : 6 ≤ i
  · rw [if_pos c3, if_neg (fun n => (i56' _).mpr n c3), if_pos (show (0 : Int32) = 0 from rfl)]
    exact ⟨rfl, hu⟩
  · rw [if_neg c3, if_pos ((i56' _).mp c3), if_neg (show ¬ (1 : Int32) = 0 by decide)]
    obtain ⟨a, ha, rfl⟩ := hasBlob_nI h.okB.1 c1
    obtain ⟨b, hb, rfl⟩ := vp_in_of (n := 6) (xin_of (M := 6) rfl (by decide) c2 c3) (by decide)
    rw [nI_clamp (by omega), nI_clamp (by omega)]
    obtain ⟨rg, kn, mn, bl, rfl, hR, hKn, hMn, hBl, hB, d, hd, h7⟩ := h
    rw [put_sim N rg kn mn bl a b (6 * a + b)]
    exact ⟨rfl, rg, kn, mn, _, rfl, sRg_alike (alike_put _ _ _) hR, sKn_alike (alike_put _ _ _) hKn, sMn_alike (alike_put _ _ _) hMn, sBl_put hBl hb v, hB, d, by omega, h7⟩
theorem zJ_lt (f : Nat → Int64) : ∀ n j : Nat, j < n → zJ f n j = 0
  | n + 1, j, h => by
    show (if j = n then 0 else zJ f n j) = 0
    by_cases e : j = n
    · exact if_pos e
    · rw [if_neg e]
      exact zJ_lt f n j (by omega)
theorem zI_lt (f : Nat → Int32) : ∀ n j : Nat, j < n → zI f n j = 0
  | n + 1, j, h => by
    show (if j = n then 0 else zI f n j) = 0
    by_cases e : j = n
    · exact if_pos e
    · rw [if_neg e]
      exact zI_lt f n j (by omega)
theorem s_reboot {S : SX} {N : SM} {c : Nat} (h : Sim S N c) : Sim (X_reboot S) (M_reboot N) (c + 1) := by
  obtain ⟨rg, kn, mn, bl, rfl, hR, hKn, hMn, hBl, hB, d, hd, h7⟩ := h
  refine ⟨zJ rg 8, kn, mn, bl, rfl, fun j hj => ?_, hKn, fun j hj hs => ?_, hBl, hB, 0, by omega, rfl⟩
  · rw [zJ_lt rg 8 j hj]
    rfl
  · exact absurd (zI_lt (m_st N) 4 j hj) hs
theorem s_output {S : SX} {N : SM} {c : Nat} (h : Sim S N c) : x_ou S = m_ou N := by obtain ⟨rg, kn, mn, bl, rfl, -⟩ := h; rfl
theorem s_failures {S : SX} {N : SM} {c : Nat} (h : Sim S N c) : x_fa S = m_fa N := by obtain ⟨rg, kn, mn, bl, rfl, -⟩ := h; rfl
def SX0 (m : Int64) : SX := (m, 0, 0, 0, 0, 0, (fun _ => 0), (fun _ => 0), (fun _ => 0), (fun _ => 0), (fun _ => 0), (fun _ => 0), (fun _ => 0), 0, (fun _ _ => 0))
def SM0 (m : Int64) : SM := (m, 0, 0, 0, 0, 0, 0, (fun _ => 0), (fun _ => 0), (fun _ => 0), (fun _ => 0), (fun _ => 0), (fun _ => 0), (fun _ => 0), (fun _ => 0), 0, (fun _ => 0))
theorem s_start (m : Int64) : Sim (SX0 m) (SM0 m) 0 :=
  ⟨fun _ => 0, fun _ => 0, fun _ => 0, fun _ _ => 0, rfl, fun _ _ => rfl, fun _ _ h => absurd rfl h, fun _ _ h => absurd rfl h, fun _ _ _ _ => rfl, ⟨0, by decide, rfl⟩, 0, Nat.le_refl _, rfl⟩
