theorem right_sim {N : SM} {rg kn mn : Nat → Int64} {bl : Nat → Nat → Int64} (hMn : sMn N mn) {q : Int32} (hq : ¬ M_hasSession N q = 0) (se : Int64) (cm : Int32) (pa : Int64) : X_rightProof (XS N rg kn mn bl) se q cm pa = M_rightFor N se q cm pa := by
  obtain ⟨j, hj, rfl, ht⟩ := hasSession_nI hq
  unfold X_rightProof M_rightFor
  rw [nI_clamp (by omega)]
  show mE se (fo (fo (fo (fo (mB se 4) (mn j)) (m_cn N j)) cm.toInt64) pa) = _
  rw [hMn j hj ht]
theorem hasBlob_nI {N : SM} (hB : okB (m_bc N)) {a : Int32} (h : ¬ M_hasBlob N a = 0) : ∃ j : Nat, j < 10 ∧ a = nI j := vp_in_of (M_hasBlob_in hB h) (by decide)
theorem s_present {S : SX} {N : SM} {c : Nat} (h : Sim S N c) (v : Int64) : Sim (xu_pr S v) (mu_pr N v) (c + 1) := by
  obtain ⟨rg, kn, mn, bl, rfl, hR, hKn, hMn, hBl, hB, d, hd, h7⟩ := h
  exact ⟨rg, kn, mn, bl, rfl, hR, hKn, hMn, hBl, hB, d, by omega, h7⟩
theorem s_prove {S : SX} {N : SM} {c : Nat} (h : Sim S N c) (se : Int64) (q cm a : Int32) (b : Int64) : (X_prove S se q cm a b).1 = (M_prove N se q cm a b).1 ∧ Sim (X_prove S se q cm a b).2 (M_prove N se q cm a b).2 (c + 1) := by
  have hu := h.up
  have hp := fun v => s_present h v
  obtain ⟨rg, kn, mn, bl, rfl, hR, hKn, hMn, hBl, hB, d, hd, h7⟩ := h
  unfold X_prove M_prove
  rw [show X_isSession (XS N rg kn mn bl) q = M_hasSession N q from rfl, show X_isBlob (XS N rg kn mn bl) a = M_hasBlob N a from rfl]
  by_cases c1 : M_hasSession N q = 0
  · rw [if_pos c1, if_pos c1]
    exact ⟨rfl, hu⟩
  · rw [if_neg c1, if_neg c1]
    by_cases c2 : cm < 1
    · rw [if_pos c2, if_pos c2]
      exact ⟨rfl, hu⟩
    · rw [if_neg c2, if_neg c2]
      by_cases c3 : cm ≤ 3
      · rw [if_pos c3, if_neg ((i34 _).mp c3)]
        rw [right_sim hMn c1]
        by_cases c4 : cm = 2
        · rw [if_pos c4, if_pos c4]
          by_cases c5 : M_hasBlob N a = 0
          · rw [if_pos c5, if_pos c5]
            exact ⟨rfl, hu⟩
          · rw [if_neg c5, if_neg c5]
            obtain ⟨j, hj, rfl⟩ := hasBlob_nI hB c5
            have e : X_param (XS N rg kn mn bl) cm (nI j) b = M_param N cm (nI j) b := by
              unfold X_param M_param
              rw [if_pos c4, if_pos c4, nI_clamp (by omega)]
              exact hBl j hj 5 (by decide)
            rw [e]
            exact ⟨rfl, hp _⟩
        · rw [if_neg c4, if_neg c4]
          have e : X_param (XS N rg kn mn bl) cm a b = M_param N cm a b := by
            unfold X_param M_param
            rw [if_neg c4, if_neg c4]
          rw [e]
          exact ⟨rfl, hp _⟩
      · rw [if_neg c3, if_pos (Classical.not_not.mp (fun n => c3 ((i34 _).mpr n)))]
        exact ⟨rfl, hu⟩
theorem s_pass {S : SX} {N : SM} {c : Nat} (h : Sim S N c) {q : Int32} (hq : ¬ M_hasSession N q = 0) (k cm : Int32) (pa : Int64) : (X_passesProving S (x_ks S k.toNatClampNeg) q cm pa).1 = (M_proved N q k cm pa).1 ∧ Sim (X_passesProving S (x_ks S k.toNatClampNeg) q cm pa).2 (M_proved N q k cm pa).2 c := by
  obtain ⟨rg, kn, mn, bl, rfl, hR, hKn, hMn, hBl, hB, d, hd, h7⟩ := h
  have hm : sMn (M_anew N q) (vp_updL mn q.toNatClampNeg (h2 (m_m N) (m_dr N + 1))) := fun i hi hs => by
    show (if i = q.toNatClampNeg then h2 (m_m N) (m_dr N + 1) else mn i) = h2 (m_m N) (if i = q.toNatClampNeg then m_dr N + 1 else m_sd N i)
    by_cases e : i = q.toNatClampNeg
    · rw [if_pos e, if_pos e]
    · rw [if_neg e, if_neg e]
      exact hMn i hi hs
  unfold X_passesProving M_proved
  rw [right_sim hMn hq]
  show (if lg_cmp (m_pr N) (M_rightFor N (m_ks N k.toNatClampNeg) q cm pa) = 0 then _ else _ : Int32 × SX).1 = _ ∧ Sim (if lg_cmp (m_pr N) (M_rightFor N (m_ks N k.toNatClampNeg) q cm pa) = 0 then _ else _ : Int32 × SX).2 _ c
  by_cases c1 : lg_cmp (m_pr N) (M_rightFor N (m_ks N k.toNatClampNeg) q cm pa) = 0
  · rw [if_pos c1, if_pos c1]
    exact ⟨rfl, rg, kn, _, bl, rfl, hR, hKn, hm, hBl, hB, d, hd, h7⟩
  · rw [if_neg c1, if_neg c1]
    exact ⟨rfl, rg, kn, _, bl, rfl, hR, hKn, hm, hBl, hB, d, hd, h7⟩
theorem M_pass_kt (S : SM) (q k cm : Int32) (pa : Int64) : m_kt (M_proved S q k cm pa).2 = m_kt S ∧ m_ks (M_proved S q k cm pa).2 = m_ks S ∧ m_bw (M_proved S q k cm pa).2 = m_bw S := by
  unfold M_proved
  by_cases h : lg_cmp (m_pr S) (M_rightFor S (m_ks S k.toNatClampNeg) q cm pa) = 0
  · rw [if_pos h]; exact ⟨rfl, rfl, rfl⟩
  · rw [if_neg h]; exact ⟨rfl, rfl, rfl⟩
theorem put_sim (N : SM) (rg kn mn : Nat → Int64) (bl : Nat → Nat → Int64) (q i i' : Nat) (v : Int64) : X_put (XS N rg kn mn bl) q i v = XS (M_put N i' v) rg kn mn (up2 bl q i v) := rfl
theorem sBl_put {N : SM} {bl : Nat → Nat → Int64} (h : sBl N bl) {q i : Nat} (hi : i < 6) (v : Int64) : sBl (M_put N (6 * q + i) v) (up2 bl q i v) := fun a ha j hj => by
  show (if a = q then vp_updL (bl q) i v else bl a) j = (if 6 * a + j = 6 * q + i then v else m_bw N (6 * a + j))
  by_cases e : a = q
  · subst e
    rw [if_pos rfl]
    show (if j = i then v else bl a j) = _
    by_cases f : j = i
    · rw [if_pos f, if_pos (by omega)]
    · rw [if_neg f, if_neg (by omega)]
      exact h a ha j hj
  · rw [if_neg e, if_neg (by omega)]
    exact h a ha j hj
theorem seal_sim {N : SM} {rg kn mn : Nat → Int64} {bl : Nat → Nat → Int64} (h : sBl N bl) {n : Nat} (hn : n < 10) : X_sealOf (XS N rg kn mn bl) n = M_sealOf N (nI n) := by
  unfold X_sealOf M_sealOf
  rw [nI_clamp (by omega)]
  exact congrArg (mE (m_m N)) (foN_congr 5 (fun j hj => h n hn j (by omega)))
/-- alike in all that registers, names and nonces are reckoned from -/
def alikeM (N' N : SM) : Prop := m_m N' = m_m N ∧ m_dn N' = m_dn N ∧ m_wh N' = m_wh N ∧ m_wi N' = m_wi N ∧ m_kt N' = m_kt N ∧ m_ks N' = m_ks N ∧ m_kd N' = m_kd N ∧ m_st N' = m_st N ∧ m_sd N' = m_sd N
theorem sRg_alike {N' N : SM} {rg : Nat → Int64} (e : alikeM N' N) (h : sRg N rg) : sRg N' rg := fun j hj => by
  obtain ⟨-, e1, e2, e3, -⟩ := e
  unfold M_folded
  rw [e1, e2, e3]
  exact h j hj
theorem sKn_alike {N' N : SM} {kn : Nat → Int64} (e : alikeM N' N) (h : sKn N kn) : sKn N' kn := fun j hj hk => by
  obtain ⟨e0, -, -, -, e4, e5, e6, -⟩ := e
  rw [e4] at hk
  rw [h j hj hk]
  unfold M_nameOf M_word
  rw [e0, e5, e6]
theorem sMn_alike {N' N : SM} {mn : Nat → Int64} (e : alikeM N' N) (h : sMn N mn) : sMn N' mn := fun j hj hk => by
  obtain ⟨e0, -, -, -, -, -, -, e7, e8⟩ := e
  rw [e7] at hk
  rw [h j hj hk]
  unfold M_word
  rw [e0, e8]
theorem nameOf_alike {N' N : SM} (e : alikeM N' N) (k : Int32) : M_nameOf N' k = M_nameOf N k := by
  obtain ⟨e0, -, -, -, e4, e5, e6, -⟩ := e
  unfold M_nameOf M_word
  rw [e0, e5, e6]
theorem dig_alike {N' N : SM} (e : alikeM N' N) (mask : Int32) : M_digestOf N' mask = M_digestOf N mask := by
  obtain ⟨-, e1, e2, e3, -⟩ := e
  unfold M_digestOf M_folded
  rw [e1, e2, e3]
theorem cover_sim (N : SM) (rg kn mn : Nat → Int64) (bl : Nat → Nat → Int64) (sa dg : Int64) : X_cover (XS N rg kn mn bl) sa dg = M_veil N sa dg := rfl
theorem xs_dr (N : SM) (rg kn mn : Nat → Int64) (bl : Nat → Nat → Int64) (v : Int64) : xu_dr (XS N rg kn mn bl) v = XS (mu_dr N v) rg kn mn bl := rfl
theorem xs_bc (N : SM) (rg kn mn : Nat → Int64) (bl : Nat → Nat → Int64) (v : Int32) : xu_bc (XS N rg kn mn bl) v = XS (mu_bc N v) rg kn mn bl := rfl
theorem xs_draw2 (N : SM) (rg kn mn : Nat → Int64) (bl : Nat → Nat → Int64) : (X_draw (XS N rg kn mn bl)).2 = XS (mu_dr N (m_dr N + 1)) rg kn mn bl := by
  show xu_dr (XS N rg kn mn bl) (m_dr N + 1) = _
  exact xs_dr N rg kn mn bl _
theorem word_dr (N : SM) (v : Int64) : M_word (mu_dr N v) (m_dr (mu_dr N v)) = h2 (m_m N) v := rfl
theorem xs_draw1 (N : SM) (rg kn mn : Nat → Int64) (bl : Nat → Nat → Int64) : (X_draw (XS N rg kn mn bl)).1 = M_word (mu_dr N (m_dr N + 1)) (m_dr (mu_dr N (m_dr N + 1))) := by
  rw [word_dr]
  rfl
theorem bc_dr (N : SM) (v : Int64) : m_bc (mu_dr N v) = m_bc N := rfl
theorem sBl_dr {N : SM} {bl : Nat → Nat → Int64} (h : sBl N bl) (v : Int64) : sBl (mu_dr N v) bl := h
theorem sBl_bc {N : SM} {bl : Nat → Nat → Int64} (h : sBl N bl) (v : Int32) : sBl (mu_bc N v) bl := h
theorem bc_bc (N : SM) (v : Int32) : m_bc (mu_bc N v) = v := rfl
theorem dn_bc (N : SM) (v : Int32) (i : Nat) (w : Int64) : m_dn (mu_bc (M_put N i w) v) = m_dn N := rfl
theorem alike_put (N : SM) (i : Nat) (v : Int64) : alikeM (M_put N i v) N := ⟨rfl, rfl, rfl, rfl, rfl, rfl, rfl, rfl, rfl⟩
theorem alike_tr {A B C : SM} (h : alikeM A B) (g : alikeM B C) : alikeM A C := by
  obtain ⟨a1, a2, a3, a4, a5, a6, a7, a8, a9⟩ := h
  obtain ⟨b1, b2, b3, b4, b5, b6, b7, b8, b9⟩ := g
  exact ⟨a1.trans b1, a2.trans b2, a3.trans b3, a4.trans b4, a5.trans b5, a6.trans b6, a7.trans b7, a8.trans b8, a9.trans b9⟩
theorem alike_ab5 (T : SM) (k mask : Int32) (data : Int64) : alikeM (M_ab5 T k mask data) T := by
  unfold M_ab5
  exact alike_tr (alike_put _ _ _) (alike_tr (alike_put _ _ _) (alike_tr (alike_put _ _ _) (alike_tr (alike_put _ _ _) (alike_put _ _ _))))
theorem alike_bc (N : SM) (v : Int32) : alikeM (mu_bc N v) N := ⟨rfl, rfl, rfl, rfl, rfl, rfl, rfl, rfl, rfl⟩
theorem alike_dr (N : SM) (v : Int64) : alikeM (mu_dr N v) N := ⟨rfl, rfl, rfl, rfl, rfl, rfl, rfl, rfl, rfl⟩
theorem s_addBlob {S : SX} {P : SM} {c : Nat} (h : Sim S P c) {k mask : Int32} (hk : ¬ M_hasKey P k = 0) (hb : m_bc P < 10) (hm : ∃ j : Nat, j < 256 ∧ mask = nI j) (data : Int64) :
    (X_addBlob S (x_kn S k.toNatClampNeg) mask data).1 = m_bc P + 1 - 1 ∧ Sim (X_addBlob S (x_kn S k.toNatClampNeg) mask data).2 (M_addBlob (mu_dr P (m_dr P + 1)) k mask data) c := by
  obtain ⟨rg, kn, mn, bl, rfl, hR, hKn, hMn, hBl, hB, d, hd, h7⟩ := h
  obtain ⟨n, hn, hbc⟩ := vp_in_of (okB_lt hB hb) (by decide)
  obtain ⟨j, hj, rfl, ht⟩ := hasKey_nI hk
  obtain ⟨T, hT⟩ : ∃ T, T = mu_dr P (m_dr P + 1) := ⟨_, rfl⟩
  have hAT : alikeM T P := by rw [hT]; exact alike_dr _ _
  have hD : X_digestNow (XS P rg kn mn bl) mask = M_digestOf T mask := by rw [dig_sim hR hm, dig_alike hAT]
  have hN : kn j = M_nameOf T (nI j) := by rw [hKn j hj ht, nameOf_alike hAT]
  have hbT' : m_bc T = nI n := by rw [hT, bc_dr]; exact hbc
  have hbT : (m_bc T).toNatClampNeg = n := by rw [hbT', nI_clamp (by omega)]
  have hA5 := alike_ab5 T (nI j) mask data
  have hTX : (X_draw (XS P rg kn mn bl)).2 = XS T rg kn mn bl := by rw [hT, xs_draw2]
  have hTs : (X_draw (XS P rg kn mn bl)).1 = M_word T (m_dr T) := by rw [hT, xs_draw1]
  have hBT : sBl T bl := by rw [hT]; exact sBl_dr hBl _
  have E : X_ab5 (XS P rg kn mn bl) (XS T rg kn mn bl) n (kn j) mask data (M_word T (m_dr T)) = XS (M_ab5 T (nI j) mask data) rg kn mn (up2 (up2 (up2 (up2 (up2 bl n 0 (M_nameOf T (nI j))) n 1 mask.toInt64) n 2 (M_digestOf T mask)) n 3 (M_word T (m_dr T))) n 4 (data ^^^ M_veil T (M_word T (m_dr T)) (M_digestOf T mask))) := by
    unfold X_ab5 M_ab5
    rw [hD, hN, cover_sim, put_sim T rg kn mn bl n 0 (6 * (m_bc T).toNatClampNeg), put_sim _ rg kn mn _ n 1 (6 * (m_bc T).toNatClampNeg + 1), put_sim _ rg kn mn _ n 2 (6 * (m_bc T).toNatClampNeg + 2), put_sim _ rg kn mn _ n 3 (6 * (m_bc T).toNatClampNeg + 3), put_sim _ rg kn mn _ n 4 (6 * (m_bc T).toNatClampNeg + 4)]
  have hB5 : sBl (M_ab5 T (nI j) mask data) (up2 (up2 (up2 (up2 (up2 bl n 0 (M_nameOf T (nI j))) n 1 mask.toInt64) n 2 (M_digestOf T mask)) n 3 (M_word T (m_dr T))) n 4 (data ^^^ M_veil T (M_word T (m_dr T)) (M_digestOf T mask))) := by
    unfold M_ab5
    rw [hbT]
    exact sBl_put (sBl_put (sBl_put (sBl_put (sBl_put (i := 0) hBT (by decide) _) (by decide) _) (by decide) _) (by decide) _) (by decide) _
  unfold X_addBlob
  rw [hTX, hTs, ← hT]
  show m_bc P = m_bc P + 1 - 1 ∧ Sim (xu_bc (X_put (X_ab5 (XS P rg kn mn bl) (XS T rg kn mn bl) (m_bc P).toNatClampNeg (kn (nI j).toNatClampNeg) mask data (M_word T (m_dr T))) (m_bc P).toNatClampNeg 5 (X_sealOf (X_ab5 (XS P rg kn mn bl) (XS T rg kn mn bl) (m_bc P).toNatClampNeg (kn (nI j).toNatClampNeg) mask data (M_word T (m_dr T))) (m_bc P).toNatClampNeg)) (m_bc P + 1)) _ c
  rw [nI_clamp (n := j) (by omega), hbc, nI_clamp (by omega), E, seal_sim hB5 hn]
  unfold M_addBlob
  rw [hbT', nI_clamp (by omega)]
  have hR' := sRg_alike hAT hR
  have hKn' := sKn_alike hAT hKn
  have hMn' := sMn_alike hAT hMn
  have h7' : m_dn T = nI d := by rw [hAT.2.1]; exact h7
  clear hD hN hTX hTs E hT hbT hbT' hBT
  generalize M_ab5 T (nI j) mask data = N5, (up2 (up2 (up2 (up2 (up2 bl n 0 (M_nameOf T (nI j))) n 1 mask.toInt64) n 2 (M_digestOf T mask)) n 3 (M_word T (m_dr T))) n 4 (data ^^^ M_veil T (M_word T (m_dr T)) (M_digestOf T mask))) = bl5 at hB5 hA5 ⊢
  rw [put_sim N5 rg kn mn bl5 n 5 (6 * n + 5), xs_bc]
  refine ⟨by rw [nI_1, nI_pred], rg, kn, mn, up2 bl5 n 5 (M_sealOf N5 (nI n)), rfl, ?_, ?_, ?_, sBl_bc (sBl_put hB5 (by decide) _) _, ⟨n + 1, by omega, by rw [bc_bc]; exact nI_1 n⟩, d, hd, ?_⟩
  · exact sRg_alike (alike_bc _ _) (sRg_alike (alike_put _ _ _) (sRg_alike hA5 hR'))
  · exact sKn_alike (alike_bc _ _) (sKn_alike (alike_put _ _ _) (sKn_alike hA5 hKn'))
  · exact sMn_alike (alike_bc _ _) (sMn_alike (alike_put _ _ _) (sMn_alike hA5 hMn'))
  · rw [dn_bc, hA5.2.1]
    exact h7'
theorem isMaskL {w : Int64} (h : ¬ M_isMask w = 0) : ∃ k : Nat, k < 256 ∧ w.toInt32 = nI k := by
  unfold M_isMask at h
  by_cases c1 : lg_cmp w 0 < 0
  · exact absurd (if_pos c1) h
  · rw [if_neg c1] at h
    by_cases c2 : 0 < lg_cmp w 255
    · exact absurd (if_pos c2) h
    · have a1 : (0 : Int64) ≤ w := by
        apply (lg_cmp_ge _ _).mp
        rw [Int32.le_iff_toInt_le]
        rw [Int32.lt_iff_toInt_lt] at c1
        omega
      have a2 : ¬ (255 : Int64) < w := by
        intro q
        apply c2
        unfold lg_cmp
        rw [if_pos q]
        decide
      rw [Int64.le_iff_toInt_le, show (0 : Int64).toInt = 0 from by decide] at a1
      rw [Int64.lt_iff_toInt_lt, show (255 : Int64).toInt = 255 from by decide] at a2
      have e : w.toInt32.toInt = w.toInt := by
        rw [Int64.toInt_toInt32]
        exact Int.bmod_eq_of_le (by omega) (by omega)
      obtain ⟨j, hj, e2⟩ := nI_of (x := w.toInt32) (by rw [Int32.lt_iff_toInt_lt, show (0 : Int32).toInt = 0 from by decide]; omega)
      rw [e2, nI_toInt hj] at e
      exact ⟨j, by omega, e2⟩
theorem s_seal {S : SX} {N : SM} {c : Nat} (h : Sim S N c) (q k mask : Int32) (data : Int64) : (X_seal S q k mask data).1 = (M_seal N q k mask data).1 ∧ Sim (X_seal S q k mask data).2 (M_seal N q k mask data).2 (c + 1) := by
  have hu := h.up
  unfold X_seal M_seal M_sealP X_isLocked
  have f1 : X_isSession S q = M_hasSession N q := by obtain ⟨rg, kn, mn, bl, rfl, -⟩ := h; rfl
  have f2 : X_isKey S k = M_hasKey N k := by obtain ⟨rg, kn, mn, bl, rfl, -⟩ := h; rfl
  have f3 : x_fa S = m_fa N := by obtain ⟨rg, kn, mn, bl, rfl, -⟩ := h; rfl
  have f4 : x_bc S = m_bc N := by obtain ⟨rg, kn, mn, bl, rfl, -⟩ := h; rfl
  rw [f1, f2, f3, f4, isMask_eq]
  by_cases c1 : M_hasSession N q = 0
  · rw [if_pos c1, if_pos c1]
    exact ⟨rfl, hu⟩
  rw [if_neg c1, if_neg c1]
  by_cases c2 : M_hasKey N k = 0
  · rw [if_pos c2, if_pos c2]
    exact ⟨rfl, hu⟩
  rw [if_neg c2, if_neg c2]
  by_cases c3 : M_isMask mask.toInt64 = 0
  · rw [if_pos c3, if_pos c3]
    exact ⟨rfl, hu⟩
  rw [if_neg c3, if_neg c3]
  by_cases c4 : m_fa N < 3
  · rw [if_pos c4, if_pos c4, if_pos (show (0 : Int32) = 0 from rfl), if_neg (show ¬ 3 ≤ m_fa N from (ilt _ _).mp c4)]
    by_cases c5 : m_bc N < 10
    · rw [if_pos c5, if_pos c5]
      obtain ⟨e1, e2⟩ := s_pass h c1 k 1 (h2 mask.toInt64 data)
      have e3 := M_pass_kt N q k 1 (h2 mask.toInt64 data)
      have e4 := M_pass_eq N q k 1 (h2 mask.toInt64 data)
      rw [e1]
      generalize M_proved N q k 1 (h2 mask.toInt64 data) = P at e1 e2 e3 e4 ⊢
      generalize X_passesProving S (x_ks S k.toNatClampNeg) q 1 (h2 mask.toInt64 data) = PX at e1 e2 ⊢
      by_cases c6 : P.1 = 0
      · rw [if_pos c6, if_pos c6]
        exact ⟨rfl, e2.up⟩
      · rw [if_neg c6, if_neg c6]
        have hk : ¬ M_hasKey P.2 k = 0 := by
          unfold M_hasKey
          rw [e3.1]
          exact c2
        have hb : m_bc P.2 < 10 := by rw [e4.1]; exact c5
        obtain ⟨g1, g2⟩ := s_addBlob e2 hk hb (isMask_nI c3) data
        exact ⟨g1, g2.up⟩
    · rw [if_neg c5, if_neg c5]
      exact ⟨rfl, hu⟩
  · rw [if_neg c4, if_neg c4, if_neg (show ¬ (1 : Int32) = 0 by decide), if_pos (show 3 ≤ m_fa N from Classical.not_not.mp fun n => c4 ((ilt _ _).mpr n))]
    exact ⟨rfl, hu⟩
