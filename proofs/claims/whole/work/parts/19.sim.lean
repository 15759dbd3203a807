/-! program and reference side by side: one value of the reference's state, and four rows that the program keeps by itself -/
def XS (N : SM) (rg kn mn : Nat → Int64) (bl : Nat → Nat → Int64) : SX := (m_m N, m_dr N, m_lo N, m_fa N, m_pr N, m_ou N, rg, m_kt N, m_ks N, kn, m_st N, m_cn N, mn, m_bc N, bl)
def sRg (N : SM) (rg : Nat → Int64) : Prop := ∀ j : Nat, j < 8 → rg j = M_folded N (nI j)
def sKn (N : SM) (kn : Nat → Int64) : Prop := ∀ j : Nat, j < 6 → ¬ m_kt N j = 0 → kn j = M_nameOf N (nI j)
def sMn (N : SM) (mn : Nat → Int64) : Prop := ∀ j : Nat, j < 4 → ¬ m_st N j = 0 → mn j = M_word N (m_sd N j)
def sBl (N : SM) (bl : Nat → Nat → Int64) : Prop := ∀ q : Nat, q < 10 → ∀ i : Nat, i < 6 → bl q i = m_bw N (6 * q + i)
def Sim (S : SX) (N : SM) (c : Nat) : Prop := ∃ (rg kn mn : Nat → Int64) (bl : Nat → Nat → Int64), S = XS N rg kn mn bl ∧ sRg N rg ∧ sKn N kn ∧ sMn N mn ∧ sBl N bl ∧ okB (m_bc N) ∧ ∃ d : Nat, d ≤ c ∧ m_dn N = nI d
theorem Sim.up {S : SX} {N : SM} {c : Nat} (h : Sim S N c) : Sim S N (c + 1) := by
  obtain ⟨rg, kn, mn, bl, h1, h2, h3, h4, h5, h6, d, hd, h7⟩ := h
  exact ⟨rg, kn, mn, bl, h1, h2, h3, h4, h5, h6, d, by omega, h7⟩
theorem Sim.okD {S : SX} {N : SM} {c : Nat} (h : Sim S N c) (hc : c ≤ 512) : okD (m_dn N) := by
  obtain ⟨rg, kn, mn, bl, h1, h2, h3, h4, h5, h6, d, hd, h7⟩ := h
  exact ⟨d, by omega, h7⟩
theorem Sim.room {S : SX} {N : SM} {c : Nat} (h : Sim S N c) (hc : c < 512) : vp_in (m_dn N) 512 := by
  obtain ⟨rg, kn, mn, bl, h1, h2, h3, h4, h5, h6, d, hd, h7⟩ := h
  rw [h7]
  exact vp_in_nI (by omega) (by decide)
theorem Sim.okB {S : SX} {N : SM} {c : Nat} (h : Sim S N c) : okB (m_bc N) ∧ okB (x_bc S) := by
  obtain ⟨rg, kn, mn, bl, rfl, h2, h3, h4, h5, h6, d, hd, h7⟩ := h
  exact ⟨h6, h6⟩
theorem i78 (q : Int32) : 8 ≤ q ↔ 7 < q := by
  rw [Int32.le_iff_toInt_le, Int32.lt_iff_toInt_lt, show (8 : Int32).toInt = 8 from by decide, show (7 : Int32).toInt = 7 from by decide]
  omega
theorem i78' (q : Int32) : ¬ 8 ≤ q ↔ q ≤ 7 := by
  rw [Int32.le_iff_toInt_le, Int32.le_iff_toInt_le, show (8 : Int32).toInt = 8 from by decide, show (7 : Int32).toInt = 7 from by decide]
  omega
theorem i34 (q : Int32) : q ≤ 3 ↔ ¬ 3 < q := by
  rw [Int32.le_iff_toInt_le, Int32.lt_iff_toInt_lt, show (3 : Int32).toInt = 3 from by decide]
  omega
theorem i56 (q : Int32) : 6 ≤ q ↔ 5 < q := by
  rw [Int32.le_iff_toInt_le, Int32.lt_iff_toInt_lt, show (6 : Int32).toInt = 6 from by decide, show (5 : Int32).toInt = 5 from by decide]
  omega
theorem i56' (q : Int32) : ¬ 6 ≤ q ↔ q ≤ 5 := by
  rw [Int32.le_iff_toInt_le, Int32.le_iff_toInt_le, show (6 : Int32).toInt = 6 from by decide, show (5 : Int32).toInt = 5 from by decide]
  omega
theorem ilt (a b : Int32) : a < b ↔ ¬ b ≤ a := by
  rw [Int32.le_iff_toInt_le, Int32.lt_iff_toInt_lt]
  omega
/-! reckoning of registers -/
theorem fld_congr {wh wh' : Nat → Int32} {wi wi' : Nat → Int64} {q : Int32} : ∀ n : Nat, (∀ j, j < n → wh j = wh' j) → (∀ j, j < n → wi j = wi' j) → fld wh wi q n = fld wh' wi' q n
  | 0, _, _ => rfl
  | n + 1, h1, h2 => by
    unfold fld
    rw [fld_congr n (fun j hj => h1 j (by omega)) (fun j hj => h2 j (by omega)), h1 n (by omega), h2 n (by omega)]
theorem fld_noted (N : SM) {d : Nat} (hd : d < 512) (e : m_dn N = nI d) (kd q : Int32) (v : Int64) :
    M_folded (M_noted N kd v) q = if kd = q + 8 then 0 else if kd = q then h2 (M_folded N q) v else M_folded N q := by
  have e1 : (m_dn (M_noted N kd v)).toNatClampNeg = d + 1 := by
    show (m_dn N + 1).toNatClampNeg = d + 1
    rw [e, nI_1, nI_clamp (by omega)]
  have e0 : (m_dn N).toNatClampNeg = d := by rw [e, nI_clamp (by omega)]
  unfold M_folded
  rw [e1, e0]
  show fld (upd (m_wh N) (m_dn N).toNatClampNeg kd) (vp_updL (m_wi N) (m_dn N).toNatClampNeg v) q (d + 1) = _
  rw [e0]
  have ec : fld (upd (m_wh N) d kd) (vp_updL (m_wi N) d v) q d = fld (m_wh N) (m_wi N) q d :=
    fld_congr d (fun j hj => if_neg (by omega)) (fun j hj => if_neg (by omega))
  rw [show fld (upd (m_wh N) d kd) (vp_updL (m_wi N) d v) q (d + 1) = (if upd (m_wh N) d kd d = q + 8 then 0 else if upd (m_wh N) d kd d = q then h2 (fld (upd (m_wh N) d kd) (vp_updL (m_wi N) d v) q d) (vp_updL (m_wi N) d v d) else fld (upd (m_wh N) d kd) (vp_updL (m_wi N) d v) q d) from rfl]
  rw [ec, show upd (m_wh N) d kd d = kd from if_pos rfl, show vp_updL (m_wi N) d v d = v from if_pos rfl]
/-! digests -/
theorem dgX_congr {rg rg' : Nat → Int64} {mask : Int32} {h : Int64} : ∀ n : Nat, (∀ j, j < n → rg j = rg' j) → dgX rg mask h n = dgX rg' mask h n
  | 0, _ => rfl
  | n + 1, e => by
    unfold dgX
    rw [dgX_congr n (fun j hj => e j (by omega)), e n (by omega)]
theorem foN_put (h : Int64) (f : Nat → Int64) (i : Nat) (v : Int64) : foN h (vp_updL f i v) (i + 1) = fo (foN h f i) v := by
  rw [show foN h (vp_updL f i v) (i + 1) = fo (foN h (vp_updL f i v) i) (vp_updL f i v i) from rfl, foN_congr (f := vp_updL f i v) (g := f) i (fun j hj => if_neg (by omega)), show vp_updL f i v i = v from if_pos rfl]
theorem rowN_s (ro hd : Nat → Int64) (mask : Int32) (n : Nat) : rowN ro hd mask (n + 1) = if (mask >>> (nI n &&& 31)) &&& 1 = 1 then vp_updL (rowN ro hd mask n) (cntN mask n) (hd n) else rowN ro hd mask n := rfl
theorem cntN_s (mask : Int32) (n : Nat) : cntN mask (n + 1) = if (mask >>> (nI n &&& 31)) &&& 1 = 1 then cntN mask n + 1 else cntN mask n := rfl
theorem dgX_s (rg : Nat → Int64) (mask : Int32) (h : Int64) (n : Nat) : dgX rg mask h (n + 1) = if (mask >>> (nI n &&& 31)) &&& 1 = 0 then dgX rg mask h n else fo (dgX rg mask h n) (rg n) := rfl
theorem dig_row {k : Nat} (hk : k < 256) (F : Nat → Int64) (h w : Int64) : ∀ n : Nat, n ≤ 8 → foN h (rowN (fun _ => w) F (nI k) n) (cntN (nI k) n) = dgX F (nI k) (fo h w) n
  | 0, _ => rfl
  | n + 1, hn => by
    have ih := dig_row hk F h w n (by omega)
    rw [rowN_s, cntN_s, dgX_s]
    rcases bit01 k hk n (by omega) with b | b
    · have b1 : ¬ ((nI k) >>> (nI n &&& 31)) &&& 1 = 1 := by rw [b]; decide
      rw [if_neg b1, if_neg b1, if_pos b]
      exact ih
    · have b0 : ¬ ((nI k) >>> (nI n &&& 31)) &&& 1 = 0 := by rw [b]; decide
      rw [if_pos b, if_pos b, if_neg b0]
      rw [foN_put, ih]
theorem isMask_nI {mask : Int32} (h : ¬ M_isMask mask.toInt64 = 0) : ∃ k : Nat, k < 256 ∧ mask = nI k := by
  unfold M_isMask at h
  by_cases c1 : lg_cmp mask.toInt64 0 < 0
  · exact absurd (if_pos c1) h
  · rw [if_neg c1] at h
    by_cases c2 : 0 < lg_cmp mask.toInt64 255
    · exact absurd (if_pos c2) h
    · have a1 : (0 : Int64) ≤ mask.toInt64 := by
        apply (lg_cmp_ge _ _).mp
        rw [Int32.le_iff_toInt_le]
        rw [Int32.lt_iff_toInt_lt] at c1
        omega
      have a2 : ¬ (255 : Int64) < mask.toInt64 := by
        intro q
        apply c2
        unfold lg_cmp
        rw [if_pos q]
        decide
      rw [Int64.le_iff_toInt_le, Int32.toInt_toInt64, show (0 : Int64).toInt = 0 from by decide] at a1
      rw [Int64.lt_iff_toInt_lt, Int32.toInt_toInt64, show (255 : Int64).toInt = 255 from by decide] at a2
      obtain ⟨j, hj, rfl⟩ := nI_of (x := mask) (by rw [Int32.lt_iff_toInt_lt, show (0 : Int32).toInt = 0 from by decide]; omega)
      rw [nI_toInt hj] at a2
      exact ⟨j, by omega, rfl⟩
theorem dig_sim {N : SM} {rg kn mn : Nat → Int64} {bl : Nat → Nat → Int64} (hr : sRg N rg) {mask : Int32} (hm : ∃ k : Nat, k < 256 ∧ mask = nI k) : X_digestNow (XS N rg kn mn bl) mask = M_digestOf N mask := by
  obtain ⟨k, hk, rfl⟩ := hm
  unfold X_digestNow M_digestOf
  rw [dig_row hk _ _ _ 8 (Nat.le_refl _), bit_cnt k hk]
  exact dgX_congr 8 hr
theorem isMask_eq (w : Int64) : X_isMask w = M_isMask w := rfl
/-! the least free place -/
theorem lf_both (f : Nat → Int32) : ∀ r i : Nat, lfN f i r = if lfK f i r = i + r then -1 else nI (lfK f i r)
  | 0, i => (if_pos rfl).symm
  | r + 1, i => by
    unfold lfN lfK
    by_cases h : f i = 0
    · rw [if_pos h, if_pos h, if_neg (by omega)]
    · rw [if_neg h, if_neg h, lf_both f r (i + 1), show i + 1 + r = i + (r + 1) by omega]
theorem lf_full {f : Nat → Int32} {n : Nat} (h : lfK f 0 n = n) : lfN f 0 n = -1 := by
  rw [lf_both, if_pos (by omega)]
theorem lf_free {f : Nat → Int32} {n : Nat} (h : ¬ lfK f 0 n = n) : lfN f 0 n = nI (lfK f 0 n) := by
  rw [lf_both, if_neg (by omega)]
/-! the operations -/
theorem s_locality {S : SX} {N : SM} {c : Nat} (h : Sim S N c) (q : Int32) : (X_locality S q).1 = (M_locality N q).1 ∧ Sim (X_locality S q).2 (M_locality N q).2 (c + 1) := by
  have hu := h.up
  obtain ⟨rg, kn, mn, bl, rfl, h2, h3, h4, h5, h6, d, hd, h7⟩ := h
  unfold X_locality M_locality
  by_cases c1 : q < 0
  · rw [if_pos c1, if_pos c1]
    exact ⟨rfl, hu⟩
  · rw [if_neg c1, if_neg c1]
    by_cases c2 : q ≤ 3
    · rw [if_pos c2, if_pos c2]
      exact ⟨rfl, rg, kn, mn, bl, rfl, h2, h3, h4, h5, h6, d, by omega, h7⟩
    · rw [if_neg c2, if_neg c2]
      exact ⟨rfl, hu⟩
theorem isReg_no {q : Int32} (h : X_isRegister q = 0) : q < 0 ∨ 7 < q := by
  unfold X_isRegister at h
  by_cases c1 : q < 0
  · exact Or.inl c1
  · rw [if_neg c1] at h
    by_cases c2 : 8 ≤ q
    · exact Or.inr ((i78 q).mp c2)
    · rw [if_neg c2] at h
      exact absurd h (by decide)
theorem isReg_yes {q : Int32} (h : ¬ X_isRegister q = 0) : ¬ q < 0 ∧ ¬ 7 < q ∧ ∃ j : Nat, j < 8 ∧ q = nI j := by
  have hq := X_isRegister_in h
  obtain ⟨j, hj, rfl⟩ := vp_in_of hq (by decide)
  refine ⟨nI_pos (by omega), fun q => ?_, j, hj, rfl⟩
  have := (nI_ltI (a := 7) (by decide) (by omega)).mp q
  omega
theorem isOpen_no {S : SX} {q : Int32} (h : X_isOpen S q = 0) : x_lo S < q / 2 := by
  unfold X_isOpen at h
  by_cases c1 : x_lo S < q / 2
  · exact c1
  · rw [if_neg c1] at h
    exact absurd h (by decide)
theorem isOpen_yes {S : SX} {q : Int32} (h : ¬ X_isOpen S q = 0) : ¬ x_lo S < q / 2 := fun c1 => h (if_pos c1)
theorem s_noted {N : SM} {rg kn mn : Nat → Int64} {bl : Nat → Nat → Int64} {c d : Nat} (hc : c < 512) (hR : sRg N rg) (hKn : sKn N kn) (hMn : sMn N mn) (hBl : sBl N bl) (hB : okB (m_bc N)) (hd : d ≤ c) (h7 : m_dn N = nI d) (kd : Int32) (v : Int64) (rg' : Nat → Int64)
    (hg : ∀ i : Nat, i < 8 → rg' i = if kd = nI i + 8 then 0 else if kd = nI i then h2 (M_folded N (nI i)) v else M_folded N (nI i)) : Sim (xu_rg (XS N rg kn mn bl) rg') (M_noted N kd v) (c + 1) := by
  refine ⟨rg', kn, mn, bl, rfl, fun i hi => ?_, hKn, hMn, hBl, hB, d + 1, by omega, ?_⟩
  · rw [fld_noted N (by omega) h7]
    exact hg i hi
  · show m_dn N + 1 = _
    rw [h7, nI_1]
theorem s_extend {S : SX} {N : SM} {c : Nat} (hc : c < 512) (h : Sim S N c) (q : Int32) (v : Int64) : (X_extend S q v).1 = (M_extend N q v).1 ∧ Sim (X_extend S q v).2 (M_extend N q v).2 (c + 1) := by
  have hu := h.up
  obtain ⟨rg, kn, mn, bl, rfl, hR, hKn, hMn, hBl, hB, d, hd, h7⟩ := h
  unfold X_extend M_extend M_note
  by_cases c1 : X_isRegister q = 0
  · rw [if_pos c1]
    rcases isReg_no c1 with n | n
    · rw [if_pos n]
      exact ⟨rfl, hu⟩
    · by_cases n0 : q < 0
      · rw [if_pos n0]
        exact ⟨rfl, hu⟩
      · rw [if_neg n0, if_pos n]
        exact ⟨rfl, hu⟩
  · obtain ⟨n0, n7, j, hj, rfl⟩ := isReg_yes c1
    rw [if_neg c1, if_neg n0, if_neg n7]
    by_cases c2 : X_isOpen (XS N rg kn mn bl) (nI j) = 0
    · rw [if_pos c2, if_neg (show ¬ nI j / 2 ≤ m_lo N from (ilt _ _).mp (isOpen_no c2))]
      exact ⟨rfl, hu⟩
    · have o := isOpen_yes c2
      rw [ilt, Classical.not_not] at o
      rw [if_neg c2, if_pos (show nI j / 2 ≤ m_lo N from o), nI_clamp (by omega)]
      refine ⟨rfl, s_noted hc hR hKn hMn hBl hB hd h7 (nI j) v _ (fun i hi => ?_)⟩
      have e1 : ¬ nI j = nI i + 8 := fun e => by
        rw [show nI i + 8 = nI (i + 8) from nI_add i 8, nI_eq (by omega) (by omega)] at e
        omega
      rw [if_neg e1]
      show (if i = j then h2 (rg j) v else rg i) = _
      by_cases e : i = j
      · rw [if_pos e, e, if_pos rfl, hR j hj]
      · rw [if_neg e, if_neg (by rw [nI_eq (by omega) (by omega)]; omega)]
        exact hR i hi
theorem s_reset {S : SX} {N : SM} {c : Nat} (hc : c < 512) (h : Sim S N c) (q : Int32) : (X_reset S q).1 = (M_reset N q).1 ∧ Sim (X_reset S q).2 (M_reset N q).2 (c + 1) := by
  have hu := h.up
  obtain ⟨rg, kn, mn, bl, rfl, hR, hKn, hMn, hBl, hB, d, hd, h7⟩ := h
  unfold X_reset M_reset
  by_cases c1 : X_isRegister q = 0
  · rw [if_pos c1]
    by_cases n4 : q < 4
    · rw [if_pos n4]
      exact ⟨rfl, hu⟩
    · rw [if_neg n4]
      rcases isReg_no c1 with n | n
      · exact absurd (show q < 4 by rw [Int32.lt_iff_toInt_lt] at n ⊢; rw [show (0 : Int32).toInt = 0 from by decide] at n; rw [show (4 : Int32).toInt = 4 from by decide]; omega) n4
      · rw [if_pos n]
        exact ⟨rfl, hu⟩
  · obtain ⟨n0, n7, j, hj, rfl⟩ := isReg_yes c1
    rw [if_neg c1, if_neg n7]
    by_cases n4 : nI j < 4
    · rw [if_pos n4, if_pos n4]
      exact ⟨rfl, hu⟩
    · rw [if_neg n4, if_neg n4]
      by_cases c2 : X_isOpen (XS N rg kn mn bl) (nI j) = 0
      · rw [if_pos c2]
        have e : M_note N (nI j) (nI j + 8) 0 = (0, N) := by
          unfold M_note
          rw [if_neg n0, if_neg n7, if_neg (show ¬ nI j / 2 ≤ m_lo N from (ilt _ _).mp (isOpen_no c2))]
        rw [e, if_pos rfl]
        exact ⟨rfl, hu⟩
      · have o := isOpen_yes c2
        rw [ilt, Classical.not_not] at o
        have e : M_note N (nI j) (nI j + 8) 0 = (1, M_noted N (nI j + 8) 0) := by
          unfold M_note
          rw [if_neg n0, if_neg n7, if_pos (show nI j / 2 ≤ m_lo N from o)]
        rw [e, if_neg c2, if_neg (show ¬ (1 : Int32) = 0 by decide), nI_clamp (by omega)]
        refine ⟨rfl, s_noted hc hR hKn hMn hBl hB hd h7 (nI j + 8) 0 _ (fun i hi => ?_)⟩
        rw [show nI i + 8 = nI (i + 8) from nI_add i 8, show nI j + 8 = nI (j + 8) from nI_add j 8]
        show (if i = j then 0 else rg i) = _
        by_cases e : i = j
        · rw [if_pos e, if_pos (show nI (j + 8) = nI (i + 8) by rw [e])]
        · rw [if_neg e, if_neg (fun q : nI (j + 8) = nI (i + 8) => by rw [nI_eq (by omega) (by omega)] at q; omega), if_neg (fun q : nI (j + 8) = nI i => by rw [nI_eq (by omega) (by omega)] at q; omega)]
          exact hR i hi
theorem s_register {S : SX} {N : SM} {c : Nat} (h : Sim S N c) (q : Int32) : X_register S q = M_register N q := by
  obtain ⟨rg, kn, mn, bl, rfl, hR, hKn, hMn, hBl, hB, d, hd, h7⟩ := h
  unfold X_register M_register
  by_cases c1 : X_isRegister q = 0
  · rw [if_pos c1]
    rcases isReg_no c1 with n | n
    · rw [if_pos n]
    · by_cases n0 : q < 0
      · rw [if_pos n0]
      · rw [if_neg n0, if_neg (by rw [← i78', i78]; exact fun q => q n)]
  · obtain ⟨n0, n7, j, hj, rfl⟩ := isReg_yes c1
    rw [if_neg c1, if_neg n0, if_pos (by rw [← i78', i78]; exact n7), nI_clamp (by omega)]
    exact hR j hj
theorem s_digest {S : SX} {N : SM} {c : Nat} (h : Sim S N c) (mask : Int32) : X_digest S mask = M_digest N mask := by
  obtain ⟨rg, kn, mn, bl, rfl, hR, hKn, hMn, hBl, hB, d, hd, h7⟩ := h
  unfold X_digest M_digest
  rw [isMask_eq]
  by_cases c1 : M_isMask mask.toInt64 = 0
  · rw [if_pos c1, if_pos c1]
  · rw [if_neg c1, if_neg c1]
    exact dig_sim hR (isMask_nI c1)
theorem hasKey_nI {N : SM} {k : Int32} (h : ¬ M_hasKey N k = 0) : ∃ j : Nat, j < 6 ∧ k = nI j ∧ ¬ m_kt N j = 0 := by
  obtain ⟨j, hj, rfl⟩ := vp_in_of (M_hasKey_in h) (by decide)
  refine ⟨j, hj, rfl, fun e => h ?_⟩
  unfold M_hasKey
  rw [nI_clamp (by omega), if_pos e]
  by_cases c1 : nI j < 0
  · exact if_pos c1
  · rw [if_neg c1]
    by_cases c2 : 6 ≤ nI j
    · exact if_pos c2
    · exact if_neg c2
theorem hasSession_nI {N : SM} {k : Int32} (h : ¬ M_hasSession N k = 0) : ∃ j : Nat, j < 4 ∧ k = nI j ∧ ¬ m_st N j = 0 := by
  obtain ⟨j, hj, rfl⟩ := vp_in_of (M_hasSession_in h) (by decide)
  refine ⟨j, hj, rfl, fun e => h ?_⟩
  unfold M_hasSession
  rw [nI_clamp (by omega), if_pos e]
  by_cases c1 : nI j < 0
  · exact if_pos c1
  · rw [if_neg c1]
    by_cases c2 : 4 ≤ nI j
    · exact if_pos c2
    · exact if_neg c2
theorem nameOf_nI (N : SM) {j : Nat} (h : j < 6) : M_nameOf N (nI j) = h2 (m_ks N j) (M_word N (m_kd N j)) := by
  unfold M_nameOf
  rw [nI_clamp (by omega)]
theorem X_create_full {S : SX} {se : Int64} (h : lfK (x_kt S) 0 6 = 6) : X_create S se = (-5, S) := by
  unfold X_create
  rw [lf_full h, if_neg (by decide)]
theorem X_create_free {S : SX} {se : Int64} {j : Nat} (h : lfK (x_kt S) 0 6 = j) (hj : j < 6) : X_create S se = (nI j, xu_kn (X_draw (xu_ks (xu_kt S (upd (x_kt S) j 1)) (vp_updL (x_ks S) j se))).2 (vp_updL (x_kn S) j (h2 se (X_draw S).1))) := by
  unfold X_create
  rw [lf_free (by omega), h, if_pos (nI_pos' (by omega)), nI_clamp (by omega)]
theorem X_begin_full {S : SX} {no : Int64} (h : lfK (x_st S) 0 4 = 4) : X_begin S no = (-5, S) := by
  unfold X_begin
  rw [lf_full h, if_neg (by decide)]
theorem X_begin_free {S : SX} {no : Int64} {j : Nat} (h : lfK (x_st S) 0 4 = j) (hj : j < 4) : X_begin S no = (nI j, xu_mn (X_draw (xu_cn (xu_st S (upd (x_st S) j 1)) (vp_updL (x_cn S) j no))).2 (vp_updL (x_mn S) j (X_draw S).1)) := by
  unfold X_begin
  rw [lf_free (by omega), h, if_pos (nI_pos' (by omega)), nI_clamp (by omega)]
theorem s_create {S : SX} {N : SM} {c : Nat} (h : Sim S N c) (se : Int64) : (X_create S se).1 = (M_create N se).1 ∧ Sim (X_create S se).2 (M_create N se).2 (c + 1) := by
  have hu := h.up
  obtain ⟨rg, kn, mn, bl, rfl, hR, hKn, hMn, hBl, hB, d, hd, h7⟩ := h
  unfold M_create
  by_cases c1 : lfK (m_kt N) 0 6 = 6
  · rw [X_create_full (S := XS N rg kn mn bl) c1, c1, if_pos (show nI 6 = 6 from rfl)]
    exact ⟨rfl, hu⟩
  · have hj : lfK (m_kt N) 0 6 < 6 := by
      have := lfK_le (m_kt N) 6 0
      omega
    obtain ⟨j, hje⟩ : ∃ j, lfK (m_kt N) 0 6 = j := ⟨_, rfl⟩
    rw [X_create_free (S := XS N rg kn mn bl) hje (by omega), hje]
    rw [hje] at c1 hj
    rw [if_neg (show ¬ nI j = 6 from fun e => c1 ((nI_eq (b := 6) (by omega) (by decide)).mp e))]
    refine ⟨rfl, rg, _, mn, bl, rfl, hR, fun i hi hk => ?_, hMn, hBl, hB, d, by omega, h7⟩
    rw [nameOf_nI _ hi]
    show (if i = j then _ else kn i) = h2 (if i = j then se else m_ks N i) (h2 (m_m N) (if i = j then m_dr N + 1 else m_kd N i))
    by_cases e : i = j
    · rw [if_pos e, if_pos e, if_pos e]
      rfl
    · rw [if_neg e, if_neg e, if_neg e]
      have hk' : ¬ m_kt N i = 0 := by
        intro q
        apply hk
        show (if i = j then (1 : Int32) else m_kt N i) = 0
        rw [if_neg e]
        exact q
      rw [hKn i hi hk', nameOf_nI _ hi]
      rfl
theorem s_destroy {S : SX} {N : SM} {c : Nat} (h : Sim S N c) (k : Int32) : (X_destroy S k).1 = (M_destroy N k).1 ∧ Sim (X_destroy S k).2 (M_destroy N k).2 (c + 1) := by
  have hu := h.up
  obtain ⟨rg, kn, mn, bl, rfl, hR, hKn, hMn, hBl, hB, d, hd, h7⟩ := h
  unfold X_destroy M_destroy
  rw [show X_isKey (XS N rg kn mn bl) k = M_hasKey N k from rfl]
  by_cases c1 : M_hasKey N k = 0
  · rw [if_pos c1, if_pos c1]
    exact ⟨rfl, hu⟩
  · rw [if_neg c1, if_neg c1]
    refine ⟨rfl, rg, kn, mn, bl, rfl, hR, fun i hi hk => hKn i hi fun q => hk ?_, hMn, hBl, hB, d, by omega, h7⟩
    show (if i = k.toNatClampNeg then (0 : Int32) else m_kt N i) = 0
    by_cases e : i = k.toNatClampNeg
    · exact if_pos e
    · rw [if_neg e]
      exact q
theorem s_name {S : SX} {N : SM} {c : Nat} (h : Sim S N c) (k : Int32) : X_name S k = M_name N k := by
  obtain ⟨rg, kn, mn, bl, rfl, hR, hKn, hMn, hBl, hB, d, hd, h7⟩ := h
  unfold X_name M_name
  rw [show X_isKey (XS N rg kn mn bl) k = M_hasKey N k from rfl]
  by_cases c1 : M_hasKey N k = 0
  · rw [if_pos c1, if_pos c1]
  · rw [if_neg c1, if_neg c1]
    obtain ⟨j, hj, rfl, ht⟩ := hasKey_nI c1
    rw [nI_clamp (by omega)]
    exact hKn j hj ht
theorem s_begin {S : SX} {N : SM} {c : Nat} (h : Sim S N c) (no : Int64) : (X_begin S no).1 = (M_begin N no).1 ∧ Sim (X_begin S no).2 (M_begin N no).2 (c + 1) := by
  have hu := h.up
  obtain ⟨rg, kn, mn, bl, rfl, hR, hKn, hMn, hBl, hB, d, hd, h7⟩ := h
  unfold M_begin
  by_cases c1 : lfK (m_st N) 0 4 = 4
  · rw [X_begin_full (S := XS N rg kn mn bl) c1, c1, if_pos (show nI 4 = 4 from rfl)]
    exact ⟨rfl, hu⟩
  · have hj : lfK (m_st N) 0 4 < 4 := by
      have := lfK_le (m_st N) 4 0
      omega
    obtain ⟨j, hje⟩ : ∃ j, lfK (m_st N) 0 4 = j := ⟨_, rfl⟩
    rw [X_begin_free (S := XS N rg kn mn bl) hje (by omega), hje]
    rw [hje] at c1 hj
    rw [if_neg (show ¬ nI j = 4 from fun e => c1 ((nI_eq (b := 4) (by omega) (by decide)).mp e))]
    refine ⟨rfl, rg, kn, _, bl, rfl, hR, hKn, fun i hi hk => ?_, hBl, hB, d, by omega, h7⟩
    show (if i = j then _ else mn i) = h2 (m_m N) (if i = j then m_dr N + 1 else m_sd N i)
    by_cases e : i = j
    · rw [if_pos e, if_pos e]
      rfl
    · rw [if_neg e, if_neg e]
      have hk' : ¬ m_st N i = 0 := by
        intro q
        apply hk
        show (if i = j then (1 : Int32) else m_st N i) = 0
        rw [if_neg e]
        exact q
      exact hMn i hi hk'
theorem s_end {S : SX} {N : SM} {c : Nat} (h : Sim S N c) (k : Int32) : (X_end S k).1 = (M_end N k).1 ∧ Sim (X_end S k).2 (M_end N k).2 (c + 1) := by
  have hu := h.up
  obtain ⟨rg, kn, mn, bl, rfl, hR, hKn, hMn, hBl, hB, d, hd, h7⟩ := h
  unfold X_end M_end
  rw [show X_isSession (XS N rg kn mn bl) k = M_hasSession N k from rfl]
  by_cases c1 : M_hasSession N k = 0
  · rw [if_pos c1, if_pos c1]
    exact ⟨rfl, hu⟩
  · rw [if_neg c1, if_neg c1]
    refine ⟨rfl, rg, kn, mn, bl, rfl, hR, hKn, fun i hi hk => hMn i hi fun q => hk ?_, hBl, hB, d, by omega, h7⟩
    show (if i = k.toNatClampNeg then (0 : Int32) else m_st N i) = 0
    by_cases e : i = k.toNatClampNeg
    · exact if_pos e
    · rw [if_neg e]
      exact q
theorem s_nonce {S : SX} {N : SM} {c : Nat} (h : Sim S N c) (k : Int32) : X_nonce S k = M_nonce N k := by
  obtain ⟨rg, kn, mn, bl, rfl, hR, hKn, hMn, hBl, hB, d, hd, h7⟩ := h
  unfold X_nonce M_nonce
  rw [show X_isSession (XS N rg kn mn bl) k = M_hasSession N k from rfl]
  by_cases c1 : M_hasSession N k = 0
  · rw [if_pos c1, if_pos c1]
  · rw [if_neg c1, if_neg c1]
    obtain ⟨j, hj, rfl, ht⟩ := hasSession_nI c1
    rw [nI_clamp (by omega)]
    exact hMn j hj ht
