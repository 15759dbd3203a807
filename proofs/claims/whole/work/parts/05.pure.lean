/-! what each method answers, as functions of the state -/
def fo (h w : Int64) : Int64 := ((h ^^^ w) * 3141592653589793239) ^^^ (((h ^^^ w) * 3141592653589793239).toUInt64 >>> ((29 : Int32).toInt64.toUInt64 &&& Int64.toUInt64 63)).toInt64
def h2 (a b : Int64) : Int64 := fo (fo 2 a) b
def mB (k : Int64) (n : Int32) : Int64 := fo (n + 1).toInt64 (k ^^^ 92)
def mE (k i : Int64) : Int64 := h2 (k ^^^ 54) i
def ushr (x y : Int32) : Int32 := (x.toUInt32 >>> (y.toUInt32 &&& Int32.toUInt32 31)).toInt32
def bcA (x : Int32) : Int32 := x - (ushr x 1 &&& 1431655765)
def bcB (x : Int32) : Int32 := (x &&& 858993459) + (ushr x 2 &&& 858993459)
def bcC (x : Int32) : Int32 := (x + ushr x 4) &&& 252645135
def bcD (x : Int32) : Int32 := x + ushr x 8
def bcE (x : Int32) : Int32 := x + ushr x 16
def bc32 (x : Int32) : Int32 := bcE (bcD (bcC (bcB (bcA x)))) &&& 63
/-- f folded from 0 on, n words, into h -/
def foN (h : Int64) (f : Nat → Int64) : Nat → Int64
  | 0 => h
  | n + 1 => fo (foN h f n) (f n)
def dgX (rg : Nat → Int64) (mask : Int32) (h : Int64) : Nat → Int64
  | 0 => h
  | n + 1 => if (mask >>> (nI n &&& 31)) &&& 1 = 0 then dgX rg mask h n else fo (dgX rg mask h n) (rg n)
def lfN (f : Nat → Int32) : Nat → Nat → Int32
  | _, 0 => -1
  | i, r + 1 => if f i = 0 then nI i else lfN f (i + 1) r
def lkN (kt : Nat → Int32) (kn : Nat → Int64) (name : Int64) : Nat → Nat → Int32
  | _, 0 => -1
  | i, r + 1 => if kt i = 0 then lkN kt kn name (i + 1) r else if lg_cmp (kn i) name = 0 then nI i else lkN kt kn name (i + 1) r
def X_isRegister (p : Int32) : Int32 := if p < 0 then 0 else if 8 ≤ p then 0 else 1
def X_isOpen (S : SX) (p : Int32) : Int32 := if x_lo S < p / 2 then 0 else 1
def X_isMask (w : Int64) : Int32 := if lg_cmp w 0 < 0 then 0 else if 0 < lg_cmp w 255 then 0 else 1
def X_isKey (S : SX) (k : Int32) : Int32 := if k < 0 then 0 else if 6 ≤ k then 0 else if x_kt S k.toNatClampNeg = 0 then 0 else 1
def X_isSession (S : SX) (k : Int32) : Int32 := if k < 0 then 0 else if 4 ≤ k then 0 else if x_st S k.toNatClampNeg = 0 then 0 else 1
def X_isBlob (S : SX) (k : Int32) : Int32 := if k < 0 then 0 else if x_bc S ≤ k then 0 else 1
def X_isBlobWord (S : SX) (k i : Int32) : Int32 := if X_isBlob S k = 0 then 0 else if i < 0 then 0 else if 6 ≤ i then 0 else 1
def X_isLocked (S : SX) : Int32 := if x_fa S < 3 then 0 else 1
def X_digestNow (S : SX) (mask : Int32) : Int64 := dgX (x_rg S) mask (fo (1 + bc32 mask).toInt64 mask.toInt64) 8
def X_isPolicyMet (S : SX) (q : Nat) : Int32 := if X_isMask (x_bl S q 1) = 0 then 0 else if lg_cmp (X_digestNow S (x_bl S q 1).toInt32) (x_bl S q 2) = 0 then 1 else 0
def X_leastKeyNamed (S : SX) (name : Int64) : Int32 := lkN (x_kt S) (x_kn S) name 0 6
def X_rightProof (S : SX) (secret : Int64) (ss command : Int32) (param : Int64) : Int64 := mE secret (fo (fo (fo (fo (mB secret 4) (x_mn S ss.toNatClampNeg)) (x_cn S ss.toNatClampNeg)) command.toInt64) param)
def X_signature (S : SX) (secret : Int64) (mask : Int32) (ch : Int64) : Int64 := mE secret (fo (fo (fo (mB secret 3) mask.toInt64) (X_digestNow S mask)) ch)
def X_sealOf (S : SX) (q : Nat) : Int64 := mE (x_m S) (foN (mB (x_m S) 5) (x_bl S q) 5)
def X_cover (S : SX) (salt dg : Int64) : Int64 := fo (fo (fo 3 (x_m S)) salt) dg
def X_draw (S : SX) : Int64 × SX := (h2 (x_m S) (x_dr S + 1), xu_dr S (x_dr S + 1))
/-- the nonce drawn anew -/
def X_anew (S : SX) (ss : Int32) : SX := xu_mn (X_draw S).2 (vp_updL (x_mn (X_draw S).2) ss.toNatClampNeg (X_draw S).1)
def X_passesProving (S : SX) (secret : Int64) (ss command : Int32) (param : Int64) : Int32 × SX :=
  if lg_cmp (x_pr S) (X_rightProof S secret ss command param) = 0 then (1, xu_fa (X_anew S ss) 0) else (0, xu_ou (xu_fa (X_anew S ss) (x_fa (X_anew S ss) + 1)) 0)
def X_put (S : SX) (q i : Nat) (v : Int64) : SX := xu_bl S (up2 (x_bl S) q i v)
def X_ab5 (S T : SX) (q : Nat) (name : Int64) (mask : Int32) (data salt : Int64) : SX :=
  X_put (X_put (X_put (X_put (X_put T q 0 name) q 1 mask.toInt64) q 2 (X_digestNow S mask)) q 3 salt) q 4 (data ^^^ X_cover T salt (X_digestNow S mask))
def X_addBlob (S : SX) (name : Int64) (mask : Int32) (data : Int64) : Int32 × SX :=
  (x_bc S, xu_bc (X_put (X_ab5 S (X_draw S).2 (x_bc S).toNatClampNeg name mask data (X_draw S).1) (x_bc S).toNatClampNeg 5 (X_sealOf (X_ab5 S (X_draw S).2 (x_bc S).toNatClampNeg name mask data (X_draw S).1) (x_bc S).toNatClampNeg)) (x_bc S + 1))
def X_locality (S : SX) (q : Int32) : Int32 × SX := if q < 0 then (0, S) else if q ≤ 3 then (1, xu_lo S q) else (0, S)
def X_extend (S : SX) (q : Int32) (v : Int64) : Int32 × SX := if X_isRegister q = 0 then (0, S) else if X_isOpen S q = 0 then (0, S) else (1, xu_rg S (vp_updL (x_rg S) q.toNatClampNeg (h2 (x_rg S q.toNatClampNeg) v)))
def X_reset (S : SX) (q : Int32) : Int32 × SX := if X_isRegister q = 0 then (0, S) else if q < 4 then (0, S) else if X_isOpen S q = 0 then (0, S) else (1, xu_rg S (vp_updL (x_rg S) q.toNatClampNeg 0))
def X_register (S : SX) (q : Int32) : Int64 := if X_isRegister q = 0 then 0 else x_rg S q.toNatClampNeg
def X_digest (S : SX) (mask : Int32) : Int64 := if X_isMask mask.toInt64 = 0 then 0 else X_digestNow S mask
def X_create (S : SX) (secret : Int64) : Int32 × SX := if 0 ≤ lfN (x_kt S) 0 6 then (lfN (x_kt S) 0 6, xu_kn (X_draw (xu_ks (xu_kt S (upd (x_kt S) (lfN (x_kt S) 0 6).toNatClampNeg 1)) (vp_updL (x_ks S) (lfN (x_kt S) 0 6).toNatClampNeg secret))).2 (vp_updL (x_kn S) (lfN (x_kt S) 0 6).toNatClampNeg (h2 secret (X_draw S).1))) else (-5, S)
def X_destroy (S : SX) (k : Int32) : Int32 × SX := if X_isKey S k = 0 then (0, S) else (1, xu_kt S (upd (x_kt S) k.toNatClampNeg 0))
def X_name (S : SX) (k : Int32) : Int64 := if X_isKey S k = 0 then 0 else x_kn S k.toNatClampNeg
def X_begin (S : SX) (nonce : Int64) : Int32 × SX := if 0 ≤ lfN (x_st S) 0 4 then (lfN (x_st S) 0 4, xu_mn (X_draw (xu_cn (xu_st S (upd (x_st S) (lfN (x_st S) 0 4).toNatClampNeg 1)) (vp_updL (x_cn S) (lfN (x_st S) 0 4).toNatClampNeg nonce))).2 (vp_updL (x_mn S) (lfN (x_st S) 0 4).toNatClampNeg (X_draw S).1)) else (-5, S)
def X_end (S : SX) (k : Int32) : Int32 × SX := if X_isSession S k = 0 then (0, S) else (1, xu_st S (upd (x_st S) k.toNatClampNeg 0))
def X_nonce (S : SX) (k : Int32) : Int64 := if X_isSession S k = 0 then 0 else x_mn S k.toNatClampNeg
def X_param (S : SX) (command a : Int32) (b : Int64) : Int64 := if command = 2 then x_bl S a.toNatClampNeg 5 else h2 a.toInt64 b
def X_prove (S : SX) (secret : Int64) (ss command a : Int32) (b : Int64) : Int32 × SX :=
  if X_isSession S ss = 0 then (0, S) else if command < 1 then (0, S) else if command ≤ 3 then
    (if command = 2 then (if X_isBlob S a = 0 then (0, S) else (1, xu_pr S (X_rightProof S secret ss command (X_param S command a b)))) else (1, xu_pr S (X_rightProof S secret ss command (X_param S command a b)))) else (0, S)
def X_seal (S : SX) (ss k mask : Int32) (data : Int64) : Int32 × SX :=
  if X_isSession S ss = 0 then (-1, S) else if X_isKey S k = 0 then (-1, S) else if X_isMask mask.toInt64 = 0 then (-1, S) else if X_isLocked S = 0 then
    (if x_bc S < 10 then
      (if (X_passesProving S (x_ks S k.toNatClampNeg) ss 1 (h2 mask.toInt64 data)).1 = 0 then (-6, (X_passesProving S (x_ks S k.toNatClampNeg) ss 1 (h2 mask.toInt64 data)).2)
       else X_addBlob (X_passesProving S (x_ks S k.toNatClampNeg) ss 1 (h2 mask.toInt64 data)).2 (x_kn (X_passesProving S (x_ks S k.toNatClampNeg) ss 1 (h2 mask.toInt64 data)).2 k.toNatClampNeg) mask data)
     else (-5, S)) else (-2, S)
def X_unsealP (S : SX) (ss a : Int32) : Int32 × SX := X_passesProving S (x_ks S (X_leastKeyNamed S (x_bl S a.toNatClampNeg 0)).toNatClampNeg) ss 2 (x_bl S a.toNatClampNeg 5)
def X_unseal (S : SX) (ss a : Int32) : Int32 × SX :=
  if X_isSession S ss = 0 then (-1, S) else if X_isBlob S a = 0 then (-1, S) else if X_isLocked S = 0 then
    (if lg_cmp (x_bl S a.toNatClampNeg 5) (X_sealOf S a.toNatClampNeg) = 0 then
      (if 0 ≤ X_leastKeyNamed S (x_bl S a.toNatClampNeg 0) then
        (if (X_unsealP S ss a).1 = 0 then (-6, (X_unsealP S ss a).2)
         else if X_isPolicyMet (X_unsealP S ss a).2 a.toNatClampNeg = 0 then (-7, xu_ou (X_unsealP S ss a).2 0)
         else (0, xu_ou (X_unsealP S ss a).2 (x_bl (X_unsealP S ss a).2 a.toNatClampNeg 4 ^^^ X_cover (X_unsealP S ss a).2 (x_bl (X_unsealP S ss a).2 a.toNatClampNeg 3) (x_bl (X_unsealP S ss a).2 a.toNatClampNeg 2))))
       else (-4, S))
     else (-3, S)) else (-2, S)
def X_quote (S : SX) (ss k mask : Int32) (ch : Int64) : Int32 × SX :=
  if X_isSession S ss = 0 then (-1, S) else if X_isKey S k = 0 then (-1, S) else if X_isMask mask.toInt64 = 0 then (-1, S) else if X_isLocked S = 0 then
    (if (X_passesProving S (x_ks S k.toNatClampNeg) ss 3 (h2 mask.toInt64 ch)).1 = 0 then (-6, (X_passesProving S (x_ks S k.toNatClampNeg) ss 3 (h2 mask.toInt64 ch)).2)
     else (0, xu_ou (X_passesProving S (x_ks S k.toNatClampNeg) ss 3 (h2 mask.toInt64 ch)).2 (X_signature (X_passesProving S (x_ks S k.toNatClampNeg) ss 3 (h2 mask.toInt64 ch)).2 (x_ks S k.toNatClampNeg) mask ch))) else (-2, S)
def X_blob (S : SX) (k i : Int32) : Int64 := if X_isBlobWord S k i = 0 then 0 else x_bl S k.toNatClampNeg i.toNatClampNeg
def X_change (S : SX) (k i : Int32) (v : Int64) : Int32 × SX := if X_isBlobWord S k i = 0 then (0, S) else (1, X_put S k.toNatClampNeg i.toNatClampNeg v)
/-- the first n words 0 -/
def zJ (f : Nat → Int64) : Nat → Nat → Int64
  | 0 => f
  | n + 1 => vp_updL (zJ f n) n 0
def zI (f : Nat → Int32) : Nat → Nat → Int32
  | 0 => f
  | n + 1 => upd (zI f n) n 0
def X_reboot (S : SX) : SX := xu_ou (xu_fa (xu_lo (xu_st (xu_rg S (zJ (x_rg S) 8)) (zI (x_st S) 4)) 0) 0) 0
/-! facts of places that the tests give -/
theorem xge {i n : Nat} (hn : n < 2 ^ 31) (hi : i ≤ n) (h : nI n ≤ nI i) : i = n := by
  have := (nI_leI hn (Nat.lt_of_le_of_lt hi hn)).mp h
  omega
theorem xlt {i n : Nat} (hn : n < 2 ^ 31) (hi : i ≤ n) (h : ¬ nI n ≤ nI i) : i < n := by
  rcases Nat.lt_or_ge i n with q | q
  · exact q
  · exact absurd ((nI_leI hn (Nat.lt_of_le_of_lt hi hn)).mpr q) h
theorem X_isRegister_in {q : Int32} (h : ¬ X_isRegister q = 0) : vp_in q 8 := by
  unfold X_isRegister at h
  by_cases h0 : q < 0
  · exact absurd (if_pos h0) h
  · rw [if_neg h0] at h
    by_cases h1 : 8 ≤ q
    · exact absurd (if_pos h1) h
    · exact xin_of (M := 8) rfl (by decide) h0 h1
theorem X_isKey_in {S : SX} {k : Int32} (h : ¬ X_isKey S k = 0) : vp_in k 6 := by
  unfold X_isKey at h
  by_cases h0 : k < 0
  · exact absurd (if_pos h0) h
  · rw [if_neg h0] at h
    by_cases h1 : 6 ≤ k
    · exact absurd (if_pos h1) h
    · exact xin_of (M := 6) rfl (by decide) h0 h1
theorem X_isSession_in {S : SX} {k : Int32} (h : ¬ X_isSession S k = 0) : vp_in k 4 := by
  unfold X_isSession at h
  by_cases h0 : k < 0
  · exact absurd (if_pos h0) h
  · rw [if_neg h0] at h
    by_cases h1 : 4 ≤ k
    · exact absurd (if_pos h1) h
    · exact xin_of (M := 4) rfl (by decide) h0 h1
/-- how many blobs there are: 0 .. 10 -/
def okB (x : Int32) : Prop := ∃ n : Nat, n ≤ 10 ∧ x = nI n
theorem X_isBlob_in {S : SX} {k : Int32} (hB : okB (x_bc S)) (h : ¬ X_isBlob S k = 0) : vp_in k 10 := by
  obtain ⟨n, hn, e⟩ := hB
  unfold X_isBlob at h
  rw [e] at h
  by_cases h0 : k < 0
  · exact absurd (if_pos h0) h
  · rw [if_neg h0] at h
    by_cases h1 : nI n ≤ k
    · exact absurd (if_pos h1) h
    · obtain ⟨j, hj, rfl⟩ := nI_of h0
      rw [nI_leI (by omega) hj] at h1
      exact vp_in_nI (by omega) (by decide)
theorem X_isBlobWord_in {S : SX} {k i : Int32} (hB : okB (x_bc S)) (h : ¬ X_isBlobWord S k i = 0) : vp_in k 10 ∧ vp_in i 6 := by
  unfold X_isBlobWord at h
  by_cases h0 : X_isBlob S k = 0
  · exact absurd (if_pos h0) h
  · rw [if_neg h0] at h
    refine ⟨X_isBlob_in hB h0, ?_⟩
    by_cases h1 : i < 0
    · exact absurd (if_pos h1) h
    · rw [if_neg h1] at h
      by_cases h2 : 6 ≤ i
      · exact absurd (if_pos h2) h
      · exact xin_of (M := 6) rfl (by decide) h1 h2
theorem lfN_in (f : Nat → Int32) : ∀ (r i : Nat), i + r < 2 ^ 31 → 0 ≤ lfN f i r → ∃ k : Nat, k < i + r ∧ lfN f i r = nI k
  | 0, i, _, h => absurd h (by simp only [lfN]; decide)
  | r + 1, i, hi, h => by
    unfold lfN at h ⊢
    by_cases h0 : f i = 0
    · rw [if_pos h0]
      exact ⟨i, by omega, rfl⟩
    · rw [if_neg h0] at h ⊢
      obtain ⟨k, hk, e⟩ := lfN_in f r (i + 1) (by omega) h
      exact ⟨k, by omega, e⟩
theorem lfN_at {f : Nat → Int32} {n : Nat} (hn : n < 2 ^ 31) (h : 0 ≤ lfN f 0 n) : vp_in (lfN f 0 n) n := by
  obtain ⟨k, hk, e⟩ := lfN_in f n 0 (by omega) h
  rw [e]
  exact vp_in_nI (by omega) hn
theorem lkN_in (kt : Nat → Int32) (kn : Nat → Int64) (name : Int64) : ∀ (r i : Nat), i + r < 2 ^ 31 → 0 ≤ lkN kt kn name i r → ∃ k : Nat, k < i + r ∧ lkN kt kn name i r = nI k
  | 0, i, _, h => absurd h (by simp only [lkN]; decide)
  | r + 1, i, hi, h => by
    unfold lkN at h ⊢
    by_cases h0 : kt i = 0
    · rw [if_pos h0] at h ⊢
      obtain ⟨k, hk, e⟩ := lkN_in kt kn name r (i + 1) (by omega) h
      exact ⟨k, by omega, e⟩
    · rw [if_neg h0] at h ⊢
      by_cases h1 : lg_cmp (kn i) name = 0
      · rw [if_pos h1]
        exact ⟨i, by omega, rfl⟩
      · rw [if_neg h1] at h ⊢
        obtain ⟨k, hk, e⟩ := lkN_in kt kn name r (i + 1) (by omega) h
        exact ⟨k, by omega, e⟩
theorem lkN_at {kt : Nat → Int32} {kn : Nat → Int64} {name : Int64} (h : 0 ≤ lkN kt kn name 0 6) : vp_in (lkN kt kn name 0 6) 6 := by
  obtain ⟨k, hk, e⟩ := lkN_in kt kn name 6 0 (by decide) h
  rw [e]
  exact vp_in_nI (by omega) (by decide)
theorem lfN_hit {f : Nat → Int32} {i n : Nat} (h : i < n) (h0 : f i = 0) : lfN f i (n - i) = nI i := by
  obtain ⟨r, hr⟩ : ∃ r, n - i = r + 1 := ⟨n - i - 1, by omega⟩
  rw [hr]
  exact if_pos h0
theorem lfN_miss {f : Nat → Int32} {i n : Nat} (h : i < n) (h0 : ¬ f i = 0) : lfN f i (n - i) = lfN f (i + 1) (n - (i + 1)) := by
  obtain ⟨r, hr⟩ : ∃ r, n - i = r + 1 := ⟨n - i - 1, by omega⟩
  rw [show n - (i + 1) = r by omega, hr]
  exact if_neg h0
theorem lkN_skip {kt : Nat → Int32} {kn : Nat → Int64} {name : Int64} {i n : Nat} (h : i < n) (h0 : kt i = 0) : lkN kt kn name i (n - i) = lkN kt kn name (i + 1) (n - (i + 1)) := by
  obtain ⟨r, hr⟩ : ∃ r, n - i = r + 1 := ⟨n - i - 1, by omega⟩
  rw [show n - (i + 1) = r by omega, hr]
  exact if_pos h0
theorem lkN_hit {kt : Nat → Int32} {kn : Nat → Int64} {name : Int64} {i n : Nat} (h : i < n) (h0 : ¬ kt i = 0) (h1 : lg_cmp (kn i) name = 0) : lkN kt kn name i (n - i) = nI i := by
  obtain ⟨r, hr⟩ : ∃ r, n - i = r + 1 := ⟨n - i - 1, by omega⟩
  rw [hr]
  unfold lkN
  rw [if_neg h0, if_pos h1]
theorem lkN_miss {kt : Nat → Int32} {kn : Nat → Int64} {name : Int64} {i n : Nat} (h : i < n) (h0 : ¬ kt i = 0) (h1 : ¬ lg_cmp (kn i) name = 0) : lkN kt kn name i (n - i) = lkN kt kn name (i + 1) (n - (i + 1)) := by
  obtain ⟨r, hr⟩ : ∃ r, n - i = r + 1 := ⟨n - i - 1, by omega⟩
  rw [show n - (i + 1) = r by omega, hr, lkN, if_neg h0, if_neg h1]
theorem okB_lt {x : Int32} (h : okB x) (h1 : x < 10) : vp_in x 10 := by
  obtain ⟨n, hn, rfl⟩ := h
  have : n < 10 := (nI_ltI (by omega) (by decide)).mp (show nI n < nI 10 from h1)
  exact vp_in_nI this (by decide)
theorem X_pass_bc (S : SX) (k : Int64) (q cm : Int32) (pa : Int64) : x_bc (X_passesProving S k q cm pa).2 = x_bc S := by
  unfold X_passesProving
  by_cases h : lg_cmp (x_pr S) (X_rightProof S k q cm pa) = 0
  · rw [if_pos h]
    rfl
  · rw [if_neg h]
    rfl
theorem X_pass_in {S : SX} {k : Int64} {q cm : Int32} {pa : Int64} (h : vp_in (x_bc S) 10) : vp_in (x_bc (X_passesProving S k q cm pa).2) 10 := by
  rw [X_pass_bc]
  exact h
