/-! THE REFERENCE: what each method answers, as functions of its state -/
def M_word (S : SM) (d : Int64) : Int64 := h2 (m_m S) d
def M_nameOf (S : SM) (k : Int32) : Int64 := h2 (m_ks S k.toNatClampNeg) (M_word S (m_kd S k.toNatClampNeg))
/-- a register's word: n of the things done -/
def fld (wh : Nat → Int32) (wi : Nat → Int64) (q : Int32) : Nat → Int64
  | 0 => 0
  | n + 1 => if wh n = q + 8 then 0 else if wh n = q then h2 (fld wh wi q n) (wi n) else fld wh wi q n
def M_folded (S : SM) (q : Int32) : Int64 := fld (m_wh S) (m_wi S) q (m_dn S).toNatClampNeg
def cntN (mask : Int32) : Nat → Nat
  | 0 => 1
  | n + 1 => if (mask >>> (nI n &&& 31)) &&& 1 = 1 then cntN mask n + 1 else cntN mask n
def rowN (ro hd : Nat → Int64) (mask : Int32) : Nat → Nat → Int64
  | 0 => ro
  | n + 1 => if (mask >>> (nI n &&& 31)) &&& 1 = 1 then vp_updL (rowN ro hd mask n) (cntN mask n) (hd n) else rowN ro hd mask n
def M_digestOf (S : SM) (mask : Int32) : Int64 := foN (nI (cntN mask 8)).toInt64 (rowN (fun _ => mask.toInt64) (fun j => M_folded S (nI j)) mask 8) (cntN mask 8)
def M_veil (S : SM) (sa dg : Int64) : Int64 := fo (fo (fo 3 (m_m S)) sa) dg
def M_sealOf (S : SM) (q : Int32) : Int64 := mE (m_m S) (foN (mB (m_m S) 5) (fun j => m_bw S (6 * q.toNatClampNeg + j)) 5)
/-- five words of a blob laid into the scratch row -/
def rowS (ro bw : Nat → Int64) (q : Nat) : Nat → Nat → Int64
  | 0 => ro
  | n + 1 => vp_updL (rowS ro bw q n) (1 + n) (bw (6 * q + n))
def M_locality (S : SM) (q : Int32) : Int32 × SM := if q < 0 then (0, S) else if q ≤ 3 then (1, mu_lo S q) else (0, S)
def M_noted (S : SM) (kd : Int32) (v : Int64) : SM := mu_dn (mu_wi (mu_wh S (upd (m_wh S) (m_dn S).toNatClampNeg kd)) (vp_updL (m_wi S) (m_dn S).toNatClampNeg v)) (m_dn S + 1)
def M_note (S : SM) (q kd : Int32) (v : Int64) : Int32 × SM := if q < 0 then (0, S) else if 7 < q then (0, S) else if q / 2 ≤ m_lo S then (1, M_noted S kd v) else (0, S)
def M_extend (S : SM) (q : Int32) (v : Int64) : Int32 × SM := M_note S q q v
def M_reset (S : SM) (q : Int32) : Int32 × SM := if q < 4 then (0, S) else if 7 < q then (0, S) else if (M_note S q (q + 8) 0).1 = 0 then (0, (M_note S q (q + 8) 0).2) else (1, (M_note S q (q + 8) 0).2)
def M_register (S : SM) (q : Int32) : Int64 := if q < 0 then 0 else if q ≤ 7 then M_folded S q else 0
def M_isMask (w : Int64) : Int32 := if lg_cmp w 0 < 0 then 0 else if 0 < lg_cmp w 255 then 0 else 1
def M_digest (S : SM) (mask : Int32) : Int64 := if M_isMask mask.toInt64 = 0 then 0 else M_digestOf S mask
def M_hasKey (S : SM) (k : Int32) : Int32 := if k < 0 then 0 else if 6 ≤ k then 0 else if m_kt S k.toNatClampNeg = 0 then 0 else 1
def M_hasSession (S : SM) (k : Int32) : Int32 := if k < 0 then 0 else if 4 ≤ k then 0 else if m_st S k.toNatClampNeg = 0 then 0 else 1
def M_hasBlob (S : SM) (k : Int32) : Int32 := if k < 0 then 0 else if m_bc S ≤ k then 0 else 1
/-- the least place with 0, else where it ends -/
def lfK (f : Nat → Int32) : Nat → Nat → Nat
  | i, 0 => i
  | i, r + 1 => if f i = 0 then i else lfK f (i + 1) r
def M_made (S : SM) (k : Nat) (secret : Int64) : SM := mu_kd (mu_ks (mu_kt (mu_dr S (m_dr S + 1)) (upd (m_kt S) k 1)) (vp_updL (m_ks S) k secret)) (vp_updL (m_kd S) k (m_dr S + 1))
def M_create (S : SM) (secret : Int64) : Int32 × SM := if nI (lfK (m_kt S) 0 6) = 6 then (-5, S) else (nI (lfK (m_kt S) 0 6), M_made S (lfK (m_kt S) 0 6) secret)
def M_destroy (S : SM) (k : Int32) : Int32 × SM := if M_hasKey S k = 0 then (0, S) else (1, mu_kt S (upd (m_kt S) k.toNatClampNeg 0))
def M_name (S : SM) (k : Int32) : Int64 := if M_hasKey S k = 0 then 0 else M_nameOf S k
def M_begun (S : SM) (k : Nat) (nonce : Int64) : SM := mu_sd (mu_cn (mu_st (mu_dr S (m_dr S + 1)) (upd (m_st S) k 1)) (vp_updL (m_cn S) k nonce)) (vp_updL (m_sd S) k (m_dr S + 1))
def M_begin (S : SM) (nonce : Int64) : Int32 × SM := if nI (lfK (m_st S) 0 4) = 4 then (-5, S) else (nI (lfK (m_st S) 0 4), M_begun S (lfK (m_st S) 0 4) nonce)
def M_end (S : SM) (k : Int32) : Int32 × SM := if M_hasSession S k = 0 then (0, S) else (1, mu_st S (upd (m_st S) k.toNatClampNeg 0))
def M_nonce (S : SM) (k : Int32) : Int64 := if M_hasSession S k = 0 then 0 else M_word S (m_sd S k.toNatClampNeg)
def M_rightFor (S : SM) (secret : Int64) (q cm : Int32) (pa : Int64) : Int64 := mE secret (fo (fo (fo (fo (mB secret 4) (M_word S (m_sd S q.toNatClampNeg))) (m_cn S q.toNatClampNeg)) cm.toInt64) pa)
def M_param (S : SM) (cm a : Int32) (b : Int64) : Int64 := if cm = 2 then m_bw S (6 * a.toNatClampNeg + 5) else h2 a.toInt64 b
def M_prove (S : SM) (secret : Int64) (q cm a : Int32) (b : Int64) : Int32 × SM :=
  if M_hasSession S q = 0 then (0, S) else if cm < 1 then (0, S) else if 3 < cm then (0, S) else
    (if cm = 2 then (if M_hasBlob S a = 0 then (0, S) else (1, mu_pr S (M_rightFor S secret q cm (M_param S cm a b)))) else (1, mu_pr S (M_rightFor S secret q cm (M_param S cm a b))))
def M_anew (S : SM) (q : Int32) : SM := mu_sd (mu_dr S (m_dr S + 1)) (vp_updL (m_sd S) q.toNatClampNeg (m_dr S + 1))
def M_proved (S : SM) (q k cm : Int32) (pa : Int64) : Int32 × SM :=
  if lg_cmp (m_pr S) (M_rightFor S (m_ks S k.toNatClampNeg) q cm pa) = 0 then (1, mu_ou (mu_fa (M_anew S q) 0) (m_ou S)) else (0, mu_ou (mu_fa (M_anew S q) (m_fa S + 1)) 0)
def M_put (S : SM) (i : Nat) (v : Int64) : SM := mu_bw S (vp_updL (m_bw S) i v)
def M_ab5 (T : SM) (k mask : Int32) (data : Int64) : SM :=
  M_put (M_put (M_put (M_put (M_put T (6 * (m_bc T).toNatClampNeg) (M_nameOf T k)) (6 * (m_bc T).toNatClampNeg + 1) mask.toInt64) (6 * (m_bc T).toNatClampNeg + 2) (M_digestOf T mask)) (6 * (m_bc T).toNatClampNeg + 3) (M_word T (m_dr T))) (6 * (m_bc T).toNatClampNeg + 4) (data ^^^ M_veil T (M_word T (m_dr T)) (M_digestOf T mask))
def M_addBlob (T : SM) (k mask : Int32) (data : Int64) : SM :=
  mu_bc (M_put (M_ab5 T k mask data) (6 * (m_bc T).toNatClampNeg + 5) (M_sealOf (M_ab5 T k mask data) (m_bc T))) (m_bc T + 1)
def M_sealP (S : SM) (q k mask : Int32) (data : Int64) : Int32 × SM := M_proved S q k 1 (h2 mask.toInt64 data)
def M_seal (S : SM) (q k mask : Int32) (data : Int64) : Int32 × SM :=
  if M_hasSession S q = 0 then (-1, S) else if M_hasKey S k = 0 then (-1, S) else if M_isMask mask.toInt64 = 0 then (-1, S) else if 3 ≤ m_fa S then (if m_fa S < 3 then (-5, S) else (-2, S)) else if m_bc S < 10 then
      (if (M_sealP S q k mask data).1 = 0 then (-6, (M_sealP S q k mask data).2)
       else (m_bc (M_sealP S q k mask data).2 + 1 - 1, M_addBlob (mu_dr (M_sealP S q k mask data).2 (m_dr (M_sealP S q k mask data).2 + 1)) k mask data))
    else (if m_fa S < 3 then (-5, S) else (-2, S))
/-- the keys from n - 1 down to 0 -/
def mfin (kt : Nat → Int32) (nm : Nat → Int64) (x : Int64) : Nat → Int32 → Int32
  | 0, K => K
  | n + 1, K => mfin kt nm x n (if kt n = 0 then K else if lg_cmp (nm n) x = 0 then nI n else K)
def M_leastKey (S : SM) (x : Int64) : Int32 := mfin (m_kt S) (fun j => M_nameOf S (nI j)) x 6 (-1)
def M_unsealK (S : SM) (a : Int32) : Int32 := M_leastKey S (m_bw S (6 * a.toNatClampNeg))
def M_unsealP (S : SM) (q a : Int32) : Int32 × SM := M_proved S q (M_unsealK S a) 2 (m_bw S (6 * a.toNatClampNeg + 5))
def M_unseal (S : SM) (q a : Int32) : Int32 × SM :=
  if M_hasSession S q = 0 then (-1, S) else if M_hasBlob S a = 0 then (-1, S) else if m_fa S < 3 then
    (if lg_cmp (m_bw S (6 * a.toNatClampNeg + 5)) (M_sealOf S a) = 0 then
      (if 0 ≤ M_unsealK S a then
        (if (M_unsealP S q a).1 = 0 then (-6, (M_unsealP S q a).2)
         else if M_isMask (m_bw (M_unsealP S q a).2 (6 * a.toNatClampNeg + 1)) = 0 then (-7, mu_ou (M_unsealP S q a).2 0)
         else if lg_cmp (M_digestOf (M_unsealP S q a).2 (m_bw (M_unsealP S q a).2 (6 * a.toNatClampNeg + 1)).toInt32) (m_bw (M_unsealP S q a).2 (6 * a.toNatClampNeg + 2)) = 0 then
           (0, mu_ou (M_unsealP S q a).2 (m_bw (M_unsealP S q a).2 (6 * a.toNatClampNeg + 4) ^^^ M_veil (M_unsealP S q a).2 (m_bw (M_unsealP S q a).2 (6 * a.toNatClampNeg + 3)) (m_bw (M_unsealP S q a).2 (6 * a.toNatClampNeg + 2))))
         else (-7, mu_ou (M_unsealP S q a).2 0))
       else (-4, S))
     else (-3, S)) else (-2, S)
def M_quoteP (S : SM) (q k mask : Int32) (ch : Int64) : Int32 × SM := M_proved S q k 3 (h2 mask.toInt64 ch)
def M_signature (S : SM) (secret : Int64) (mask : Int32) (ch : Int64) : Int64 := mE secret (fo (fo (fo (mB secret 3) mask.toInt64) (M_digestOf S mask)) ch)
def M_quote (S : SM) (q k mask : Int32) (ch : Int64) : Int32 × SM :=
  if M_hasSession S q = 0 then (-1, S) else if M_hasKey S k = 0 then (-1, S) else if M_isMask mask.toInt64 = 0 then (-1, S) else if m_fa S < 3 then
    (if (M_quoteP S q k mask ch).1 = 0 then (-6, (M_quoteP S q k mask ch).2)
     else (0, mu_ou (M_quoteP S q k mask ch).2 (M_signature (M_quoteP S q k mask ch).2 (m_ks (M_quoteP S q k mask ch).2 k.toNatClampNeg) mask ch))) else (-2, S)
def M_blob (S : SM) (k i : Int32) : Int64 := if M_hasBlob S k = 0 then 0 else if i < 0 then 0 else if 5 < i then 0 else m_bw S (6 * k.toNatClampNeg + i.toNatClampNeg)
def M_change (S : SM) (k i : Int32) (v : Int64) : Int32 × SM := if M_hasBlob S k = 0 then (0, S) else if i < 0 then (0, S) else if i ≤ 5 then (1, M_put S (6 * k.toNatClampNeg + i.toNatClampNeg) v) else (0, S)
def M_reboot0 (S : SM) : SM := mu_ou (mu_fa (mu_lo (mu_dn S 0) 0) 0) 0
def M_reboot (S : SM) : SM := mu_st (M_reboot0 S) (zI (m_st (M_reboot0 S)) 4)
/-! facts -/
theorem M_hasKey_in {S : SM} {k : Int32} (h : ¬ M_hasKey S k = 0) : vp_in k 6 := by
  unfold M_hasKey at h
  by_cases h0 : k < 0
  · exact absurd (if_pos h0) h
  · rw [if_neg h0] at h
    by_cases h1 : 6 ≤ k
    · exact absurd (if_pos h1) h
    · exact xin_of (M := 6) rfl (by decide) h0 h1
theorem M_hasSession_in {S : SM} {k : Int32} (h : ¬ M_hasSession S k = 0) : vp_in k 4 := by
  unfold M_hasSession at h
  by_cases h0 : k < 0
  · exact absurd (if_pos h0) h
  · rw [if_neg h0] at h
    by_cases h1 : 4 ≤ k
    · exact absurd (if_pos h1) h
    · exact xin_of (M := 4) rfl (by decide) h0 h1
theorem M_hasBlob_in {S : SM} {k : Int32} (hB : okB (m_bc S)) (h : ¬ M_hasBlob S k = 0) : vp_in k 10 := by
  obtain ⟨n, hn, e⟩ := hB
  unfold M_hasBlob at h
  rw [e] at h
  by_cases h0 : k < 0
  · exact absurd (if_pos h0) h
  · rw [if_neg h0] at h
    by_cases h1 : nI n ≤ k
    · exact absurd (if_pos h1) h
    · obtain ⟨j, hj, rfl⟩ := nI_of h0
      rw [nI_leI (by omega) hj] at h1
      exact vp_in_nI (by omega) (by decide)
/-- how many things were done: 0 .. 512 -/
def okD (x : Int32) : Prop := ∃ n : Nat, n ≤ 512 ∧ x = nI n
theorem lfK_le (f : Nat → Int32) : ∀ r i : Nat, lfK f i r ≤ i + r
  | 0, i => Nat.le_refl _
  | r + 1, i => by
    unfold lfK
    by_cases h : f i = 0
    · rw [if_pos h]
      omega
    · rw [if_neg h]
      have := lfK_le f r (i + 1)
      omega
theorem lfK_lt {f : Nat → Int32} {n : Nat} (hn : n < 2 ^ 31) (h : ¬ nI (lfK f 0 n) = nI n) : lfK f 0 n < n := by
  have h1 := lfK_le f n 0
  rcases Nat.lt_or_ge (lfK f 0 n) n with q | q
  · exact q
  · exact absurd (congrArg nI (show lfK f 0 n = n by omega)) h
theorem lfK_hit {f : Nat → Int32} {i n : Nat} (h : i < n) (h0 : f i = 0) : lfK f i (n - i) = i := by
  obtain ⟨r, hr⟩ : ∃ r, n - i = r + 1 := ⟨n - i - 1, by omega⟩
  rw [hr]
  exact if_pos h0
theorem lfK_miss {f : Nat → Int32} {i n : Nat} (h : i < n) (h0 : ¬ f i = 0) : lfK f i (n - i) = lfK f (i + 1) (n - (i + 1)) := by
  obtain ⟨r, hr⟩ : ∃ r, n - i = r + 1 := ⟨n - i - 1, by omega⟩
  rw [show n - (i + 1) = r by omega, hr]
  exact if_neg h0
theorem cntN_le (mask : Int32) : ∀ n : Nat, 1 ≤ cntN mask n ∧ cntN mask n ≤ n + 1
  | 0 => ⟨Nat.le_refl _, Nat.le_refl _⟩
  | n + 1 => by
    have h := cntN_le mask n
    unfold cntN
    by_cases c : (mask >>> (nI n &&& 31)) &&& 1 = 1
    · rw [if_pos c]
      omega
    · rw [if_neg c]
      omega
theorem foN_congr {h : Int64} {f g : Nat → Int64} : ∀ n : Nat, (∀ j, j < n → f j = g j) → foN h f n = foN h g n
  | 0, _ => rfl
  | n + 1, e => by
    unfold foN
    rw [foN_congr n (fun j hj => e j (by omega)), e n (by omega)]
theorem rowN_congr {ro ro' hd hd' : Nat → Int64} {mask : Int32} : ∀ n : Nat, ro 0 = ro' 0 → (∀ j, j < n → hd j = hd' j) → ∀ j, j < cntN mask n → rowN ro hd mask n j = rowN ro' hd' mask n j
  | 0, e, _, j, hj => by
    have : j = 0 := by
      have : j < 1 := hj
      omega
    subst this
    exact e
  | n + 1, e, eh, j, hj => by
    have ih := rowN_congr (mask := mask) n e (fun j hj => eh j (by omega))
    unfold rowN
    unfold cntN at hj
    by_cases c : (mask >>> (nI n &&& 31)) &&& 1 = 1
    · rw [if_pos c] at hj ⊢
      rw [if_pos c]
      show (if j = cntN mask n then hd n else rowN ro hd mask n j) = (if j = cntN mask n then hd' n else rowN ro' hd' mask n j)
      by_cases q : j = cntN mask n
      · rw [if_pos q, if_pos q]
        exact eh n (by omega)
      · rw [if_neg q, if_neg q]
        exact ih j (by omega)
    · rw [if_neg c] at hj ⊢
      rw [if_neg c]
      exact ih j hj
theorem M_digest_row {S : SM} {mask : Int32} {ro hd : Nat → Int64} (h : ∀ j, j < 8 → hd j = M_folded S (nI j)) : foN (nI (cntN mask 8)).toInt64 (rowN (vp_updL ro 0 mask.toInt64) hd mask 8) (cntN mask 8) = M_digestOf S mask :=
  foN_congr _ (rowN_congr 8 rfl h)
theorem foN2 (f : Nat → Int64) : foN (nI 2).toInt64 f 2 = h2 (f 0) (f 1) := by
  have e : (nI 2).toInt64 = 2 := by decide
  unfold h2
  rw [e]
  rfl
theorem foN3 (f : Nat → Int64) : foN (nI 3).toInt64 f 3 = fo (fo (fo 3 (f 0)) (f 1)) (f 2) := by
  have e : (nI 3).toInt64 = 3 := by decide
  rw [e]
  rfl
theorem M_seal_row {S : SM} {q : Int32} {ro : Nat → Int64} : mE (m_m S) (foN (nI (5 + 1)).toInt64 (vp_updL (rowS ro (m_bw S) q.toNatClampNeg 5) 0 (m_m S ^^^ 92)) (5 + 1)) = M_sealOf S q := by
  have e : nI (5 + 1) = (5 : Int32) + 1 := by decide
  rw [e]
  rfl
/-- the code of four words that stand in the scratch row -/
theorem foN5 (ro : Nat → Int64) (se : Int64) : foN (nI (4 + 1)).toInt64 (vp_updL ro 0 (se ^^^ 92)) (4 + 1) = fo (fo (fo (fo (mB se 4) (ro 1)) (ro 2)) (ro 3)) (ro 4) := by
  have e : nI (4 + 1) = (4 : Int32) + 1 := by decide
  rw [e]
  rfl
theorem foN4 (ro : Nat → Int64) (se : Int64) : foN (nI (3 + 1)).toInt64 (vp_updL ro 0 (se ^^^ 92)) (3 + 1) = fo (fo (fo (mB se 3) (ro 1)) (ro 2)) (ro 3) := by
  have e : nI (3 + 1) = (3 : Int32) + 1 := by decide
  rw [e]
  rfl
theorem xat6 {a i : Int32} {j : Nat} (ha : vp_in a 10) (hi : xat i j 6) : xat (6 * a + i) (6 * a.toNatClampNeg + j) 60 := by
  obtain ⟨x, hx, rfl⟩ := vp_in_of ha (by decide)
  obtain ⟨hi, rfl⟩ := hi
  obtain ⟨y, hy, rfl⟩ := vp_in_of hi (by decide)
  rw [nI_clamp (by omega), nI_clamp (by omega)]
  rw [show (6 : Int32) * nI x = nI (6 * x) from (Int32.ofNat_mul 6 x).symm, nI_add]
  exact xat_nI (by omega) (by decide)
theorem xat60 {a : Int32} (ha : vp_in a 10) : xat (6 * a) (6 * a.toNatClampNeg) 60 := by
  obtain ⟨x, hx, rfl⟩ := vp_in_of ha (by decide)
  rw [nI_clamp (by omega)]
  rw [show (6 : Int32) * nI x = nI (6 * x) from (Int32.ofNat_mul 6 x).symm]
  exact xat_nI (by omega) (by decide)
theorem xat1 {i : Nat} (h : i < 5) : xat (1 + nI i) (1 + i) 9 := by
  rw [show (1 : Int32) + nI i = nI (1 + i) from nI_add 1 i]
  exact xat_nI (by omega) (by decide)
theorem narB {x : Int32} (h : x = 0 ∨ x = 1) : narrow .boolean (.int x) = .int x := by
  rcases h with rfl | rfl <;> rfl
theorem M_note_01 (S : SM) (q kd : Int32) (v : Int64) : (M_note S q kd v).1 = 0 ∨ (M_note S q kd v).1 = 1 := by
  unfold M_note
  by_cases h0 : q < 0
  · rw [if_pos h0]; exact Or.inl rfl
  · rw [if_neg h0]
    by_cases h1 : 7 < q
    · rw [if_pos h1]; exact Or.inl rfl
    · rw [if_neg h1]
      by_cases h2 : q / 2 ≤ m_lo S
      · rw [if_pos h2]; exact Or.inr rfl
      · rw [if_neg h2]; exact Or.inl rfl
theorem M_pass_eq (S : SM) (q k cm : Int32) (pa : Int64) : m_bc (M_proved S q k cm pa).2 = m_bc S ∧ m_dn (M_proved S q k cm pa).2 = m_dn S := by
  unfold M_proved
  by_cases h : lg_cmp (m_pr S) (M_rightFor S (m_ks S k.toNatClampNeg) q cm pa) = 0
  · rw [if_pos h]; exact ⟨rfl, rfl⟩
  · rw [if_neg h]; exact ⟨rfl, rfl⟩
theorem okD_in {x : Int32} (h : okD x) {i : Nat} (hi : i < x.toNatClampNeg) : i < 512 := by
  obtain ⟨n, hn, rfl⟩ := h
  rw [nI_clamp (by omega)] at hi
  omega
theorem okD_nI {x : Int32} (h : okD x) : x = nI x.toNatClampNeg ∧ x.toNatClampNeg ≤ 512 := by
  obtain ⟨n, hn, rfl⟩ := h
  rw [nI_clamp (by omega)]
  exact ⟨rfl, hn⟩
theorem mfin_in (kt : Nat → Int32) (nm : Nat → Int64) (x : Int64) : ∀ (n : Nat) (K : Int32), n ≤ 6 → (0 ≤ K → vp_in K 6) → 0 ≤ mfin kt nm x n K → vp_in (mfin kt nm x n K) 6
  | 0, _, _, hK, h => hK h
  | n + 1, K, hn, hK, h => by
    unfold mfin at h ⊢
    refine mfin_in kt nm x n _ (by omega) (fun h0 => ?_) h
    by_cases c : kt n = 0
    · rw [if_pos c] at h0 ⊢
      exact hK h0
    · rw [if_neg c] at h0 ⊢
      by_cases c2 : lg_cmp (nm n) x = 0
      · rw [if_pos c2]
        exact vp_in_nI (by omega) (by decide)
      · rw [if_neg c2] at h0 ⊢
        exact hK h0
theorem M_leastKey_in {S : SM} {x : Int64} (h : 0 ≤ M_leastKey S x) : vp_in (M_leastKey S x) 6 := by
  unfold M_leastKey at h ⊢
  exact mfin_in (m_kt S) (fun j => M_nameOf S (nI j)) x 6 (-1) (by decide) (fun h => absurd h (by decide)) h
theorem M_unsealK_in {S : SM} {a : Int32} (h : 0 ≤ M_unsealK S a) : vp_in (M_unsealK S a) 6 := M_leastKey_in h
theorem M_pass_D {S : SM} {q k cm : Int32} {pa : Int64} (h : okD (m_dn S)) : okD (m_dn (M_proved S q k cm pa).2) := by
  rw [(M_pass_eq S q k cm pa).2]
  exact h
theorem M_pass_B {S : SM} {q k cm : Int32} {pa : Int64} (h : vp_in (m_bc S) 10) : vp_in (m_bc (M_proved S q k cm pa).2) 10 := by
  rw [(M_pass_eq S q k cm pa).1]
  exact h
theorem xdec (x : Int32) : x + Int32.ofInt (-1) = x - 1 := by
  rw [Int32.sub_eq_add_neg]
  rfl
theorem xin_ngt {i M : Int32} {n : Nat} (hM : M = nI n) (hn : n + 1 < 2 ^ 31) (h0 : ¬ i < 0) (h1 : ¬ M < i) : vp_in i (n + 1) := by
  subst hM
  obtain ⟨j, hj, rfl⟩ := nI_of h0
  rw [nI_ltI (by omega) hj] at h1
  exact vp_in_nI (by omega) hn
theorem M_ab5_bc (T : SM) (k mask : Int32) (data : Int64) : m_bc (M_ab5 T k mask data) = m_bc T := rfl
theorem M_addBlob_bc (T : SM) (k mask : Int32) (data : Int64) : m_bc (M_addBlob T k mask data) = m_bc T + 1 := rfl
