theorem law_head {L i : Nat} (hL : L ≤ 4098) (hi : i ≤ 5000) : (Int32.ofNat L - 8 < nI i) ↔ L < i + 8 := by
  rcases Nat.lt_or_ge L 8 with q | q
  · have h8 : ∀ k : Nat, k < 8 → (Int32.ofNat k - 8).toInt < 0 := by decide
    have h0 := nI_toInt (n := i) (by omega)
    rw [Int32.lt_iff_toInt_lt, h0]
    have := h8 L q
    constructor
    · intro _
      omega
    · intro _
      omega
  · obtain ⟨k, rfl⟩ : ∃ k, L = k + 8 := ⟨L - 8, by omega⟩
    have e : Int32.ofNat (k + 8) - 8 = nI k := by
      show nI (k + 8) - 8 = nI k
      rw [← nI_add, show nI 8 = (8 : Int32) from rfl, Int32.add_sub_cancel]
    rw [e, nI_ltI (by omega) (by omega)]
    omega
theorem and31 (x : Int32) : ∃ k : Nat, k < 32 ∧ x &&& 31 = nI k := by
  refine ⟨x.toUInt32.toNat % 32, Nat.mod_lt _ (by decide), ?_⟩
  apply Int32.toBitVec_inj.mp
  apply BitVec.eq_of_toNat_eq
  rw [Int32.toBitVec_and, BitVec.toNat_and]
  show x.toBitVec.toNat &&& 31 = (BitVec.ofNat 32 (x.toBitVec.toNat % 32)).toNat
  rw [BitVec.toNat_ofNat, show (31 : Nat) = 2 ^ 5 - 1 from rfl, Nat.and_two_pow_sub_one_eq_mod]
  omega
section LWP
variable {p : Program} {l : Launch} {e : Env} {s : State} {m : MethodId} {below : List Frame} {meth : Method} {c : Code} {b L : Nat} {xs : Nat → Int32}
variable {dC : Nat → ClassId} {dI : Nat → Nat → Nat} {ad : Nat → Nat} {cL cZ cO : ClassId} {ae : Nat → Nat} {dL dZ cI : ClassId}
set_option maxHeartbeats 4000000 in
set_option maxRecDepth 100000 in
theorem law_loop (C1 : lwC p s m meth c b L xs dC dI cL cZ cO dL dZ cI) :
    ∀ (n i t : Nat) (S : SX) (N : SM) (ro hd : Nat → Int64) (H : Heap) (locs : List Loc) (ls : Array Slot), i = 2 + 8 * t → i ≤ 4100 → 4100 < i + n → Sim S N t → lwI s dC dI ad cL cZ cO ae dL dZ cI S N ro hd H locs → lv_has ls 4 (lwL b ad ae i) → W p l e room_1 s m #[Value.ref b] below meth c H locs 600000 7302250 (lw_Z below #[Value.ref b] s) (F0 m 38 ls []) := by
  obtain ⟨C0, hL, hKx, hKm⟩ := id C1
  obtain ⟨hx, hb, hr, hml, hown, hts, hX, hbl, hlocks, hgv⟩ := C0
  have hbA : ¬ lwA s b := Nat.not_le.mpr hbl
  intro n
  induction n with
  | zero =>
    intro i t S N ro hd H locs ls hit hi hn
    omega
  | succ n ih =>
    intro i t S N ro hd H locs ls hit hi hn hsim hI hl
    have hS : va_S (lwA s) s.heap H locs := hI.2.2.2
    refine lv_iload_n hx hb dL_law_38 rfl (lv_at hl 3 rfl) ?_
    refine lv_aload_n hx hb dL_law_39 rfl (lv_at hl 0 rfl) ?_
    refine va_slen hx hb hX hbl hbA hS dL_law_40 ?_
    refine lv_bipush (v := 8) hx hb dL_law_41 (by decide) ?_
    refine lv_isub hx hb dL_law_43 ?_
    refine lv_icmp_gt (tgt := 1037) hx hb dL_law_44 (by decide) (fun c44 => ?_) (fun c44 => ?_)
    · refine lv_iconst (v := 1) hx hb dL_law_1037 (by decide) ?_
      refine va_forget (fun q hq => hS.2.2 q hq) ?_
      exact lw_ret hx hb hr hlocks dL_law_1038
    · have h8 : i + 8 ≤ L := by
        rw [law_head hL (by omega)] at c44
        omega
      have ht : t < 512 := by omega
      have kk : lwKK p l e s m below meth c b dC dI ad cL cZ cO ae dL dZ cI i t := by
        intro S N ro hd H locs ls hsim hI hl
        refine lv_iinc (v := nI (i + 8)) (lv' := [(3, .int (nI (i + 8))), (0, .ref b), (1, .ref (ad 0)), (2, .ref (ae 0))]) hx hb dL_law_1031 hl (k := 3) rfl (nI_add i 8) (by decide) rfl (fun ls hl => ?_)
        refine lv_goto (tgt := 38) hx hb dL_law_1034 (by decide) ?_
        exact ih (i + 8) (t + 1) S N ro hd H locs ls (by omega) (by omega) (by omega) hsim hI (lv_sub hl [1, 2, 3, 0] rfl)
      refine lv_aload_n hx hb dL_law_47 rfl (lv_at hl 0 rfl) ?_
      refine lv_iload_n hx hb dL_law_48 rfl (lv_at hl 3 rfl) ?_
      refine xv_sld hx hb hX hbl hbA hS (xat_nI (k := i) (by omega) (by omega)) dL_law_49 ?_
      refine lv_bipush (v := 31) hx hb dL_law_50 (by decide) ?_
      refine lv_iand hx hb dL_law_52 ?_
      obtain ⟨k, hk, ek⟩ := and31 (xs i)
      rw [ek]
      match k, hk with
      | 0, _ => exact lv_tableIn (off := 99) (tgt := 152) hx hb dL_law_53 (by decide) (by decide) (by decide) (by decide) (law_op0 C1 h8 ht hsim hI hl kk)
      | 1, _ => exact lv_tableIn (off := 122) (tgt := 175) hx hb dL_law_53 (by decide) (by decide) (by decide) (by decide) (law_op1 C1 h8 ht hsim hI hl kk)
      | 2, _ => exact lv_tableIn (off := 185) (tgt := 238) hx hb dL_law_53 (by decide) (by decide) (by decide) (by decide) (law_op2 C1 h8 ht hsim hI hl kk)
      | 3, _ => exact lv_tableIn (off := 208) (tgt := 261) hx hb dL_law_53 (by decide) (by decide) (by decide) (by decide) (law_op3 C1 h8 ht hsim hI hl kk)
      | 4, _ => exact lv_tableIn (off := 232) (tgt := 285) hx hb dL_law_53 (by decide) (by decide) (by decide) (by decide) (law_op4 C1 h8 ht hsim hI hl kk)
      | 5, _ => exact lv_tableIn (off := 256) (tgt := 309) hx hb dL_law_53 (by decide) (by decide) (by decide) (by decide) (law_op5 C1 h8 ht hsim hI hl kk)
      | 6, _ => exact lv_tableIn (off := 309) (tgt := 362) hx hb dL_law_53 (by decide) (by decide) (by decide) (by decide) (law_op6 C1 h8 ht hsim hI hl kk)
      | 7, _ => exact lv_tableIn (off := 332) (tgt := 385) hx hb dL_law_53 (by decide) (by decide) (by decide) (by decide) (law_op7 C1 h8 ht hsim hI hl kk)
      | 8, _ => exact lv_tableIn (off := 356) (tgt := 409) hx hb dL_law_53 (by decide) (by decide) (by decide) (by decide) (law_op8 C1 h8 ht hsim hI hl kk)
      | 9, _ => exact lv_tableIn (off := 409) (tgt := 462) hx hb dL_law_53 (by decide) (by decide) (by decide) (by decide) (law_op9 C1 h8 ht hsim hI hl kk)
      | 10, _ => exact lv_tableIn (off := 432) (tgt := 485) hx hb dL_law_53 (by decide) (by decide) (by decide) (by decide) (law_op10 C1 h8 ht hsim hI hl kk)
      | 11, _ => exact lv_tableIn (off := 456) (tgt := 509) hx hb dL_law_53 (by decide) (by decide) (by decide) (by decide) (law_op11 C1 h8 ht hsim hI hl kk)
      | 12, _ => exact lv_tableIn (off := 583) (tgt := 636) hx hb dL_law_53 (by decide) (by decide) (by decide) (by decide) (law_op12 C1 h8 ht hsim hI hl kk)
      | 13, _ => exact lv_tableIn (off := 634) (tgt := 687) hx hb dL_law_53 (by decide) (by decide) (by decide) (by decide) (law_op13 C1 h8 ht hsim hI hl kk)
      | 14, _ => exact lv_tableIn (off := 717) (tgt := 770) hx hb dL_law_53 (by decide) (by decide) (by decide) (by decide) (law_op14 C1 h8 ht hsim hI hl kk)
      | 15, _ => exact lv_tableIn (off := 750) (tgt := 803) hx hb dL_law_53 (by decide) (by decide) (by decide) (by decide) (law_op15 C1 h8 ht hsim hI hl kk)
      | 16, _ => exact lv_tableIn (off := 833) (tgt := 886) hx hb dL_law_53 (by decide) (by decide) (by decide) (by decide) (law_op16 C1 h8 ht hsim hI hl kk)
      | 17, _ => exact lv_tableIn (off := 847) (tgt := 900) hx hb dL_law_53 (by decide) (by decide) (by decide) (by decide) (law_op17 C1 h8 ht hsim hI hl kk)
      | 18, _ => exact lv_tableIn (off := 881) (tgt := 934) hx hb dL_law_53 (by decide) (by decide) (by decide) (by decide) (law_op18 C1 h8 ht hsim hI hl kk)
      | 19, _ => exact lv_tableIn (off := 954) (tgt := 1007) hx hb dL_law_53 (by decide) (by decide) (by decide) (by decide) (law_op19 C1 h8 ht hsim hI hl kk)
      | 20, _ => exact lv_tableIn (off := 965) (tgt := 1018) hx hb dL_law_53 (by decide) (by decide) (by decide) (by decide) (law_op20 C1 h8 ht hsim hI hl kk)
      | 21, _ => exact lv_tableOut (tgt := 1031) hx hb dL_law_53 (Or.inr (by decide)) (by decide) (kk S N ro hd H locs ls hsim.up hI hl)
      | 22, _ => exact lv_tableOut (tgt := 1031) hx hb dL_law_53 (Or.inr (by decide)) (by decide) (kk S N ro hd H locs ls hsim.up hI hl)
      | 23, _ => exact lv_tableOut (tgt := 1031) hx hb dL_law_53 (Or.inr (by decide)) (by decide) (kk S N ro hd H locs ls hsim.up hI hl)
      | 24, _ => exact lv_tableOut (tgt := 1031) hx hb dL_law_53 (Or.inr (by decide)) (by decide) (kk S N ro hd H locs ls hsim.up hI hl)
      | 25, _ => exact lv_tableOut (tgt := 1031) hx hb dL_law_53 (Or.inr (by decide)) (by decide) (kk S N ro hd H locs ls hsim.up hI hl)
      | 26, _ => exact lv_tableOut (tgt := 1031) hx hb dL_law_53 (Or.inr (by decide)) (by decide) (kk S N ro hd H locs ls hsim.up hI hl)
      | 27, _ => exact lv_tableOut (tgt := 1031) hx hb dL_law_53 (Or.inr (by decide)) (by decide) (kk S N ro hd H locs ls hsim.up hI hl)
      | 28, _ => exact lv_tableOut (tgt := 1031) hx hb dL_law_53 (Or.inr (by decide)) (by decide) (kk S N ro hd H locs ls hsim.up hI hl)
      | 29, _ => exact lv_tableOut (tgt := 1031) hx hb dL_law_53 (Or.inr (by decide)) (by decide) (kk S N ro hd H locs ls hsim.up hI hl)
      | 30, _ => exact lv_tableOut (tgt := 1031) hx hb dL_law_53 (Or.inr (by decide)) (by decide) (kk S N ro hd H locs ls hsim.up hI hl)
      | 31, _ => exact lv_tableOut (tgt := 1031) hx hb dL_law_53 (Or.inr (by decide)) (by decide) (kk S N ro hd H locs ls hsim.up hI hl)
      | k + 32, h => exact absurd h (by omega)
end LWP
