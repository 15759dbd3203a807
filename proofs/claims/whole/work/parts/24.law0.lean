/-! THE CLAIM OUT OF ONE WALK OF THE LAW'S BODY. Your part is whole_start (and what it stands on); all else here is the same for every law, but numbers. -/
def R_law : String := "RegisterSealerLaw"
def lw_P (b : Addr) (xs : List Int32) (args : Array Value) (s : State) : Prop := args = #[.ref b] ∧ s.IntsAt b xs ∧ xs.length ≤ 4098 ∧ (Jvm.Cond.and given_1 narrow_1).before args s = true
def lw_Q (_ : Array Value) (s : State) (o : Outcome) (t : State) : Prop := o = .returned (some (.int 1)) ∧ Framed s o t [] 600000 7302250
def lw_Z (below : List Frame) (a : Array Value) (s : State) : State → Prop := fun t => ∃ o, t.status = .running ∧ Ended t below o ∧ lw_Q a s o t
/-- the law's own end, with 1 on the stack, nothing written that was there before, its room as the claim has it -/
theorem lw_ret {p : Program} {l : Launch} {e : Env} {s : State} {m : MethodId} {below : List Frame} {meth : Method} {c : Code} {b : Nat} (hx : p.tables.exec = Jvm.exec) (hb : c.code = code) (hr : meth.sig.returnType = ret) (hlocks : meth.locks = false) {pc : Nat} {H : Heap} {ls : Array Slot} (hdg : decode code pc = .ok (.ireturn, 1)) : W p l e room_1 s m #[Value.ref b] below meth c H [] 600000 7302250 (lw_Z below #[Value.ref b] s) (F0 m pc ls [.int 1]) := by
  intro T hT X
  obtain ⟨fs, hret, hrun, hended, hW, hframe⟩ := X.leave (v := some (.int 1)) (hlocks := hlocks) (fun h => by rw [hr] at h; cases h)
  have hmeth' : T.vm.method? m = some meth := X.method'
  refine ⟨T.setFrames fs, ?_, .returned (some (.int 1)), hrun, hended, rfl, ⟨_, rfl⟩, hW, hframe⟩
  jvm_step X.here [X.here.top, hx, hb, hdg, hmeth', hr, ret, narrow_b1]
  (try refine ⟨rfl, ?_⟩); (try refine ⟨rfl, ?_⟩)
  first | (intro acts; rw [hret _ acts rfl rfl rfl]) | rw [hret _ _ rfl rfl rfl]
  exact Steps.refl _
/-- what holds at the law's entry: the machine, the code, the tables' words (any of lw_tbl by 'hts w (by decide +kernel)'), the script of L ints xs at the cell b, what the Statement gives of the start (any of its parts by flat_of_before) -/
def lw_At (p : Program) (s : State) (m : MethodId) (meth : Method) (c : Code) (b L : Nat) (xs : Nat → Int32) : Prop :=
  p.tables.exec = Jvm.exec ∧ c.code = code ∧ meth.sig.returnType = ret ∧ c.maxLocals = 4 ∧ s.vm.findClass R_law = some m.cls ∧ (∀ w ∈ lw_tbl, w.before #[Value.ref b] s = true) ∧ va_X b L xs s s.heap ∧ b < s.heap.size ∧ meth.locks = false ∧ (Jvm.Cond.and given_1 narrow_1).before #[Value.ref b] s = true

/-! calls beside another system's cells -/
section X2
variable {p : Program} {l : Launch} {e : Env} {R : Room} {s : State} {m : MethodId} {args : Array Value} {below : List Frame} {meth : Method} {c : Code} {H : Heap} {locs : List Loc} {cells slots : Nat} {Q : State → Prop}
variable {pc : Nat} {ls : Array Slot} {rest : List Value} {D : va_G} {A : Nat → Prop} {w1 w2 : va_W} {H0 : Heap}
theorem xD_swap (h : va_D A (w1 ++ w2)) : va_D A (w2 ++ w1) := va_D.swap (a := []) h
theorem xD_left (h : va_D A (w1 ++ w2)) : va_D A w1 := ⟨fun i j p q hp hq e => h.1 i j p q (by rw [List.getElem?_append_left (List.getElem?_eq_some_iff.mp hp).1]; exact hp) (by rw [List.getElem?_append_left (List.getElem?_eq_some_iff.mp hq).1]; exact hq) e, fun k q hk => h.2 k q (by rw [List.getElem?_append_left (List.getElem?_eq_some_iff.mp hk).1]; exact hk)⟩
/-- what stands beside keeps apart from the callee's cells -/
theorem x2_apart (hP2 : va_P D vwCl w2 H) (hD : va_D A (w1 ++ w2)) {k : Nat} {q : Nat × va_E} (hk : w2[k]? = some q) : q.1 < H.size ∧ ¬ va_A w1 H.size q.1 := by
  have hlt := (hP2 k q hk).lt
  refine ⟨hlt, fun h => ?_⟩
  rcases h with ⟨i, e, hi⟩ | h
  · have hil := (List.getElem?_eq_some_iff.mp hi).1
    have := hD.1 i (w1.length + k) (q.1, e) q (by rw [List.getElem?_append_left hil]; exact hi) (by rw [List.getElem?_append_right (by omega), Nat.add_sub_cancel_left]; exact hk) rfl
    omega
  · omega
theorem x2_after {S : Type} {w : S → va_W} {tys1 : List (ClassId × FieldType)} {u : S} {t : State} {H1 : Heap} (hP2 : va_P D vwCl w2 H) (hD : va_D A (w1 ++ w2)) (hF : ∀ q, va_A w1 H.size q → A q) (ht : t.heap = H1) (hB : xB D w tys1 (va_A w1 H.size) u t) (hk1 : ∀ q : Nat, q < H.size → ¬ va_A w1 H.size q → H1[q]? = H[q]?) :
    va_P D vwCl (w u) H1 ∧ va_P D vwCl w2 H1 ∧ va_D A (w u ++ w2) := by
  obtain ⟨hP1, -, hD1⟩ := hB
  rw [ht] at hP1
  refine ⟨hP1, fun k q hk => ?_, ?_⟩
  · obtain ⟨a1, a2⟩ := x2_apart hP2 hD hk
    exact (hP2 k q hk).kept (hk1 q.1 a1 a2)
  · refine va_D.app (hD1.weaken (fun _ _ _ h => hF _ h)) (xD_left (xD_swap hD)) (fun i j x y hi hj e => ?_)
    obtain ⟨-, a2⟩ := x2_apart hP2 hD hj
    exact a2 (e ▸ hD1.2 i x hi)
theorem xcall2_i {S : Type} {post : Int32 → S → Prop} {w : S → va_W} {av : Array Value} {st0 : List Value} {tys1 : List (ClassId × FieldType)} (hr : va_Run p l e R s m args below meth c H locs cells slots 0 0 (F0 m pc ls st0) rest (va_Qi post (xB D w tys1 (va_A w1 H.size)) (va_A w1 H.size) av) (va_A w1 H.size)) (hP2 : va_P D vwCl w2 H) (hD : va_D A (w1 ++ w2)) (hS : va_S A H0 H locs) (hA : ∀ q, H0.size ≤ q → A q)
    (kk : ∀ (r : Int32) (u : S) (H1 : Heap) (locs1 : List Loc), post r u → va_P D vwCl (w u) H1 → va_P D vwCl w2 H1 → va_D A (w u ++ w2) → va_S A H0 H1 locs1 → W p l e R s m args below meth c H1 locs1 cells slots Q (F0 m (pc + 3) ls (.int r :: rest))) : W p l e R s m args below meth c H locs cells slots Q (F0 m pc ls st0) := by
  have hF := xfree (xD_left hD) hS hA
  refine va_calli hr hS (fun q _ h => hF q h) hF (fun r u t H1 locs1 ht hvm hw hB hz1 hk1 hS1 => ?_)
  obtain ⟨b1, b2, b3⟩ := x2_after hP2 hD hF ht hB hk1
  exact kk r u H1 locs1 hw b1 b2 b3 hS1
theorem xcall2_l {S : Type} {post : Int64 → S → Prop} {w : S → va_W} {av : Array Value} {st0 : List Value} {tys1 : List (ClassId × FieldType)} (hr : va_Run p l e R s m args below meth c H locs cells slots 0 0 (F0 m pc ls st0) rest (va_Ql post (xB D w tys1 (va_A w1 H.size)) (va_A w1 H.size) av) (va_A w1 H.size)) (hP2 : va_P D vwCl w2 H) (hD : va_D A (w1 ++ w2)) (hS : va_S A H0 H locs) (hA : ∀ q, H0.size ≤ q → A q)
    (kk : ∀ (r : Int64) (u : S) (H1 : Heap) (locs1 : List Loc), post r u → va_P D vwCl (w u) H1 → va_P D vwCl w2 H1 → va_D A (w u ++ w2) → va_S A H0 H1 locs1 → W p l e R s m args below meth c H1 locs1 cells slots Q (F0 m (pc + 3) ls (.long r :: rest))) : W p l e R s m args below meth c H locs cells slots Q (F0 m pc ls st0) := by
  have hF := xfree (xD_left hD) hS hA
  refine va_calll hr hS (fun q _ h => hF q h) hF (fun r u t H1 locs1 ht hvm hw hB hz1 hk1 hS1 => ?_)
  obtain ⟨b1, b2, b3⟩ := x2_after hP2 hD hF ht hB hk1
  exact kk r u H1 locs1 hw b1 b2 b3 hS1
theorem xcall2_v {S : Type} {post : S → Prop} {w : S → va_W} {av : Array Value} {st0 : List Value} {tys1 : List (ClassId × FieldType)} (hr : va_Run p l e R s m args below meth c H locs cells slots 0 0 (F0 m pc ls st0) rest (va_Qv post (xB D w tys1 (va_A w1 H.size)) (va_A w1 H.size) av) (va_A w1 H.size)) (hP2 : va_P D vwCl w2 H) (hD : va_D A (w1 ++ w2)) (hS : va_S A H0 H locs) (hA : ∀ q, H0.size ≤ q → A q)
    (kk : ∀ (u : S) (H1 : Heap) (locs1 : List Loc), post u → va_P D vwCl (w u) H1 → va_P D vwCl w2 H1 → va_D A (w u ++ w2) → va_S A H0 H1 locs1 → W p l e R s m args below meth c H1 locs1 cells slots Q (F0 m (pc + 3) ls rest)) : W p l e R s m args below meth c H locs cells slots Q (F0 m pc ls st0) := by
  have hF := xfree (xD_left hD) hS hA
  refine va_callv hr hS (fun q _ h => hF q h) hF (fun u t H1 locs1 ht hvm hw hB hz1 hk1 hS1 => ?_)
  obtain ⟨b1, b2, b3⟩ := x2_after hP2 hD hF ht hB hk1
  exact kk u H1 locs1 hw b1 b2 b3 hS1
theorem xv_sld {cc : ByteArray} (hexec : p.tables.exec = Jvm.exec) (hb : c.code = cc) {b L : Nat} {xs : Nat → Int32} (hX : va_X b L xs s H0) (hbl : b < H0.size) (hbA : ¬ A b) (hS : va_S A H0 H locs) {i : Int32} {k : Nat} (hin : xat i k L) (hdg : decode cc pc = .ok (.iaload, 1))
    (kk : W p l e R s m args below meth c H locs cells slots Q (F0 m (pc + 1) ls (.int (xs k) :: rest))) : W p l e R s m args below meth c H locs cells slots Q (F0 m pc ls (.int i :: .ref b :: rest)) := by
  obtain ⟨hin, rfl⟩ := hin
  exact va_sld hexec hb hX hbl hbA hS hin hdg kk
end X2
theorem xatI {i L : Nat} (j : Nat) (h : i + j < L) (hL : L ≤ 4098) : xat (nI i + nI j) (i + j) L := by
  rw [nI_add]
  exact xat_nI h (by omega)
theorem lg_cmp_self (x : Int64) : lg_cmp x x = 0 := by
  unfold lg_cmp
  rw [if_neg (show ¬ x > x by rw [gt_iff_lt, Int64.lt_iff_toInt_lt]; omega), if_pos rfl]
/-- two ints as a long -/
abbrev lj (a b : Int32) : Int64 := (a.toInt64 <<< ((32 : Int32).toInt64 &&& 63)) ||| (b.toInt64 &&& 4294967295)
def celv (xs : Nat → Int32) (L : Nat) (k : Int32) : Int32 := if nI L ≤ k then 0 else xs k.toNatClampNeg
set_option maxHeartbeats 4000000 in
set_option maxRecDepth 100000 in
theorem c_L_cell (l : Launch) (b L : Nat) (xs : Nat → Int32) (hL : L ≤ 4098) (k : Int32) (hk : ¬ k < 0) : Met l yL_cell wsL_cell ({ frames := 0, cells := 0, slots := 0, locals := 0 }) (va_Pc [.ref b, .int k] (fun U => va_X b L xs U U.heap ∧ b < U.heap.size)) (vp_Si (fun r => r = celv xs L k)) 0 0 (fun _ => False) := by
  refine Met.ofW (cc := cL_cell) (maxL := 2) (ret := (some .int)) (by decide) rfl ?_
  intro p e s m args below meth c s₁ B hml hv
  obtain ⟨rfl, hX, hbl⟩ := hv
  have hx := B.exec
  have hb := B.bytes
  have hr := B.returns
  have hlocks := B.notSynchronized
  have hS : va_S (fun _ => False) s.heap s.heap [] := va_S.rf
  have hl := lv_entry ([.ref b, .int k]) (n := 2) (Nat.le_of_ble_eq_true rfl)
  rw [lg_entry_eq]
  generalize (lg_sl ([.ref b, .int k]) ++ List.replicate (2 - (lg_sl ([.ref b, .int k])).length) Slot.unset).toArray = ls at hl ⊢
  have hl : lv_has ls 2 [(0, .ref b), (1, .int k)] := hl
  refine lv_iload_n hx hb dL_cell_0 rfl (lv_at hl 1 rfl) ?_
  refine lv_aload_n hx hb dL_cell_1 rfl (lv_at hl 0 rfl) ?_
  refine va_slen hx hb hX hbl (fun h => h) hS dL_cell_2 ?_
  refine lv_icmp_ge (tgt := 12) hx hb dL_cell_3 (by decide) (fun c3 => ?_) (fun c3 => ?_)
  · refine lv_iconst (v := 0) hx hb dL_cell_12 (by decide) ?_
    exact W.iret (v := 0) hx hb hr (fun t ht hW => ⟨_, rfl, (if_pos c3).symm, ht⟩) (fun _ h => by cases h) dL_cell_13
  · refine lv_aload_n hx hb dL_cell_6 rfl (lv_at hl 0 rfl) ?_
    refine lv_iload_n hx hb dL_cell_7 rfl (lv_at hl 1 rfl) ?_
    refine xv_sld hx hb hX hbl (fun h => h) hS (xat_self (xin_of (M := nI L) rfl (by omega) hk c3)) dL_cell_8 ?_
    refine lv_goto (tgt := 13) hx hb dL_cell_9 (by decide) ?_
    exact W.iret (v := xs k.toNatClampNeg) hx hb hr (fun t ht hW => ⟨_, rfl, (if_neg c3).symm, ht⟩) (fun _ h => by cases h) dL_cell_13
theorem law_k26 : Cond.constantLong RL 26 4294967295 ∈ wsL_law := by decide +kernel
/-! what holds all the time in the law's loop -/
abbrev lwA (s : State) : Nat → Prop := fun q => s.heap.size ≤ q
def lwC (p : Program) (s : State) (m : MethodId) (meth : Method) (c : Code) (b L : Nat) (xs : Nat → Int32) (dC : Nat → ClassId) (dI : Nat → Nat → Nat) (cL cZ cO dL dZ cI : ClassId) : Prop :=
  lw_At p s m meth c b L xs ∧ L ≤ 4098 ∧ va_K (dC, dI) vwCl (tyX cL cZ cO) s ∧ va_K (dC, dI) vwCl (tyM dL dZ cI) s
def lwI (s : State) (dC : Nat → ClassId) (dI : Nat → Nat → Nat) (ad : Nat → Nat) (cL cZ cO : ClassId) (ae : Nat → Nat) (dL dZ cI : ClassId) (S : SX) (N : SM) (ro hd : Nat → Int64) (H : Heap) (locs : List Loc) : Prop :=
  va_P (dC, dI) vwCl (wX ad cL cZ cO S) H ∧ va_P (dC, dI) vwCl (wM ae dL dZ cI N ro hd) H ∧ va_D (lwA s) (wX ad cL cZ cO S ++ wM ae dL dZ cI N ro hd) ∧ va_S (lwA s) s.heap H locs
abbrev lwL (b : Nat) (ad ae : Nat → Nat) (i : Nat) : List (Nat × Value) := [(0, .ref b), (1, .ref (ad 0)), (2, .ref (ae 0)), (3, .int (nI i))]
def lwKK (p : Program) (l : Launch) (e : Env) (s : State) (m : MethodId) (below : List Frame) (meth : Method) (c : Code) (b : Nat) (dC : Nat → ClassId) (dI : Nat → Nat → Nat) (ad : Nat → Nat) (cL cZ cO : ClassId) (ae : Nat → Nat) (dL dZ cI : ClassId) (i t : Nat) : Prop :=
  ∀ (S : SX) (N : SM) (ro hd : Nat → Int64) (H : Heap) (locs : List Loc) (ls : Array Slot), Sim S N (t + 1) → lwI s dC dI ad cL cZ cO ae dL dZ cI S N ro hd H locs → lv_has ls 4 (lwL b ad ae i) → W p l e room_1 s m #[Value.ref b] below meth c H locs 600000 7302250 (lw_Z below #[Value.ref b] s) (F0 m 1031 ls [])
