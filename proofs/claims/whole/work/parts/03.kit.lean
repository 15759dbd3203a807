/-! wrappers of array rows with the place named; calls in short; the two pictures -/
/-- an index that is within, and its number -/
def xat (i : Int32) (k n : Nat) : Prop := vp_in i n ∧ i.toNatClampNeg = k
theorem xat_nI {k n : Nat} (h : k < n) (hn : n < 2 ^ 31) : xat (nI k) k n := ⟨vp_in_nI h hn, nI_clamp (by omega)⟩
theorem xat_self {i : Int32} {n : Nat} (h : vp_in i n) : xat i i.toNatClampNeg n := ⟨h, rfl⟩
theorem xat_lt {i : Int32} {k n : Nat} (h : xat i k n) : k < n := by
  obtain ⟨h, rfl⟩ := h
  exact Nat.not_le.mp fun q => h (Or.inr q)
theorem xin_of {i M : Int32} {n : Nat} (hM : M = nI n) (hn : n < 2 ^ 31) (h0 : ¬ i < 0) (h1 : ¬ M ≤ i) : vp_in i n := by
  subst hM
  obtain ⟨j, hj, rfl⟩ := nI_of h0
  rw [nI_leI hn hj] at h1
  exact vp_in_nI (by omega) hn
theorem xin_lt {i M : Int32} {n : Nat} (hM : M = nI n) (hn : n < 2 ^ 31) (h0 : ¬ i < 0) (h1 : i < M) : vp_in i n := by
  subst hM
  obtain ⟨j, hj, rfl⟩ := nI_of h0
  rw [nI_ltI hj hn] at h1
  exact vp_in_nI h1 hn
theorem xin_le {i M : Int32} {n : Nat} (hM : M = nI n) (hn : n + 1 < 2 ^ 31) (h0 : ¬ i < 0) (h1 : i ≤ M) : vp_in i (n + 1) := by
  subst hM
  obtain ⟨j, hj, rfl⟩ := nI_of h0
  rw [nI_leI hj (by omega)] at h1
  exact vp_in_nI (by omega) hn
section XV
variable {p : Program} {l : Launch} {e : Env} {R : Room} {s : State} {m : MethodId} {args : Array Value} {below : List Frame} {meth : Method} {c : Code} {H : Heap} {locs : List Loc} {cells slots : Nat} {Q : State → Prop}
variable {cc : ByteArray} {pc : Nat} {ls : Array Slot} {rest : List Value} {D : va_G} {cl : List vw_C} {A : Nat → Prop} {a : Nat} {tys : List (ClassId × FieldType)} {ws : va_W} {H0 : Heap}
theorem xv_lald (hexec : p.tables.exec = Jvm.exec) (hb : c.code = cc) (hK : va_K D cl tys s) (hP : va_P D cl ws H) (q0 t0 : Nat) {cA : ClassId} {n k : Nat} {f : Nat → Int64} (ha : ws[q0]? = some (a, .inl (cA, n, .inr (.inl f)))) (ht : tys[t0]? = some (cA, .long)) {i : Int32} (hin : xat i k n) (hdg : decode cc pc = .ok (.laload, 1))
    (kk : W p l e R s m args below meth c H locs cells slots Q (F0 m (pc + 1) ls (.long (f k) :: rest))) : W p l e R s m args below meth c H locs cells slots Q (F0 m pc ls (.int i :: .ref a :: rest)) := by
  obtain ⟨hin, rfl⟩ := hin
  exact va_lald hexec hb hK hP q0 t0 ha ht hin hdg kk
theorem xv_iald (hexec : p.tables.exec = Jvm.exec) (hb : c.code = cc) (hK : va_K D cl tys s) (hP : va_P D cl ws H) (q0 t0 : Nat) {cA : ClassId} {n k : Nat} {f : Nat → Int32} (ha : ws[q0]? = some (a, .inl (cA, n, .inl f))) (ht : tys[t0]? = some (cA, .int)) {i : Int32} (hin : xat i k n) (hdg : decode cc pc = .ok (.iaload, 1))
    (kk : W p l e R s m args below meth c H locs cells slots Q (F0 m (pc + 1) ls (.int (f k) :: rest))) : W p l e R s m args below meth c H locs cells slots Q (F0 m pc ls (.int i :: .ref a :: rest)) := by
  obtain ⟨hin, rfl⟩ := hin
  exact va_iald hexec hb hK hP q0 t0 ha ht hin hdg kk
theorem xv_zald (hexec : p.tables.exec = Jvm.exec) (hb : c.code = cc) (hK : va_K D cl tys s) (hP : va_P D cl ws H) (q0 t0 : Nat) {cA : ClassId} {n k : Nat} {f : Nat → Int32} (ha : ws[q0]? = some (a, .inl (cA, n, .inl f))) (ht : tys[t0]? = some (cA, .boolean)) {i : Int32} (hin : xat i k n) (hdg : decode cc pc = .ok (.baload, 1))
    (kk : W p l e R s m args below meth c H locs cells slots Q (F0 m (pc + 1) ls (.int (f k) :: rest))) : W p l e R s m args below meth c H locs cells slots Q (F0 m pc ls (.int i :: .ref a :: rest)) := by
  obtain ⟨hin, rfl⟩ := hin
  exact va_zald hexec hb hK hP q0 t0 ha ht hin hdg kk
theorem xv_last (hexec : p.tables.exec = Jvm.exec) (hb : c.code = cc) (hK : va_K D cl tys s) (hP : va_P D cl ws H) (hD : va_D A ws) (hS : va_S A H0 H locs) (q0 t0 : Nat) {cA : ClassId} {n k : Nat} {f : Nat → Int64} (ha : ws[q0]? = some (a, .inl (cA, n, .inr (.inl f)))) (ht : tys[t0]? = some (cA, .long)) {i : Int32} {x : Int64} (hin : xat i k n) {ws' : va_W} (hw : ws.set q0 (a, .inl (cA, n, .inr (.inl (vp_updL f k x)))) = ws') (hdg : decode cc pc = .ok (.lastore, 1))
    (kk : ∀ (H1 : Heap) (locs1 : List Loc), va_P D cl ws' H1 → va_D A ws' → va_S A H0 H1 locs1 → W p l e R s m args below meth c H1 locs1 cells slots Q (F0 m (pc + 1) ls rest)) : W p l e R s m args below meth c H locs cells slots Q (F0 m pc ls (.long x :: .int i :: .ref a :: rest)) := by
  obtain ⟨hin, rfl⟩ := hin
  subst hw
  exact va_last hexec hb hK hP hD hS q0 t0 ha ht hin hdg kk
theorem xv_iast (hexec : p.tables.exec = Jvm.exec) (hb : c.code = cc) (hK : va_K D cl tys s) (hP : va_P D cl ws H) (hD : va_D A ws) (hS : va_S A H0 H locs) (q0 t0 : Nat) {cA : ClassId} {n k : Nat} {f : Nat → Int32} (ha : ws[q0]? = some (a, .inl (cA, n, .inl f))) (ht : tys[t0]? = some (cA, .int)) {i : Int32} {x : Int32} (hin : xat i k n) {ws' : va_W} (hw : ws.set q0 (a, .inl (cA, n, .inl (upd f k x))) = ws') (hdg : decode cc pc = .ok (.iastore, 1))
    (kk : ∀ (H1 : Heap) (locs1 : List Loc), va_P D cl ws' H1 → va_D A ws' → va_S A H0 H1 locs1 → W p l e R s m args below meth c H1 locs1 cells slots Q (F0 m (pc + 1) ls rest)) : W p l e R s m args below meth c H locs cells slots Q (F0 m pc ls (.int x :: .int i :: .ref a :: rest)) := by
  obtain ⟨hin, rfl⟩ := hin
  subst hw
  exact va_iast hexec hb hK hP hD hS q0 t0 ha ht hin hdg kk
theorem xv_zast (hexec : p.tables.exec = Jvm.exec) (hb : c.code = cc) (hK : va_K D cl tys s) (hP : va_P D cl ws H) (hD : va_D A ws) (hS : va_S A H0 H locs) (q0 t0 : Nat) {cA : ClassId} {n k : Nat} {f : Nat → Int32} (ha : ws[q0]? = some (a, .inl (cA, n, .inl f))) (ht : tys[t0]? = some (cA, .boolean)) {i : Int32} {x : Int32} (hx : vp_nar .boolean x = x) (hin : xat i k n) {ws' : va_W} (hw : ws.set q0 (a, .inl (cA, n, .inl (upd f k x))) = ws') (hdg : decode cc pc = .ok (.bastore, 1))
    (kk : ∀ (H1 : Heap) (locs1 : List Loc), va_P D cl ws' H1 → va_D A ws' → va_S A H0 H1 locs1 → W p l e R s m args below meth c H1 locs1 cells slots Q (F0 m (pc + 1) ls rest)) : W p l e R s m args below meth c H locs cells slots Q (F0 m pc ls (.int x :: .int i :: .ref a :: rest)) := by
  obtain ⟨hin, rfl⟩ := hin
  subst hw
  refine va_zast hexec hb hK hP hD hS q0 t0 ha ht hin hdg ?_
  rw [hx]
  exact kk
/-- a row of a table of rows -/
theorem xv_aald (hexec : p.tables.exec = Jvm.exec) (hb : c.code = cc) (hK : va_K D cl tys s) (hP : va_P D cl ws H) (q0 t0 : Nat) {cA : ClassId} {ty : FieldType} {n k r : Nat} {f : Nat → Option Nat} (ha : ws[q0]? = some (a, .inl (cA, n, .inr (.inr (.inr (.inr f)))))) (ht : tys[t0]? = some (cA, .array ty)) {i : Int32} (hin : xat i k n) (hr : f k = some r) (hdg : decode cc pc = .ok (.aaload, 1))
    (kk : W p l e R s m args below meth c H locs cells slots Q (F0 m (pc + 1) ls (.ref r :: rest))) : W p l e R s m args below meth c H locs cells slots Q (F0 m pc ls (.int i :: .ref a :: rest)) := by
  obtain ⟨hin, rfl⟩ := hin
  have hlt : i.toNatClampNeg < n := Nat.not_le.mp fun q => hin (Or.inr q)
  have kk' : W p l e R s m args below meth c H locs cells slots Q (F0 m (pc + 1) ls (va_rf (f i.toNatClampNeg) :: rest)) := by rw [hr]; exact kk
  exact W.aald (v := va_rf (f i.toNatClampNeg)) (ty := .array ty) hexec hb (hP q0 _ ha) ((hK.2 t0 _ ht).1 n (fun j => va_rf (f j))) rfl (fun q => by cases q) (by show ¬ (i < 0 ∨ (arrV _ _ _).slots.size ≤ _); rw [arrV_size]; exact hin) (by show (arrV _ _ _).slots[_]? = _; rw [arrV_read _ _ hlt]) rfl rfl hdg kk'
theorem xfree (hD : va_D A ws) (hS : va_S A H0 H locs) (hA : ∀ q, H0.size ≤ q → A q) : ∀ q, va_A ws H.size q → A q := by
  intro q h
  rcases h with ⟨k, e, h⟩ | h
  · exact hD.2 k _ h
  · exact hA q (Nat.le_trans hS.1 h)
/-- what a writer leaves -/
abbrev xB {S : Type} (D : va_G) (w : S → va_W) (tys : List (ClassId × FieldType)) (A : Nat → Prop) (u : S) (t : State) : Prop := va_P D vwCl (w u) t.heap ∧ va_K D vwCl tys t ∧ va_D A (w u)
theorem xcall_l {S : Type} {post : Int64 → S → Prop} {w : S → va_W} {av : Array Value} {st0 : List Value} {tys1 : List (ClassId × FieldType)} (hr : va_Run p l e R s m args below meth c H locs cells slots 0 0 (F0 m pc ls st0) rest (va_Ql post (xB D w tys1 (va_A ws H.size)) (va_A ws H.size) av) (va_A ws H.size)) (hD : va_D A ws) (hS : va_S A H0 H locs) (hA : ∀ q, H0.size ≤ q → A q)
    (kk : ∀ (r : Int64) (u : S) (H1 : Heap) (locs1 : List Loc), post r u → va_P D vwCl (w u) H1 → va_D A (w u) → va_S A H0 H1 locs1 → W p l e R s m args below meth c H1 locs1 cells slots Q (F0 m (pc + 3) ls (.long r :: rest))) : W p l e R s m args below meth c H locs cells slots Q (F0 m pc ls st0) := by
  have hF := xfree hD hS hA
  refine va_calll hr hS (fun q _ h => hF q h) hF (fun r u t H1 locs1 ht hvm hw hB hz1 hk1 hS1 => ?_)
  obtain ⟨hP1, -, hD1⟩ := hB
  rw [ht] at hP1
  exact kk r u H1 locs1 hw hP1 (hD1.weaken (fun _ _ _ h => hF _ h)) hS1
theorem xcall_i {S : Type} {post : Int32 → S → Prop} {w : S → va_W} {av : Array Value} {st0 : List Value} {tys1 : List (ClassId × FieldType)} (hr : va_Run p l e R s m args below meth c H locs cells slots 0 0 (F0 m pc ls st0) rest (va_Qi post (xB D w tys1 (va_A ws H.size)) (va_A ws H.size) av) (va_A ws H.size)) (hD : va_D A ws) (hS : va_S A H0 H locs) (hA : ∀ q, H0.size ≤ q → A q)
    (kk : ∀ (r : Int32) (u : S) (H1 : Heap) (locs1 : List Loc), post r u → va_P D vwCl (w u) H1 → va_D A (w u) → va_S A H0 H1 locs1 → W p l e R s m args below meth c H1 locs1 cells slots Q (F0 m (pc + 3) ls (.int r :: rest))) : W p l e R s m args below meth c H locs cells slots Q (F0 m pc ls st0) := by
  have hF := xfree hD hS hA
  refine va_calli hr hS (fun q _ h => hF q h) hF (fun r u t H1 locs1 ht hvm hw hB hz1 hk1 hS1 => ?_)
  obtain ⟨hP1, -, hD1⟩ := hB
  rw [ht] at hP1
  exact kk r u H1 locs1 hw hP1 (hD1.weaken (fun _ _ _ h => hF _ h)) hS1
theorem xfb_n (av : List Value) : FrameBlind (va_Pc av (fun _ => True)) := fun _ _ _ _ q => ⟨q.1, trivial⟩
theorem xfb_r (av : List Value) : FrameBlind (va_Pc av (fun U => va_P D cl ws U.heap ∧ va_K D cl tys U)) := fun a U g mk q => ⟨q.1, q.2.1, va_K.moved (u := U) (U := U.calling g mk a) (Vm.Alike.refl U.vm) q.2.2⟩
theorem xfb_w (av : List Value) (sz : Nat) : FrameBlind (va_Pc av (fun U => U.heap.size = sz ∧ va_P D cl ws U.heap ∧ va_K D cl tys U ∧ va_D (fun _ => True) ws)) := fun a U g mk q => ⟨q.1, q.2.1, q.2.2.1, va_K.moved (u := U) (U := U.calling g mk a) (Vm.Alike.refl U.vm) q.2.2.2.1, q.2.2.2.2⟩
theorem xpS_n (av : List Value) : PreS s H (va_Pc av (fun _ => True)) av := ⟨xfb_n av, fun _ _ _ => ⟨rfl, trivial⟩⟩
theorem xpS_r (av : List Value) (hK : va_K D cl tys s) (hP : va_P D cl ws H) : PreS s H (va_Pc av (fun U => va_P D cl ws U.heap ∧ va_K D cl tys U)) av := ⟨xfb_r av, fun U hU hW => ⟨rfl, by rw [hU]; exact hP, va_K.moved hW.alike hK⟩⟩
theorem xpV_r {C : String} {b : Nat} (As : List Value) (hK : va_K D cl tys s) (hP : va_P D cl ws H) (hrec : ∃ cell : Cell, H[b]? = some cell ∧ cell.vm.isStatics = false ∧ s.vm.findClass C = some cell.cls) : PreV s H C b (va_Pc (.ref b :: As) (fun U => va_P D cl ws U.heap ∧ va_K D cl tys U)) As := ⟨xfb_r _, hrec, fun U hU hW => ⟨rfl, by rw [hU]; exact hP, va_K.moved hW.alike hK⟩⟩
theorem xpV_w {C : String} {b : Nat} (As : List Value) (hK : va_K D cl tys s) (hP : va_P D cl ws H) (hD : va_D A ws) (hrec : ∃ cell : Cell, H[b]? = some cell ∧ cell.vm.isStatics = false ∧ s.vm.findClass C = some cell.cls) : PreV s H C b (va_Pc (.ref b :: As) (fun U => U.heap.size = H.size ∧ va_P D cl ws U.heap ∧ va_K D cl tys U ∧ va_D (fun _ => True) ws)) As := ⟨xfb_w _ _, hrec, fun U hU hW => ⟨rfl, by rw [hU], by rw [hU]; exact hP, va_K.moved hW.alike hK, hD.weaken (fun _ _ _ _ => trivial)⟩⟩
end XV
/-! THE CLASS: the state as one value; its cells -/
abbrev SX : Type := Int64 × Int64 × Int32 × Int32 × Int64 × Int64 × (Nat → Int64) × (Nat → Int32) × (Nat → Int64) × (Nat → Int64) × (Nat → Int32) × (Nat → Int64) × (Nat → Int64) × Int32 × (Nat → Nat → Int64)
abbrev x_m (S : SX) : Int64 := S.1
abbrev x_dr (S : SX) : Int64 := S.2.1
abbrev x_lo (S : SX) : Int32 := S.2.2.1
abbrev x_fa (S : SX) : Int32 := S.2.2.2.1
abbrev x_pr (S : SX) : Int64 := S.2.2.2.2.1
abbrev x_ou (S : SX) : Int64 := S.2.2.2.2.2.1
abbrev x_rg (S : SX) : Nat → Int64 := S.2.2.2.2.2.2.1
abbrev x_kt (S : SX) : Nat → Int32 := S.2.2.2.2.2.2.2.1
abbrev x_ks (S : SX) : Nat → Int64 := S.2.2.2.2.2.2.2.2.1
abbrev x_kn (S : SX) : Nat → Int64 := S.2.2.2.2.2.2.2.2.2.1
abbrev x_st (S : SX) : Nat → Int32 := S.2.2.2.2.2.2.2.2.2.2.1
abbrev x_cn (S : SX) : Nat → Int64 := S.2.2.2.2.2.2.2.2.2.2.2.1
abbrev x_mn (S : SX) : Nat → Int64 := S.2.2.2.2.2.2.2.2.2.2.2.2.1
abbrev x_bc (S : SX) : Int32 := S.2.2.2.2.2.2.2.2.2.2.2.2.2.1
abbrev x_bl (S : SX) : Nat → Nat → Int64 := S.2.2.2.2.2.2.2.2.2.2.2.2.2.2
abbrev xu_m (S : SX) (v : Int64) : SX := (v, S.2)
abbrev xu_dr (S : SX) (v : Int64) : SX := (S.1, v, S.2.2)
abbrev xu_lo (S : SX) (v : Int32) : SX := (S.1, S.2.1, v, S.2.2.2)
abbrev xu_fa (S : SX) (v : Int32) : SX := (S.1, S.2.1, S.2.2.1, v, S.2.2.2.2)
abbrev xu_pr (S : SX) (v : Int64) : SX := (S.1, S.2.1, S.2.2.1, S.2.2.2.1, v, S.2.2.2.2.2)
abbrev xu_ou (S : SX) (v : Int64) : SX := (S.1, S.2.1, S.2.2.1, S.2.2.2.1, S.2.2.2.2.1, v, S.2.2.2.2.2.2)
abbrev xu_rg (S : SX) (v : Nat → Int64) : SX := (S.1, S.2.1, S.2.2.1, S.2.2.2.1, S.2.2.2.2.1, S.2.2.2.2.2.1, v, S.2.2.2.2.2.2.2)
abbrev xu_kt (S : SX) (v : Nat → Int32) : SX := (S.1, S.2.1, S.2.2.1, S.2.2.2.1, S.2.2.2.2.1, S.2.2.2.2.2.1, S.2.2.2.2.2.2.1, v, S.2.2.2.2.2.2.2.2)
abbrev xu_ks (S : SX) (v : Nat → Int64) : SX := (S.1, S.2.1, S.2.2.1, S.2.2.2.1, S.2.2.2.2.1, S.2.2.2.2.2.1, S.2.2.2.2.2.2.1, S.2.2.2.2.2.2.2.1, v, S.2.2.2.2.2.2.2.2.2)
abbrev xu_kn (S : SX) (v : Nat → Int64) : SX := (S.1, S.2.1, S.2.2.1, S.2.2.2.1, S.2.2.2.2.1, S.2.2.2.2.2.1, S.2.2.2.2.2.2.1, S.2.2.2.2.2.2.2.1, S.2.2.2.2.2.2.2.2.1, v, S.2.2.2.2.2.2.2.2.2.2)
abbrev xu_st (S : SX) (v : Nat → Int32) : SX := (S.1, S.2.1, S.2.2.1, S.2.2.2.1, S.2.2.2.2.1, S.2.2.2.2.2.1, S.2.2.2.2.2.2.1, S.2.2.2.2.2.2.2.1, S.2.2.2.2.2.2.2.2.1, S.2.2.2.2.2.2.2.2.2.1, v, S.2.2.2.2.2.2.2.2.2.2.2)
abbrev xu_cn (S : SX) (v : Nat → Int64) : SX := (S.1, S.2.1, S.2.2.1, S.2.2.2.1, S.2.2.2.2.1, S.2.2.2.2.2.1, S.2.2.2.2.2.2.1, S.2.2.2.2.2.2.2.1, S.2.2.2.2.2.2.2.2.1, S.2.2.2.2.2.2.2.2.2.1, S.2.2.2.2.2.2.2.2.2.2.1, v, S.2.2.2.2.2.2.2.2.2.2.2.2)
abbrev xu_mn (S : SX) (v : Nat → Int64) : SX := (S.1, S.2.1, S.2.2.1, S.2.2.2.1, S.2.2.2.2.1, S.2.2.2.2.2.1, S.2.2.2.2.2.2.1, S.2.2.2.2.2.2.2.1, S.2.2.2.2.2.2.2.2.1, S.2.2.2.2.2.2.2.2.2.1, S.2.2.2.2.2.2.2.2.2.2.1, S.2.2.2.2.2.2.2.2.2.2.2.1, v, S.2.2.2.2.2.2.2.2.2.2.2.2.2)
abbrev xu_bc (S : SX) (v : Int32) : SX := (S.1, S.2.1, S.2.2.1, S.2.2.2.1, S.2.2.2.2.1, S.2.2.2.2.2.1, S.2.2.2.2.2.2.1, S.2.2.2.2.2.2.2.1, S.2.2.2.2.2.2.2.2.1, S.2.2.2.2.2.2.2.2.2.1, S.2.2.2.2.2.2.2.2.2.2.1, S.2.2.2.2.2.2.2.2.2.2.2.1, S.2.2.2.2.2.2.2.2.2.2.2.2.1, v, S.2.2.2.2.2.2.2.2.2.2.2.2.2.2)
abbrev xu_bl (S : SX) (v : Nat → Nat → Int64) : SX := (S.1, S.2.1, S.2.2.1, S.2.2.2.1, S.2.2.2.2.1, S.2.2.2.2.2.1, S.2.2.2.2.2.2.1, S.2.2.2.2.2.2.2.1, S.2.2.2.2.2.2.2.2.1, S.2.2.2.2.2.2.2.2.2.1, S.2.2.2.2.2.2.2.2.2.2.1, S.2.2.2.2.2.2.2.2.2.2.2.1, S.2.2.2.2.2.2.2.2.2.2.2.2.1, S.2.2.2.2.2.2.2.2.2.2.2.2.2.1, v)
def wX (ad : Nat → Nat) (cL cZ cO : ClassId) (S : SX) : va_W :=
  [(ad 0, .inr (0, [.long (x_m S), .long (x_dr S), .int (x_lo S), .int (x_fa S), .long (x_pr S), .long (x_ou S), .ref (ad 1), .ref (ad 2), .ref (ad 3), .ref (ad 4), .ref (ad 5), .ref (ad 6), .ref (ad 7), .int (x_bc S), .ref (ad 8)])),
   (ad 1, .inl (cL, 8, .inr (.inl (x_rg S)))), (ad 2, .inl (cZ, 6, .inl (x_kt S))), (ad 3, .inl (cL, 6, .inr (.inl (x_ks S)))), (ad 4, .inl (cL, 6, .inr (.inl (x_kn S)))),
   (ad 5, .inl (cZ, 4, .inl (x_st S))), (ad 6, .inl (cL, 4, .inr (.inl (x_cn S)))), (ad 7, .inl (cL, 4, .inr (.inl (x_mn S)))),
   (ad 8, .inl (cO, 10, .inr (.inr (.inr (.inr (fun j => if j < 10 then some (ad (9 + j)) else none)))))),
   (ad 9, .inl (cL, 6, .inr (.inl (x_bl S 0)))), (ad 10, .inl (cL, 6, .inr (.inl (x_bl S 1)))), (ad 11, .inl (cL, 6, .inr (.inl (x_bl S 2)))), (ad 12, .inl (cL, 6, .inr (.inl (x_bl S 3)))), (ad 13, .inl (cL, 6, .inr (.inl (x_bl S 4)))), (ad 14, .inl (cL, 6, .inr (.inl (x_bl S 5)))), (ad 15, .inl (cL, 6, .inr (.inl (x_bl S 6)))), (ad 16, .inl (cL, 6, .inr (.inl (x_bl S 7)))), (ad 17, .inl (cL, 6, .inr (.inl (x_bl S 8)))), (ad 18, .inl (cL, 6, .inr (.inl (x_bl S 9))))]
abbrev tyX (cL cZ cO : ClassId) : List (ClassId × FieldType) := [(cL, .long), (cZ, .boolean), (cO, .array .long)]
theorem wX_row {ad : Nat → Nat} {cL cZ cO : ClassId} {S : SX} {k : Nat} (h : k < 10) : (wX ad cL cZ cO S)[9 + k]? = some (ad (9 + k), .inl (cL, 6, .inr (.inl (x_bl S k)))) := by
  match k, h with
  | 0, _ => rfl
  | 1, _ => rfl
  | 2, _ => rfl
  | 3, _ => rfl
  | 4, _ => rfl
  | 5, _ => rfl
  | 6, _ => rfl
  | 7, _ => rfl
  | 8, _ => rfl
  | 9, _ => rfl
  | k + 10, h => omega
def up2 (f : Nat → Nat → Int64) (k i : Nat) (v : Int64) : Nat → Nat → Int64 := fun j => if j = k then vp_updL (f k) i v else f j
theorem wX_set {ad : Nat → Nat} {cL cZ cO : ClassId} {S : SX} {k : Nat} (h : k < 10) (i : Nat) (v : Int64) : (wX ad cL cZ cO S).set (9 + k) (ad (9 + k), .inl (cL, 6, .inr (.inl (vp_updL (x_bl S k) i v)))) = wX ad cL cZ cO (xu_bl S (up2 (x_bl S) k i v)) := by
  match k, h with
  | 0, _ => rfl
  | 1, _ => rfl
  | 2, _ => rfl
  | 3, _ => rfl
  | 4, _ => rfl
  | 5, _ => rfl
  | 6, _ => rfl
  | 7, _ => rfl
  | 8, _ => rfl
  | 9, _ => rfl
  | k + 10, h => omega
theorem wX_tab {ad : Nat → Nat} {k : Nat} (h : k < 10) : (fun j => if j < 10 then some (ad (9 + j)) else none) k = some (ad (9 + k)) := if_pos h
/-! THE REFERENCE: the state as one value (its two scratch rows apart); its cells -/
abbrev SM : Type := Int64 × Int64 × Int32 × Int32 × Int64 × Int64 × Int32 × (Nat → Int32) × (Nat → Int64) × (Nat → Int32) × (Nat → Int64) × (Nat → Int64) × (Nat → Int32) × (Nat → Int64) × (Nat → Int64) × Int32 × (Nat → Int64)
abbrev m_m (S : SM) : Int64 := S.1
abbrev m_dr (S : SM) : Int64 := S.2.1
abbrev m_lo (S : SM) : Int32 := S.2.2.1
abbrev m_fa (S : SM) : Int32 := S.2.2.2.1
abbrev m_pr (S : SM) : Int64 := S.2.2.2.2.1
abbrev m_ou (S : SM) : Int64 := S.2.2.2.2.2.1
abbrev m_dn (S : SM) : Int32 := S.2.2.2.2.2.2.1
abbrev m_wh (S : SM) : Nat → Int32 := S.2.2.2.2.2.2.2.1
abbrev m_wi (S : SM) : Nat → Int64 := S.2.2.2.2.2.2.2.2.1
abbrev m_kt (S : SM) : Nat → Int32 := S.2.2.2.2.2.2.2.2.2.1
abbrev m_ks (S : SM) : Nat → Int64 := S.2.2.2.2.2.2.2.2.2.2.1
abbrev m_kd (S : SM) : Nat → Int64 := S.2.2.2.2.2.2.2.2.2.2.2.1
abbrev m_st (S : SM) : Nat → Int32 := S.2.2.2.2.2.2.2.2.2.2.2.2.1
abbrev m_cn (S : SM) : Nat → Int64 := S.2.2.2.2.2.2.2.2.2.2.2.2.2.1
abbrev m_sd (S : SM) : Nat → Int64 := S.2.2.2.2.2.2.2.2.2.2.2.2.2.2.1
abbrev m_bc (S : SM) : Int32 := S.2.2.2.2.2.2.2.2.2.2.2.2.2.2.2.1
abbrev m_bw (S : SM) : Nat → Int64 := S.2.2.2.2.2.2.2.2.2.2.2.2.2.2.2.2
abbrev mu_m (S : SM) (v : Int64) : SM := (v, S.2)
abbrev mu_dr (S : SM) (v : Int64) : SM := (S.1, v, S.2.2)
abbrev mu_lo (S : SM) (v : Int32) : SM := (S.1, S.2.1, v, S.2.2.2)
abbrev mu_fa (S : SM) (v : Int32) : SM := (S.1, S.2.1, S.2.2.1, v, S.2.2.2.2)
abbrev mu_pr (S : SM) (v : Int64) : SM := (S.1, S.2.1, S.2.2.1, S.2.2.2.1, v, S.2.2.2.2.2)
abbrev mu_ou (S : SM) (v : Int64) : SM := (S.1, S.2.1, S.2.2.1, S.2.2.2.1, S.2.2.2.2.1, v, S.2.2.2.2.2.2)
abbrev mu_dn (S : SM) (v : Int32) : SM := (S.1, S.2.1, S.2.2.1, S.2.2.2.1, S.2.2.2.2.1, S.2.2.2.2.2.1, v, S.2.2.2.2.2.2.2)
abbrev mu_wh (S : SM) (v : Nat → Int32) : SM := (S.1, S.2.1, S.2.2.1, S.2.2.2.1, S.2.2.2.2.1, S.2.2.2.2.2.1, S.2.2.2.2.2.2.1, v, S.2.2.2.2.2.2.2.2)
abbrev mu_wi (S : SM) (v : Nat → Int64) : SM := (S.1, S.2.1, S.2.2.1, S.2.2.2.1, S.2.2.2.2.1, S.2.2.2.2.2.1, S.2.2.2.2.2.2.1, S.2.2.2.2.2.2.2.1, v, S.2.2.2.2.2.2.2.2.2)
abbrev mu_kt (S : SM) (v : Nat → Int32) : SM := (S.1, S.2.1, S.2.2.1, S.2.2.2.1, S.2.2.2.2.1, S.2.2.2.2.2.1, S.2.2.2.2.2.2.1, S.2.2.2.2.2.2.2.1, S.2.2.2.2.2.2.2.2.1, v, S.2.2.2.2.2.2.2.2.2.2)
abbrev mu_ks (S : SM) (v : Nat → Int64) : SM := (S.1, S.2.1, S.2.2.1, S.2.2.2.1, S.2.2.2.2.1, S.2.2.2.2.2.1, S.2.2.2.2.2.2.1, S.2.2.2.2.2.2.2.1, S.2.2.2.2.2.2.2.2.1, S.2.2.2.2.2.2.2.2.2.1, v, S.2.2.2.2.2.2.2.2.2.2.2)
abbrev mu_kd (S : SM) (v : Nat → Int64) : SM := (S.1, S.2.1, S.2.2.1, S.2.2.2.1, S.2.2.2.2.1, S.2.2.2.2.2.1, S.2.2.2.2.2.2.1, S.2.2.2.2.2.2.2.1, S.2.2.2.2.2.2.2.2.1, S.2.2.2.2.2.2.2.2.2.1, S.2.2.2.2.2.2.2.2.2.2.1, v, S.2.2.2.2.2.2.2.2.2.2.2.2)
abbrev mu_st (S : SM) (v : Nat → Int32) : SM := (S.1, S.2.1, S.2.2.1, S.2.2.2.1, S.2.2.2.2.1, S.2.2.2.2.2.1, S.2.2.2.2.2.2.1, S.2.2.2.2.2.2.2.1, S.2.2.2.2.2.2.2.2.1, S.2.2.2.2.2.2.2.2.2.1, S.2.2.2.2.2.2.2.2.2.2.1, S.2.2.2.2.2.2.2.2.2.2.2.1, v, S.2.2.2.2.2.2.2.2.2.2.2.2.2)
abbrev mu_cn (S : SM) (v : Nat → Int64) : SM := (S.1, S.2.1, S.2.2.1, S.2.2.2.1, S.2.2.2.2.1, S.2.2.2.2.2.1, S.2.2.2.2.2.2.1, S.2.2.2.2.2.2.2.1, S.2.2.2.2.2.2.2.2.1, S.2.2.2.2.2.2.2.2.2.1, S.2.2.2.2.2.2.2.2.2.2.1, S.2.2.2.2.2.2.2.2.2.2.2.1, S.2.2.2.2.2.2.2.2.2.2.2.2.1, v, S.2.2.2.2.2.2.2.2.2.2.2.2.2.2)
abbrev mu_sd (S : SM) (v : Nat → Int64) : SM := (S.1, S.2.1, S.2.2.1, S.2.2.2.1, S.2.2.2.2.1, S.2.2.2.2.2.1, S.2.2.2.2.2.2.1, S.2.2.2.2.2.2.2.1, S.2.2.2.2.2.2.2.2.1, S.2.2.2.2.2.2.2.2.2.1, S.2.2.2.2.2.2.2.2.2.2.1, S.2.2.2.2.2.2.2.2.2.2.2.1, S.2.2.2.2.2.2.2.2.2.2.2.2.1, S.2.2.2.2.2.2.2.2.2.2.2.2.2.1, v, S.2.2.2.2.2.2.2.2.2.2.2.2.2.2.2)
abbrev mu_bc (S : SM) (v : Int32) : SM := (S.1, S.2.1, S.2.2.1, S.2.2.2.1, S.2.2.2.2.1, S.2.2.2.2.2.1, S.2.2.2.2.2.2.1, S.2.2.2.2.2.2.2.1, S.2.2.2.2.2.2.2.2.1, S.2.2.2.2.2.2.2.2.2.1, S.2.2.2.2.2.2.2.2.2.2.1, S.2.2.2.2.2.2.2.2.2.2.2.1, S.2.2.2.2.2.2.2.2.2.2.2.2.1, S.2.2.2.2.2.2.2.2.2.2.2.2.2.1, S.2.2.2.2.2.2.2.2.2.2.2.2.2.2.1, v, S.2.2.2.2.2.2.2.2.2.2.2.2.2.2.2.2)
abbrev mu_bw (S : SM) (v : Nat → Int64) : SM := (S.1, S.2.1, S.2.2.1, S.2.2.2.1, S.2.2.2.2.1, S.2.2.2.2.2.1, S.2.2.2.2.2.2.1, S.2.2.2.2.2.2.2.1, S.2.2.2.2.2.2.2.2.1, S.2.2.2.2.2.2.2.2.2.1, S.2.2.2.2.2.2.2.2.2.2.1, S.2.2.2.2.2.2.2.2.2.2.2.1, S.2.2.2.2.2.2.2.2.2.2.2.2.1, S.2.2.2.2.2.2.2.2.2.2.2.2.2.1, S.2.2.2.2.2.2.2.2.2.2.2.2.2.2.1, S.2.2.2.2.2.2.2.2.2.2.2.2.2.2.2.1, v)
def wM (ad : Nat → Nat) (cL cZ cI : ClassId) (S : SM) (ro hd : Nat → Int64) : va_W :=
  [(ad 0, .inr (1, [.long (m_m S), .long (m_dr S), .int (m_lo S), .int (m_fa S), .long (m_pr S), .long (m_ou S), .int (m_dn S), .ref (ad 1), .ref (ad 2), .ref (ad 3), .ref (ad 4), .ref (ad 5), .ref (ad 6), .ref (ad 7), .ref (ad 8), .int (m_bc S), .ref (ad 9), .ref (ad 10), .ref (ad 11)])),
   (ad 1, .inl (cI, 512, .inl (m_wh S))), (ad 2, .inl (cL, 512, .inr (.inl (m_wi S)))), (ad 3, .inl (cZ, 6, .inl (m_kt S))), (ad 4, .inl (cL, 6, .inr (.inl (m_ks S)))), (ad 5, .inl (cL, 6, .inr (.inl (m_kd S)))),
   (ad 6, .inl (cZ, 4, .inl (m_st S))), (ad 7, .inl (cL, 4, .inr (.inl (m_cn S)))), (ad 8, .inl (cL, 4, .inr (.inl (m_sd S)))), (ad 9, .inl (cL, 60, .inr (.inl (m_bw S)))), (ad 10, .inl (cL, 9, .inr (.inl ro))), (ad 11, .inl (cL, 8, .inr (.inl hd)))]
abbrev tyM (cL cZ cI : ClassId) : List (ClassId × FieldType) := [(cL, .long), (cZ, .boolean), (cI, .int)]
abbrev SMr : Type := SM × (Nat → Int64) × (Nat → Int64)
abbrev wMr (ad : Nat → Nat) (cL cZ cI : ClassId) (u : SMr) : va_W := wM ad cL cZ cI u.1 u.2.1 u.2.2
