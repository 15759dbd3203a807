section
-- ===== PART A: goes FIRST, ahead of the names: the tables' words, and 'selects' of the private methods out of them =====
/-- a private method of a class that the tables say can be made, by its rows of tables_1 -/
def lw_okq (q : MethodName × Nat) : Prop := (q.1.cls ≠ "java/lang/invoke/MethodHandle" ∧ q.1.cls ≠ "java/lang/invoke/VarHandle") ∧ Cond.instantiable q.1.cls q.2 ∈ tables_1 ∧ Cond.privateMethod q.1 ∈ tables_1 ∧ Cond.instanceMethod q.1 ∈ tables_1
theorem lw_p0 : lw_okq (⟨"RegisterSealer", "isOpen", "(I)Z"⟩, 15) := ⟨⟨by decide +kernel, by decide +kernel⟩, List.mem_of_getElem? (i := 5) (by decide +kernel), List.mem_of_getElem? (i := 82) (by decide +kernel), List.mem_of_getElem? (i := 83) (by decide +kernel)⟩
theorem lw_p1 : lw_okq (⟨"RegisterSealer", "digestNow", "(I)J"⟩, 15) := ⟨⟨by decide +kernel, by decide +kernel⟩, List.mem_of_getElem? (i := 5) (by decide +kernel), List.mem_of_getElem? (i := 102) (by decide +kernel), List.mem_of_getElem? (i := 103) (by decide +kernel)⟩
theorem lw_p2 : lw_okq (⟨"RegisterSealer", "draw", "()J"⟩, 15) := ⟨⟨by decide +kernel, by decide +kernel⟩, List.mem_of_getElem? (i := 5) (by decide +kernel), List.mem_of_getElem? (i := 119) (by decide +kernel), List.mem_of_getElem? (i := 120) (by decide +kernel)⟩
theorem lw_p3 : lw_okq (⟨"RegisterSealer", "isKey", "(I)Z"⟩, 15) := ⟨⟨by decide +kernel, by decide +kernel⟩, List.mem_of_getElem? (i := 5) (by decide +kernel), List.mem_of_getElem? (i := 127) (by decide +kernel), List.mem_of_getElem? (i := 128) (by decide +kernel)⟩
theorem lw_p4 : lw_okq (⟨"RegisterSealer", "isSession", "(I)Z"⟩, 15) := ⟨⟨by decide +kernel, by decide +kernel⟩, List.mem_of_getElem? (i := 5) (by decide +kernel), List.mem_of_getElem? (i := 143) (by decide +kernel), List.mem_of_getElem? (i := 144) (by decide +kernel)⟩
theorem lw_p5 : lw_okq (⟨"RegisterSealer", "isBlob", "(I)Z"⟩, 15) := ⟨⟨by decide +kernel, by decide +kernel⟩, List.mem_of_getElem? (i := 5) (by decide +kernel), List.mem_of_getElem? (i := 155) (by decide +kernel), List.mem_of_getElem? (i := 156) (by decide +kernel)⟩
theorem lw_p6 : lw_okq (⟨"RegisterSealer", "rightProof", "(JIIJ)J"⟩, 15) := ⟨⟨by decide +kernel, by decide +kernel⟩, List.mem_of_getElem? (i := 5) (by decide +kernel), List.mem_of_getElem? (i := 159) (by decide +kernel), List.mem_of_getElem? (i := 160) (by decide +kernel)⟩
theorem lw_p7 : lw_okq (⟨"RegisterSealer", "isLocked", "()Z"⟩, 15) := ⟨⟨by decide +kernel, by decide +kernel⟩, List.mem_of_getElem? (i := 5) (by decide +kernel), List.mem_of_getElem? (i := 179) (by decide +kernel), List.mem_of_getElem? (i := 180) (by decide +kernel)⟩
theorem lw_p8 : lw_okq (⟨"RegisterSealer", "passesProving", "(JIIJ)Z"⟩, 15) := ⟨⟨by decide +kernel, by decide +kernel⟩, List.mem_of_getElem? (i := 5) (by decide +kernel), List.mem_of_getElem? (i := 183) (by decide +kernel), List.mem_of_getElem? (i := 184) (by decide +kernel)⟩
theorem lw_p9 : lw_okq (⟨"RegisterSealer", "addBlob", "(JIJ)I"⟩, 15) := ⟨⟨by decide +kernel, by decide +kernel⟩, List.mem_of_getElem? (i := 5) (by decide +kernel), List.mem_of_getElem? (i := 187) (by decide +kernel), List.mem_of_getElem? (i := 188) (by decide +kernel)⟩
theorem lw_p10 : lw_okq (⟨"RegisterSealer", "cover", "(JJ)J"⟩, 15) := ⟨⟨by decide +kernel, by decide +kernel⟩, List.mem_of_getElem? (i := 5) (by decide +kernel), List.mem_of_getElem? (i := 191) (by decide +kernel), List.mem_of_getElem? (i := 192) (by decide +kernel)⟩
theorem lw_p11 : lw_okq (⟨"RegisterSealer", "sealOf", "([J)J"⟩, 15) := ⟨⟨by decide +kernel, by decide +kernel⟩, List.mem_of_getElem? (i := 5) (by decide +kernel), List.mem_of_getElem? (i := 196) (by decide +kernel), List.mem_of_getElem? (i := 197) (by decide +kernel)⟩
theorem lw_p12 : lw_okq (⟨"RegisterSealer", "leastKeyNamed", "(J)I"⟩, 15) := ⟨⟨by decide +kernel, by decide +kernel⟩, List.mem_of_getElem? (i := 5) (by decide +kernel), List.mem_of_getElem? (i := 204) (by decide +kernel), List.mem_of_getElem? (i := 205) (by decide +kernel)⟩
theorem lw_p13 : lw_okq (⟨"RegisterSealer", "isPolicyMet", "([J)Z"⟩, 15) := ⟨⟨by decide +kernel, by decide +kernel⟩, List.mem_of_getElem? (i := 5) (by decide +kernel), List.mem_of_getElem? (i := 208) (by decide +kernel), List.mem_of_getElem? (i := 209) (by decide +kernel)⟩
theorem lw_p14 : lw_okq (⟨"RegisterSealer", "signature", "(JIJ)J"⟩, 15) := ⟨⟨by decide +kernel, by decide +kernel⟩, List.mem_of_getElem? (i := 5) (by decide +kernel), List.mem_of_getElem? (i := 216) (by decide +kernel), List.mem_of_getElem? (i := 217) (by decide +kernel)⟩
theorem lw_p15 : lw_okq (⟨"RegisterSealer", "isBlobWord", "(II)Z"⟩, 15) := ⟨⟨by decide +kernel, by decide +kernel⟩, List.mem_of_getElem? (i := 5) (by decide +kernel), List.mem_of_getElem? (i := 228) (by decide +kernel), List.mem_of_getElem? (i := 229) (by decide +kernel)⟩
def lw_privs_1 : List (MethodName × Nat) := [(⟨"RegisterSealer", "isOpen", "(I)Z"⟩, 15), (⟨"RegisterSealer", "digestNow", "(I)J"⟩, 15), (⟨"RegisterSealer", "draw", "()J"⟩, 15), (⟨"RegisterSealer", "isKey", "(I)Z"⟩, 15), (⟨"RegisterSealer", "isSession", "(I)Z"⟩, 15), (⟨"RegisterSealer", "isBlob", "(I)Z"⟩, 15), (⟨"RegisterSealer", "rightProof", "(JIIJ)J"⟩, 15), (⟨"RegisterSealer", "isLocked", "()Z"⟩, 15), (⟨"RegisterSealer", "passesProving", "(JIIJ)Z"⟩, 15), (⟨"RegisterSealer", "addBlob", "(JIJ)I"⟩, 15), (⟨"RegisterSealer", "cover", "(JJ)J"⟩, 15), (⟨"RegisterSealer", "sealOf", "([J)J"⟩, 15), (⟨"RegisterSealer", "leastKeyNamed", "(J)I"⟩, 15), (⟨"RegisterSealer", "isPolicyMet", "([J)Z"⟩, 15), (⟨"RegisterSealer", "signature", "(JIJ)J"⟩, 15), (⟨"RegisterSealer", "isBlobWord", "(II)Z"⟩, 15)]
theorem lw_r1 : ∀ q ∈ lw_privs_1, lw_okq q := List.forall_mem_cons.mpr ⟨lw_p0, List.forall_mem_cons.mpr ⟨lw_p1, List.forall_mem_cons.mpr ⟨lw_p2, List.forall_mem_cons.mpr ⟨lw_p3, List.forall_mem_cons.mpr ⟨lw_p4, List.forall_mem_cons.mpr ⟨lw_p5, List.forall_mem_cons.mpr ⟨lw_p6, List.forall_mem_cons.mpr ⟨lw_p7, List.forall_mem_cons.mpr ⟨lw_p8, List.forall_mem_cons.mpr ⟨lw_p9, List.forall_mem_cons.mpr ⟨lw_p10, List.forall_mem_cons.mpr ⟨lw_p11, List.forall_mem_cons.mpr ⟨lw_p12, List.forall_mem_cons.mpr ⟨lw_p13, List.forall_mem_cons.mpr ⟨lw_p14, List.forall_mem_cons.mpr ⟨lw_p15, fun _ h => absurd h List.not_mem_nil⟩⟩⟩⟩⟩⟩⟩⟩⟩⟩⟩⟩⟩⟩⟩⟩
theorem lw_p16 : lw_okq (⟨"RegisterSealerModel", "hash", "(I)J"⟩, 19) := ⟨⟨by decide +kernel, by decide +kernel⟩, List.mem_of_getElem? (i := 247) (by decide +kernel), List.mem_of_getElem? (i := 253) (by decide +kernel), List.mem_of_getElem? (i := 254) (by decide +kernel)⟩
theorem lw_p17 : lw_okq (⟨"RegisterSealerModel", "note", "(IIJ)Z"⟩, 19) := ⟨⟨by decide +kernel, by decide +kernel⟩, List.mem_of_getElem? (i := 247) (by decide +kernel), List.mem_of_getElem? (i := 325) (by decide +kernel), List.mem_of_getElem? (i := 326) (by decide +kernel)⟩
theorem lw_p18 : lw_okq (⟨"RegisterSealerModel", "folded", "(I)J"⟩, 19) := ⟨⟨by decide +kernel, by decide +kernel⟩, List.mem_of_getElem? (i := 247) (by decide +kernel), List.mem_of_getElem? (i := 337) (by decide +kernel), List.mem_of_getElem? (i := 338) (by decide +kernel)⟩
theorem lw_p19 : lw_okq (⟨"RegisterSealerModel", "two", "(JJ)J"⟩, 19) := ⟨⟨by decide +kernel, by decide +kernel⟩, List.mem_of_getElem? (i := 247) (by decide +kernel), List.mem_of_getElem? (i := 341) (by decide +kernel), List.mem_of_getElem? (i := 342) (by decide +kernel)⟩
theorem lw_p20 : lw_okq (⟨"RegisterSealerModel", "digestOf", "(I)J"⟩, 19) := ⟨⟨by decide +kernel, by decide +kernel⟩, List.mem_of_getElem? (i := 247) (by decide +kernel), List.mem_of_getElem? (i := 353) (by decide +kernel), List.mem_of_getElem? (i := 354) (by decide +kernel)⟩
theorem lw_p21 : lw_okq (⟨"RegisterSealerModel", "hasKey", "(I)Z"⟩, 19) := ⟨⟨by decide +kernel, by decide +kernel⟩, List.mem_of_getElem? (i := 247) (by decide +kernel), List.mem_of_getElem? (i := 365) (by decide +kernel), List.mem_of_getElem? (i := 366) (by decide +kernel)⟩
theorem lw_p22 : lw_okq (⟨"RegisterSealerModel", "nameOf", "(I)J"⟩, 19) := ⟨⟨by decide +kernel, by decide +kernel⟩, List.mem_of_getElem? (i := 247) (by decide +kernel), List.mem_of_getElem? (i := 373) (by decide +kernel), List.mem_of_getElem? (i := 374) (by decide +kernel)⟩
theorem lw_p23 : lw_okq (⟨"RegisterSealerModel", "word", "(J)J"⟩, 19) := ⟨⟨by decide +kernel, by decide +kernel⟩, List.mem_of_getElem? (i := 247) (by decide +kernel), List.mem_of_getElem? (i := 377) (by decide +kernel), List.mem_of_getElem? (i := 378) (by decide +kernel)⟩
theorem lw_p24 : lw_okq (⟨"RegisterSealerModel", "hasSession", "(I)Z"⟩, 19) := ⟨⟨by decide +kernel, by decide +kernel⟩, List.mem_of_getElem? (i := 247) (by decide +kernel), List.mem_of_getElem? (i := 389) (by decide +kernel), List.mem_of_getElem? (i := 390) (by decide +kernel)⟩
theorem lw_p25 : lw_okq (⟨"RegisterSealerModel", "hasBlob", "(I)Z"⟩, 19) := ⟨⟨by decide +kernel, by decide +kernel⟩, List.mem_of_getElem? (i := 247) (by decide +kernel), List.mem_of_getElem? (i := 401) (by decide +kernel), List.mem_of_getElem? (i := 402) (by decide +kernel)⟩
theorem lw_p26 : lw_okq (⟨"RegisterSealerModel", "rightFor", "(JIIJ)J"⟩, 19) := ⟨⟨by decide +kernel, by decide +kernel⟩, List.mem_of_getElem? (i := 247) (by decide +kernel), List.mem_of_getElem? (i := 405) (by decide +kernel), List.mem_of_getElem? (i := 406) (by decide +kernel)⟩
theorem lw_p27 : lw_okq (⟨"RegisterSealerModel", "code", "(JI)J"⟩, 19) := ⟨⟨by decide +kernel, by decide +kernel⟩, List.mem_of_getElem? (i := 247) (by decide +kernel), List.mem_of_getElem? (i := 409) (by decide +kernel), List.mem_of_getElem? (i := 410) (by decide +kernel)⟩
theorem lw_p28 : lw_okq (⟨"RegisterSealerModel", "proved", "(IIIJ)Z"⟩, 19) := ⟨⟨by decide +kernel, by decide +kernel⟩, List.mem_of_getElem? (i := 247) (by decide +kernel), List.mem_of_getElem? (i := 423) (by decide +kernel), List.mem_of_getElem? (i := 424) (by decide +kernel)⟩
theorem lw_p29 : lw_okq (⟨"RegisterSealerModel", "veil", "(JJ)J"⟩, 19) := ⟨⟨by decide +kernel, by decide +kernel⟩, List.mem_of_getElem? (i := 247) (by decide +kernel), List.mem_of_getElem? (i := 427) (by decide +kernel), List.mem_of_getElem? (i := 428) (by decide +kernel)⟩
theorem lw_p30 : lw_okq (⟨"RegisterSealerModel", "sealOf", "(I)J"⟩, 19) := ⟨⟨by decide +kernel, by decide +kernel⟩, List.mem_of_getElem? (i := 247) (by decide +kernel), List.mem_of_getElem? (i := 431) (by decide +kernel), List.mem_of_getElem? (i := 432) (by decide +kernel)⟩
def lw_privs_2 : List (MethodName × Nat) := [(⟨"RegisterSealerModel", "hash", "(I)J"⟩, 19), (⟨"RegisterSealerModel", "note", "(IIJ)Z"⟩, 19), (⟨"RegisterSealerModel", "folded", "(I)J"⟩, 19), (⟨"RegisterSealerModel", "two", "(JJ)J"⟩, 19), (⟨"RegisterSealerModel", "digestOf", "(I)J"⟩, 19), (⟨"RegisterSealerModel", "hasKey", "(I)Z"⟩, 19), (⟨"RegisterSealerModel", "nameOf", "(I)J"⟩, 19), (⟨"RegisterSealerModel", "word", "(J)J"⟩, 19), (⟨"RegisterSealerModel", "hasSession", "(I)Z"⟩, 19), (⟨"RegisterSealerModel", "hasBlob", "(I)Z"⟩, 19), (⟨"RegisterSealerModel", "rightFor", "(JIIJ)J"⟩, 19), (⟨"RegisterSealerModel", "code", "(JI)J"⟩, 19), (⟨"RegisterSealerModel", "proved", "(IIIJ)Z"⟩, 19), (⟨"RegisterSealerModel", "veil", "(JJ)J"⟩, 19), (⟨"RegisterSealerModel", "sealOf", "(I)J"⟩, 19)]
theorem lw_r2 : ∀ q ∈ lw_privs_2, lw_okq q := List.forall_mem_cons.mpr ⟨lw_p16, List.forall_mem_cons.mpr ⟨lw_p17, List.forall_mem_cons.mpr ⟨lw_p18, List.forall_mem_cons.mpr ⟨lw_p19, List.forall_mem_cons.mpr ⟨lw_p20, List.forall_mem_cons.mpr ⟨lw_p21, List.forall_mem_cons.mpr ⟨lw_p22, List.forall_mem_cons.mpr ⟨lw_p23, List.forall_mem_cons.mpr ⟨lw_p24, List.forall_mem_cons.mpr ⟨lw_p25, List.forall_mem_cons.mpr ⟨lw_p26, List.forall_mem_cons.mpr ⟨lw_p27, List.forall_mem_cons.mpr ⟨lw_p28, List.forall_mem_cons.mpr ⟨lw_p29, List.forall_mem_cons.mpr ⟨lw_p30, fun _ h => absurd h List.not_mem_nil⟩⟩⟩⟩⟩⟩⟩⟩⟩⟩⟩⟩⟩⟩⟩
def lw_privs : List (MethodName × Nat) := lw_privs_1 ++ (lw_privs_2)
def lw_tbl : List Cond := k2_sels lw_privs ++ tables_1
theorem lw_privs_ok : ∀ q ∈ lw_privs, lw_okq q := by
  show ∀ q ∈ lw_privs_1 ++ (lw_privs_2), lw_okq q
  exact List.forall_mem_append.mpr ⟨lw_r1, lw_r2⟩
end
section
/-- what the tables say of a table of rows (02.names speaks of it; the kit's rows do not have it) -/
def va_AOA (ty : FieldType) (U : State) : Prop := (Cond.arrayOver (.array ty)).before #[] U = true
theorem va_AOA.of {ty : FieldType} {A : Array Value} {U : State} (h : (Cond.arrayOver (.array ty)).before A U = true) : va_AOA ty U := h
theorem va_AOA.use {ty : FieldType} {A : Array Value} {U : State} (h : va_AOA ty U) : (Cond.arrayOver (.array ty)).before A U = true := h
end
section
/-! ===== BEGIN words of one list among another's, by their places ===== -/
theorem goodIn_r {big : List Cond} (ws : List Cond) (ps : List Nat) (hp : ws = ps.filterMap (fun i => big[i]?)) (h : ws.all goodWord = true) : GoodIn big ws := by
  intro w hw
  have h1 := List.all_eq_true.mp h w hw
  rw [hp] at hw
  obtain ⟨i, -, hi⟩ := List.mem_filterMap.mp hw
  have hm : w ∈ big := by first | exact List.mem_of_getElem? hi | exact List.getElem?_mem hi
  exact ⟨hm, good_of_word h1⟩
theorem goodIn_app {big a b : List Cond} (ha : GoodIn big a) (hb : GoodIn big b) : GoodIn big (a ++ b) := fun w h => (List.mem_append.mp h).elim (ha w) (hb w)
theorem goodIn_ca {big a b : List Cond} {c : Cond} (ha : GoodIn big (c :: a)) (hb : GoodIn big b) : GoodIn big (c :: (a ++ b)) := fun w h => (List.mem_cons.mp h).elim (fun e => ha w (List.mem_cons.mpr (Or.inl e))) (fun h => (List.mem_append.mp h).elim (fun h => ha w (List.mem_cons.mpr (Or.inr h))) (hb w))
theorem goodIn_sub {big ws : List Cond} (hm : ∀ w ∈ ws, w ∈ big) (h : ws.all goodWord = true) : GoodIn big ws := fun w hw => ⟨hm w hw, good_of_word (List.all_eq_true.mp h w hw)⟩
/-! ===== END ===== -/

/-! ===== BEGIN new T[n][m]: the outer array a place, the inner ones among the pooled ===== -/
/-- f, but v at every address of l -/
def vr_up {α : Type} (f : Nat → α) (l : List Nat) (v : α) : Nat → α := fun a => if a ∈ l then v else f a
theorem vr_up_in {α : Type} {f : Nat → α} {l : List Nat} {v : α} {a : Nat} (h : a ∈ l) : vr_up f l v a = v := if_pos h
theorem vr_up_ne {α : Type} {f : Nat → α} {l : List Nat} {v : α} {a : Nat} (h : a ∉ l) : vr_up f l v a = f a := if_neg h
theorem vr_rows {L l : List Nat} {f : Nat → va_E} {e : va_E} (h : ∀ a, a ∈ l → a ∉ L) : va_pl L f ++ l.map (fun a => (a, e)) = va_pl (L ++ l) (vr_up f l e) := by
  unfold va_pl
  rw [List.map_append]
  congr 1
  · apply List.map_congr_left
    intro a ha
    rw [vr_up_ne (fun q => h a q ha)]
  · apply List.map_congr_left
    intro a ha
    rw [vr_up_in ha]
theorem vr_lay {X rows : va_W} {x : Nat × va_E} {pl : va_W} {D : va_G} {cl : List vw_C} {H : Heap} (hP : va_P D cl (((X ++ pl) ++ [x]) ++ rows) H) : va_P D cl ((X ++ [x]) ++ (pl ++ rows)) H := by
  rw [List.append_assoc (X ++ pl)] at hP
  have h := va_P.swap hP
  rw [← List.append_assoc X] at h
  have h2 := va_P.swap h
  rw [List.append_assoc (X ++ [x])] at h2
  exact h2
theorem vr_layD {X rows : va_W} {x : Nat × va_E} {pl : va_W} {A : Nat → Prop} (hD : va_D A (((X ++ pl) ++ [x]) ++ rows)) : va_D A ((X ++ [x]) ++ (pl ++ rows)) := by
  rw [List.append_assoc (X ++ pl)] at hD
  have h := va_D.swap hD
  rw [← List.append_assoc X] at h
  have h2 := va_D.swap h
  rw [List.append_assoc (X ++ [x])] at h2
  exact h2
theorem vr_outer (c : ClassId) (N h0 : Nat) : ∀ i : Nat, Jvm.Free.Multi.outerC c N h0 i = arrV c N (fun j => va_rf (if j < i then some (h0 + 1 + j) else none))
  | 0 => by
    show ({ cls := c, slots := Array.replicate N .null, vm := .none } : Cell) = _
    rw [arrV_new]
    refine congrArg (arrV c N) (funext fun j => ?_)
    simp [va_rf]
  | i + 1 => by
    show (Jvm.Free.Multi.outerC c N h0 i).setSlot i (.ref (h0 + 1 + i)) = _
    rw [vr_outer c N h0 i, arrV_store]
    refine congrArg (arrV c N) (funext fun j => ?_)
    by_cases e : j = i
    · subst e
      simp [updV, va_rf]
    · by_cases h : j < i
      · simp [updV, e, h, Nat.lt_succ_of_lt h]
      · simp [updV, e, h, show ¬ j < i + 1 by omega]
section VGM
variable {p : Program} {l : Launch} {e : Env} {R : Room} {s : State} {m : MethodId} {args : Array Value} {below : List Frame} {meth : Method} {c : Code} {H : Heap} {locs : List Loc} {cells slots : Nat} {Q : State → Prop}
variable {cc : ByteArray} {pc : Nat} {ls : Array Slot} {rest : List Value} {D : va_G} {cl : List vw_C} {A : Nat → Prop} {a : Nat} {tys : List (ClassId × FieldType)} {ws : va_W} {H0 : Heap}
theorem va_mna {X : va_W} {L : List Nat} {f : Nat → va_E} {cc : ByteArray} (hexec : p.tables.exec = Jvm.exec) (hb : c.code = cc) {own : String} {index : Nat} {ty : FieldType} {cy : ClassId} (hown : s.vm.findClass own = some m.cls) (hclink : (Cond.classLink own index ("[" ++ (FieldType.array ty).toString)).before args s = true) (hover : va_AOA ty s) (harr : (Cond.arrayClass ty).before args s = true) (hcy : s.vm.findClass (FieldType.array ty).toString = some cy)
    (hK : va_K D cl tys s) (hP : va_P D cl (X ++ va_pl L f) H) (hD : va_D A (X ++ va_pl L f)) (hS : va_S A H0 H locs) (hA : ∀ q, H0.size ≤ q → A q) {n k : Int32} {N' K' : Nat} {z : vp_A} (hn : ¬ n < 0) (hk : ¬ k < 0) (hN : n.toNatClampNeg = N') (hM : k.toNatClampNeg = K')
    (hb1 : N' * 4 ≤ 536870912) (hb2 : K' * componentBytes ty ≤ 536870912) (hb3 : K' ≤ 536870912) (hdf : fits ty (defaultValue ty) = true) (hdd : (defaultValue ty).isDefault = true) (hcells : cells + (1 + N') ≤ R.cells) (hslots : slots + (N' + N' * K') ≤ R.slots) (hz : ∀ c : ClassId, Jvm.Free.Multi.innerC c K' (defaultValue ty) = vp_cell c z) (hdg : decode cc pc = .ok (.multianewarray index 2, 4))
    (kk : ∀ (q : Nat) (r : Nat → Nat) (cA : ClassId) (H1 : Heap), (∀ i j : Nat, i < N' → j < N' → r i = r j → i = j) → (∀ i : Nat, i < N' → r i ∉ L) → va_K D cl (tys ++ [(cA, .array ty)]) s →
      va_P D cl ((X ++ [(q, .inl (cA, N', .inr (.inr (.inr (.inr (fun i => if i < N' then some (r i) else none))))))]) ++ va_pl (L ++ (List.range N').map r) (vr_up f ((List.range N').map r) (.inl (cy, z)))) H1 → va_D A ((X ++ [(q, .inl (cA, N', .inr (.inr (.inr (.inr (fun i => if i < N' then some (r i) else none))))))]) ++ va_pl (L ++ (List.range N').map r) (vr_up f ((List.range N').map r) (.inl (cy, z)))) → va_S A H0 H1 locs →
      W p l e R s m args below meth c H1 locs (cells + 1 + N') (slots + N' + N' * K') Q (F0 m (pc + 4) ls (.ref q :: rest))) : W p l e R s m args below meth c H locs cells slots Q (F0 m pc ls (.int k :: .int n :: rest)) := by
  subst hN
  subst hM
  intro T hT Xs
  obtain ⟨vm₁, cA, comp, -, fA, fC, hO, -, X', step⟩ := Xs.multianewarray2F hexec hown hclink (va_AOA.use hover) harr (g := F0 m pc ls (.int k :: .int n :: rest)) rfl (by rw [hb]; exact hdg) rfl hn hk hb1 hb2 hb3 hdf hdd hcells hslots
  have ec : some cy = some comp := hcy.symm.trans fC
  cases ec
  generalize hF : Jvm.Free.Multi.fill (T.setVm vm₁) cA cy n.toNatClampNeg k.toNatClampNeg (defaultValue ty) n.toNatClampNeg = F at X' step
  have hTh : (T.setVm vm₁).heap = H := hT
  obtain ⟨f1, f2, -, -⟩ := Jvm.Free.Multi.fill_facts (T.setVm vm₁) cA cy n.toNatClampNeg k.toNatClampNeg (defaultValue ty) n.toNatClampNeg
  rw [hF, hTh] at f1 f2
  have hold : ∀ x : Nat, x < H.size → F.heap[x]? = H[x]? := fun x hx => by
    have := Jvm.Free.Multi.fill_old (T.setVm vm₁) cA cy n.toNatClampNeg k.toNatClampNeg (defaultValue ty) (a := x) (by rw [hTh]; exact hx) n.toNatClampNeg
    rw [hF, hTh] at this
    exact this
  have hrow : ∀ j : Nat, j < n.toNatClampNeg → F.heap[H.size + 1 + j]? = some (vp_cell cy z) := fun j hj => by
    have := Jvm.Free.Multi.fill_inner (T.setVm vm₁) cA cy n.toNatClampNeg k.toNatClampNeg (defaultValue ty) n.toNatClampNeg j hj
    rw [hF, hTh, hz] at this
    exact this
  have hout : Jvm.Free.Multi.outerC cA n.toNatClampNeg H.size n.toNatClampNeg = vp_cell cA (n.toNatClampNeg, .inr (.inr (.inr (.inr (fun i => if i < n.toNatClampNeg then some (H.size + 1 + i) else none))))) := by
    rw [vp_cell_q]
    exact vr_outer cA n.toNatClampNeg H.size n.toNatClampNeg
  rw [hout] at f2
  have hlt : ∀ a, a ∈ L → a < H.size := fun a ha => by
    obtain ⟨k9, hk9⟩ := va_pl_get (X := X) (f := f) ha
    exact (hP k9 _ hk9).lt
  have hnl : ∀ i : Nat, i < n.toNatClampNeg → H.size + 1 + i ∉ L := fun i _ h => by
    have := hlt _ h
    omega
  have hnm : ∀ a, a ∈ (List.range n.toNatClampNeg).map (fun i => H.size + 1 + i) → a ∉ L := fun a ha h => by
    obtain ⟨i, -, rfl⟩ := List.mem_map.mp ha
    have := hlt _ h
    omega
  have hP0 : va_P D cl (X ++ va_pl L f) F.heap := hP.kept (fun k9 x hx => hold x.1 ((hP k9 x hx).lt))
  have hP1 : va_P D cl ((X ++ va_pl L f) ++ [(H.size, .inl (cA, n.toNatClampNeg, .inr (.inr (.inr (.inr (fun i => if i < n.toNatClampNeg then some (H.size + 1 + i) else none))))))]) F.heap := hP0.app (fun k9 x hx => by
    have h0 : k9 < 1 := (List.getElem?_eq_some_iff.mp hx).1
    rw [show k9 = 0 by omega] at hx
    cases hx
    exact f2)
  have hP2 : va_P D cl (((X ++ va_pl L f) ++ [(H.size, .inl (cA, n.toNatClampNeg, .inr (.inr (.inr (.inr (fun i => if i < n.toNatClampNeg then some (H.size + 1 + i) else none))))))]) ++ ((List.range n.toNatClampNeg).map (fun i => H.size + 1 + i)).map (fun a => (a, .inl (cy, z)))) F.heap := hP1.app (fun k9 x hx => by
    obtain ⟨a, ha, rfl⟩ := List.mem_map.mp (List.mem_of_getElem? hx)
    obtain ⟨i, hi, rfl⟩ := List.mem_map.mp ha
    exact hrow i (List.mem_range.mp hi))
  have hD2 : va_D A (((X ++ va_pl L f) ++ [(H.size, .inl (cA, n.toNatClampNeg, .inr (.inr (.inr (.inr (fun i => if i < n.toNatClampNeg then some (H.size + 1 + i) else none))))))]) ++ ((List.range n.toNatClampNeg).map (fun i => H.size + 1 + i)).map (fun a => (a, .inl (cy, z)))) := by
    have hD1 := hD.push (e := .inl (cA, n.toNatClampNeg, .inr (.inr (.inr (.inr (fun i => if i < n.toNatClampNeg then some (H.size + 1 + i) else none)))))) hP rfl (hA _ hS.1)
    generalize hW1 : (X ++ va_pl L f) ++ [(H.size, .inl (cA, n.toNatClampNeg, .inr (.inr (.inr (.inr (fun i => if i < n.toNatClampNeg then some (H.size + 1 + i) else none))))))] = W1 at hD1 hP1 ⊢
    have hle : ∀ (k9 : Nat) (x : Nat × va_E), W1[k9]? = some x → x.1 ≤ H.size := fun k9 x hx => by
      rw [← hW1] at hx
      by_cases hl : k9 < (X ++ va_pl L f).length
      · rw [List.getElem?_append_left hl] at hx
        exact Nat.le_of_lt ((hP k9 x hx).lt)
      · rw [List.getElem?_append_right (by omega)] at hx
        have h0 : k9 - (X ++ va_pl L f).length < 1 := (List.getElem?_eq_some_iff.mp hx).1
        rw [show k9 - (X ++ va_pl L f).length = 0 by omega] at hx
        cases hx
        exact Nat.le_refl _
    have hr : ∀ (k9 : Nat) (x : Nat × va_E), (((List.range n.toNatClampNeg).map (fun i => H.size + 1 + i)).map (fun a => ((a, .inl (cy, z)) : Nat × va_E)))[k9]? = some x → x.1 = H.size + 1 + k9 := fun k9 x hx => by
      rw [List.getElem?_map, List.getElem?_map] at hx
      by_cases h9 : k9 < n.toNatClampNeg
      · rw [List.getElem?_range h9] at hx
        cases hx
        rfl
      · have hn0 : (List.range n.toNatClampNeg)[k9]? = none := List.getElem?_eq_none (by rw [List.length_range]; omega)
        rw [hn0] at hx
        cases hx
    refine ⟨fun i j x y hi hj hxy => ?_, fun k9 x hx => ?_⟩
    · by_cases h1 : i < W1.length <;> by_cases h2 : j < W1.length
      · rw [List.getElem?_append_left h1] at hi
        rw [List.getElem?_append_left h2] at hj
        exact hD1.1 i j x y hi hj hxy
      · rw [List.getElem?_append_left h1] at hi
        rw [List.getElem?_append_right (by omega)] at hj
        have := hle _ _ hi
        have := hr _ _ hj
        omega
      · rw [List.getElem?_append_right (by omega)] at hi
        rw [List.getElem?_append_left h2] at hj
        have := hle _ _ hj
        have := hr _ _ hi
        omega
      · rw [List.getElem?_append_right (by omega)] at hi hj
        have := hr _ _ hi
        have := hr _ _ hj
        omega
    · by_cases h1 : k9 < W1.length
      · rw [List.getElem?_append_left h1] at hx
        exact hD1.2 k9 x hx
      · rw [List.getElem?_append_right (by omega)] at hx
        have := hr _ _ hx
        exact hA _ (by have := hS.1; omega)
  have hAr : ArrOfT s cA (.array ty) := fun N9 z9 => by
    obtain ⟨-, k9, hk9, cm9, hkk9⟩ := (hO 0 0 0).1
    exact ⟨(fun q hq => by cases hq), k9, hk9, cm9, hkk9⟩
  have hK2 : va_K D cl (tys ++ [(cA, .array ty)]) s := ⟨hK.1, fun k9 x hx => by
    by_cases hl : k9 < tys.length
    · rw [List.getElem?_append_left hl] at hx
      exact hK.2 k9 x hx
    · rw [List.getElem?_append_right (by omega)] at hx
      have h0 : k9 - tys.length < 1 := (List.getElem?_eq_some_iff.mp hx).1
      rw [show k9 - tys.length = 0 by omega] at hx
      cases hx
      exact ⟨hAr, fA⟩⟩
  obtain ⟨t, a1, b1⟩ := kk H.size (fun i => H.size + 1 + i) cA F.heap (fun i j _ _ h => by have h9 : H.size + 1 + i = H.size + 1 + j := h; omega) hnl hK2 (by rw [← vr_rows hnm]; exact vr_lay hP2) (by rw [← vr_rows hnm]; exact vr_layD hD2) ⟨by rw [f1]; have := hS.1; omega, fun x h1 h2 => (hold x (Nat.lt_of_lt_of_le h1 hS.1)).trans (hS.2.1 x h1 h2), hS.2.2⟩ F rfl X'
  refine ⟨t, step t ?_, b1⟩
  have e : T.heap.size = H.size := by rw [hT]
  rw [e]
  exact a1
end VGM
/-! ===== END ===== -/

/-! ===== BEGIN printed: names, fields, word lists, decode rows ===== -/
def RX0 : String := "RegisterSealer"
def TX0 : u_T := fun k => match k with
  | 0 => ("RegisterSealer", "machineSecret", "J", true)
  | 1 => ("RegisterSealer", "drawn", "J", false)
  | 2 => ("RegisterSealer", "locality", "I", false)
  | 3 => ("RegisterSealer", "failures", "I", false)
  | 4 => ("RegisterSealer", "proof", "J", false)
  | 5 => ("RegisterSealer", "output", "J", false)
  | 6 => ("RegisterSealer", "registers", "[J", true)
  | 7 => ("RegisterSealer", "keyThere", "[Z", true)
  | 8 => ("RegisterSealer", "keySecrets", "[J", true)
  | 9 => ("RegisterSealer", "keyNames", "[J", true)
  | 10 => ("RegisterSealer", "sessionThere", "[Z", true)
  | 11 => ("RegisterSealer", "callerNonces", "[J", true)
  | 12 => ("RegisterSealer", "machineNonces", "[J", true)
  | 13 => ("RegisterSealer", "blobCount", "I", false)
  | _ => ("RegisterSealer", "blobs", "[[J", true)
def tyX0 : Nat → FieldType := fun k => match k with
  | 0 => .long
  | 1 => .long
  | 2 => .int
  | 3 => .int
  | 4 => .long
  | 5 => .long
  | 6 => .array .long
  | 7 => .array .boolean
  | 8 => .array .long
  | 9 => .array .long
  | 10 => .array .boolean
  | 11 => .array .long
  | 12 => .array .long
  | 13 => .int
  | _ => .array (.array .long)
abbrev wsX00 : List Cond := u_ws RX0 TX0 15
theorem nmX0 : ∀ a, a < 15 → ∀ b, b < 15 → a ≠ b → (TX0 a).2.1 ≠ (TX0 b).2.1 := by decide +kernel
theorem tyX0_ok : ∀ k, k < 15 → parseFieldDescriptor (TX0 k).2.2.1 = some (tyX0 k) := by decide +kernel
abbrev cX0_init : ByteArray := prog_1_method_1_code
def yX0_init : MethodName := ⟨RX0, "<init>", "(II)V"⟩
abbrev cX0_locality : ByteArray := prog_1_method_2_code
def yX0_locality : MethodName := ⟨RX0, "locality", "(I)Z"⟩
abbrev cX0_extend : ByteArray := prog_1_method_3_code
def yX0_extend : MethodName := ⟨RX0, "extend", "(IJ)Z"⟩
abbrev cX0_reset : ByteArray := prog_1_method_4_code
def yX0_reset : MethodName := ⟨RX0, "reset", "(I)Z"⟩
abbrev cX0_register : ByteArray := prog_1_method_5_code
def yX0_register : MethodName := ⟨RX0, "register", "(I)J"⟩
abbrev cX0_digest : ByteArray := prog_1_method_6_code
def yX0_digest : MethodName := ⟨RX0, "digest", "(I)J"⟩
abbrev cX0_create : ByteArray := prog_1_method_7_code
def yX0_create : MethodName := ⟨RX0, "create", "(J)I"⟩
abbrev cX0_destroy : ByteArray := prog_1_method_8_code
def yX0_destroy : MethodName := ⟨RX0, "destroy", "(I)Z"⟩
abbrev cX0_name : ByteArray := prog_1_method_9_code
def yX0_name : MethodName := ⟨RX0, "name", "(I)J"⟩
abbrev cX0_begin : ByteArray := prog_1_method_10_code
def yX0_begin : MethodName := ⟨RX0, "begin", "(J)I"⟩
abbrev cX0_end : ByteArray := prog_1_method_11_code
def yX0_end : MethodName := ⟨RX0, "end", "(I)Z"⟩
abbrev cX0_nonce : ByteArray := prog_1_method_12_code
def yX0_nonce : MethodName := ⟨RX0, "nonce", "(I)J"⟩
abbrev cX0_prove : ByteArray := prog_1_method_13_code
def yX0_prove : MethodName := ⟨RX0, "prove", "(JIIIJ)Z"⟩
abbrev cX0_present : ByteArray := prog_1_method_14_code
def yX0_present : MethodName := ⟨RX0, "present", "(J)V"⟩
abbrev cX0_seal : ByteArray := prog_1_method_15_code
def yX0_seal : MethodName := ⟨RX0, "seal", "(IIIJ)I"⟩
abbrev cX0_unseal : ByteArray := prog_1_method_16_code
def yX0_unseal : MethodName := ⟨RX0, "unseal", "(II)I"⟩
abbrev cX0_quote : ByteArray := prog_1_method_17_code
def yX0_quote : MethodName := ⟨RX0, "quote", "(IIIJ)I"⟩
abbrev cX0_output : ByteArray := prog_1_method_18_code
def yX0_output : MethodName := ⟨RX0, "output", "()J"⟩
abbrev cX0_blob : ByteArray := prog_1_method_19_code
def yX0_blob : MethodName := ⟨RX0, "blob", "(II)J"⟩
abbrev cX0_change : ByteArray := prog_1_method_20_code
def yX0_change : MethodName := ⟨RX0, "change", "(IIJ)Z"⟩
abbrev cX0_reboot : ByteArray := prog_1_method_21_code
def yX0_reboot : MethodName := ⟨RX0, "reboot", "()V"⟩
abbrev cX0_failures : ByteArray := prog_1_method_22_code
def yX0_failures : MethodName := ⟨RX0, "failures", "()I"⟩
abbrev cX0_isRegister : ByteArray := prog_1_method_23_code
def yX0_isRegister : MethodName := ⟨RX0, "isRegister", "(I)Z"⟩
abbrev cX0_isOpen : ByteArray := prog_1_method_24_code
def yX0_isOpen : MethodName := ⟨RX0, "isOpen", "(I)Z"⟩
abbrev cX0_isMask : ByteArray := prog_1_method_25_code
def yX0_isMask : MethodName := ⟨RX0, "isMask", "(J)Z"⟩
abbrev cX0_isKey : ByteArray := prog_1_method_26_code
def yX0_isKey : MethodName := ⟨RX0, "isKey", "(I)Z"⟩
abbrev cX0_isSession : ByteArray := prog_1_method_27_code
def yX0_isSession : MethodName := ⟨RX0, "isSession", "(I)Z"⟩
abbrev cX0_isBlob : ByteArray := prog_1_method_28_code
def yX0_isBlob : MethodName := ⟨RX0, "isBlob", "(I)Z"⟩
abbrev cX0_isBlobWord : ByteArray := prog_1_method_29_code
def yX0_isBlobWord : MethodName := ⟨RX0, "isBlobWord", "(II)Z"⟩
abbrev cX0_isLocked : ByteArray := prog_1_method_30_code
def yX0_isLocked : MethodName := ⟨RX0, "isLocked", "()Z"⟩
abbrev cX0_isPolicyMet : ByteArray := prog_1_method_31_code
def yX0_isPolicyMet : MethodName := ⟨RX0, "isPolicyMet", "([J)Z"⟩
abbrev cX0_leastFree : ByteArray := prog_1_method_32_code
def yX0_leastFree : MethodName := ⟨RX0, "leastFree", "([Z)I"⟩
abbrev cX0_leastKeyNamed : ByteArray := prog_1_method_33_code
def yX0_leastKeyNamed : MethodName := ⟨RX0, "leastKeyNamed", "(J)I"⟩
abbrev cX0_draw : ByteArray := prog_1_method_34_code
def yX0_draw : MethodName := ⟨RX0, "draw", "()J"⟩
abbrev cX0_passesProving : ByteArray := prog_1_method_35_code
def yX0_passesProving : MethodName := ⟨RX0, "passesProving", "(JIIJ)Z"⟩
abbrev cX0_addBlob : ByteArray := prog_1_method_36_code
def yX0_addBlob : MethodName := ⟨RX0, "addBlob", "(JIJ)I"⟩
abbrev cX0_digestNow : ByteArray := prog_1_method_37_code
def yX0_digestNow : MethodName := ⟨RX0, "digestNow", "(I)J"⟩
abbrev cX0_rightProof : ByteArray := prog_1_method_38_code
def yX0_rightProof : MethodName := ⟨RX0, "rightProof", "(JIIJ)J"⟩
abbrev cX0_signature : ByteArray := prog_1_method_39_code
def yX0_signature : MethodName := ⟨RX0, "signature", "(JIJ)J"⟩
abbrev cX0_sealOf : ByteArray := prog_1_method_40_code
def yX0_sealOf : MethodName := ⟨RX0, "sealOf", "([J)J"⟩
abbrev cX0_cover : ByteArray := prog_1_method_41_code
def yX0_cover : MethodName := ⟨RX0, "cover", "(JJ)J"⟩
abbrev cX0_macBegin : ByteArray := prog_1_method_42_code
def yX0_macBegin : MethodName := ⟨RX0, "macBegin", "(JI)J"⟩
abbrev cX0_macEnd : ByteArray := prog_1_method_43_code
def yX0_macEnd : MethodName := ⟨RX0, "macEnd", "(JJ)J"⟩
abbrev cX0_hash2 : ByteArray := prog_1_method_44_code
def yX0_hash2 : MethodName := ⟨RX0, "hash2", "(JJ)J"⟩
abbrev cX0_fold : ByteArray := prog_1_method_45_code
def yX0_fold : MethodName := ⟨RX0, "fold", "(JJ)J"⟩
def RX1 : String := "RegisterSealerModel"
def TX1 : u_T := fun k => match k with
  | 0 => ("RegisterSealerModel", "machine", "J", true)
  | 1 => ("RegisterSealerModel", "drawn", "J", false)
  | 2 => ("RegisterSealerModel", "locality", "I", false)
  | 3 => ("RegisterSealerModel", "failures", "I", false)
  | 4 => ("RegisterSealerModel", "proof", "J", false)
  | 5 => ("RegisterSealerModel", "output", "J", false)
  | 6 => ("RegisterSealerModel", "done", "I", false)
  | 7 => ("RegisterSealerModel", "what", "[I", true)
  | 8 => ("RegisterSealerModel", "with", "[J", true)
  | 9 => ("RegisterSealerModel", "keyThere", "[Z", true)
  | 10 => ("RegisterSealerModel", "keySecret", "[J", true)
  | 11 => ("RegisterSealerModel", "keyDrawn", "[J", true)
  | 12 => ("RegisterSealerModel", "sessionThere", "[Z", true)
  | 13 => ("RegisterSealerModel", "caller", "[J", true)
  | 14 => ("RegisterSealerModel", "sessionDrawn", "[J", true)
  | 15 => ("RegisterSealerModel", "blobs", "I", false)
  | 16 => ("RegisterSealerModel", "blobWord", "[J", true)
  | 17 => ("RegisterSealerModel", "row", "[J", true)
  | _ => ("RegisterSealerModel", "held", "[J", true)
def tyX1 : Nat → FieldType := fun k => match k with
  | 0 => .long
  | 1 => .long
  | 2 => .int
  | 3 => .int
  | 4 => .long
  | 5 => .long
  | 6 => .int
  | 7 => .array .int
  | 8 => .array .long
  | 9 => .array .boolean
  | 10 => .array .long
  | 11 => .array .long
  | 12 => .array .boolean
  | 13 => .array .long
  | 14 => .array .long
  | 15 => .int
  | 16 => .array .long
  | 17 => .array .long
  | _ => .array .long
abbrev wsX10 : List Cond := u_ws RX1 TX1 19
theorem nmX1 : ∀ a, a < 19 → ∀ b, b < 19 → a ≠ b → (TX1 a).2.1 ≠ (TX1 b).2.1 := by decide +kernel
theorem tyX1_ok : ∀ k, k < 19 → parseFieldDescriptor (TX1 k).2.2.1 = some (tyX1 k) := by decide +kernel
abbrev cX1_init : ByteArray := prog_3_method_1_code
def yX1_init : MethodName := ⟨RX1, "<init>", "(II)V"⟩
abbrev cX1_hash : ByteArray := prog_3_method_2_code
def yX1_hash : MethodName := ⟨RX1, "hash", "(I)J"⟩
abbrev cX1_code : ByteArray := prog_3_method_3_code
def yX1_code : MethodName := ⟨RX1, "code", "(JI)J"⟩
abbrev cX1_two : ByteArray := prog_3_method_4_code
def yX1_two : MethodName := ⟨RX1, "two", "(JJ)J"⟩
abbrev cX1_word : ByteArray := prog_3_method_5_code
def yX1_word : MethodName := ⟨RX1, "word", "(J)J"⟩
abbrev cX1_folded : ByteArray := prog_3_method_6_code
def yX1_folded : MethodName := ⟨RX1, "folded", "(I)J"⟩
abbrev cX1_digestOf : ByteArray := prog_3_method_7_code
def yX1_digestOf : MethodName := ⟨RX1, "digestOf", "(I)J"⟩
abbrev cX1_veil : ByteArray := prog_3_method_8_code
def yX1_veil : MethodName := ⟨RX1, "veil", "(JJ)J"⟩
abbrev cX1_sealOf : ByteArray := prog_3_method_9_code
def yX1_sealOf : MethodName := ⟨RX1, "sealOf", "(I)J"⟩
abbrev cX1_locality : ByteArray := prog_3_method_10_code
def yX1_locality : MethodName := ⟨RX1, "locality", "(I)Z"⟩
abbrev cX1_note : ByteArray := prog_3_method_11_code
def yX1_note : MethodName := ⟨RX1, "note", "(IIJ)Z"⟩
abbrev cX1_extend : ByteArray := prog_3_method_12_code
def yX1_extend : MethodName := ⟨RX1, "extend", "(IJ)Z"⟩
abbrev cX1_reset : ByteArray := prog_3_method_13_code
def yX1_reset : MethodName := ⟨RX1, "reset", "(I)Z"⟩
abbrev cX1_register : ByteArray := prog_3_method_14_code
def yX1_register : MethodName := ⟨RX1, "register", "(I)J"⟩
abbrev cX1_isMask : ByteArray := prog_3_method_15_code
def yX1_isMask : MethodName := ⟨RX1, "isMask", "(J)Z"⟩
abbrev cX1_digest : ByteArray := prog_3_method_16_code
def yX1_digest : MethodName := ⟨RX1, "digest", "(I)J"⟩
abbrev cX1_hasKey : ByteArray := prog_3_method_17_code
def yX1_hasKey : MethodName := ⟨RX1, "hasKey", "(I)Z"⟩
abbrev cX1_hasSession : ByteArray := prog_3_method_18_code
def yX1_hasSession : MethodName := ⟨RX1, "hasSession", "(I)Z"⟩
abbrev cX1_hasBlob : ByteArray := prog_3_method_19_code
def yX1_hasBlob : MethodName := ⟨RX1, "hasBlob", "(I)Z"⟩
abbrev cX1_create : ByteArray := prog_3_method_20_code
def yX1_create : MethodName := ⟨RX1, "create", "(J)I"⟩
abbrev cX1_destroy : ByteArray := prog_3_method_21_code
def yX1_destroy : MethodName := ⟨RX1, "destroy", "(I)Z"⟩
abbrev cX1_nameOf : ByteArray := prog_3_method_22_code
def yX1_nameOf : MethodName := ⟨RX1, "nameOf", "(I)J"⟩
abbrev cX1_name : ByteArray := prog_3_method_23_code
def yX1_name : MethodName := ⟨RX1, "name", "(I)J"⟩
abbrev cX1_begin : ByteArray := prog_3_method_24_code
def yX1_begin : MethodName := ⟨RX1, "begin", "(J)I"⟩
abbrev cX1_end : ByteArray := prog_3_method_25_code
def yX1_end : MethodName := ⟨RX1, "end", "(I)Z"⟩
abbrev cX1_nonce : ByteArray := prog_3_method_26_code
def yX1_nonce : MethodName := ⟨RX1, "nonce", "(I)J"⟩
abbrev cX1_rightFor : ByteArray := prog_3_method_27_code
def yX1_rightFor : MethodName := ⟨RX1, "rightFor", "(JIIJ)J"⟩
abbrev cX1_prove : ByteArray := prog_3_method_28_code
def yX1_prove : MethodName := ⟨RX1, "prove", "(JIIIJ)Z"⟩
abbrev cX1_present : ByteArray := prog_3_method_29_code
def yX1_present : MethodName := ⟨RX1, "present", "(J)V"⟩
abbrev cX1_proved : ByteArray := prog_3_method_30_code
def yX1_proved : MethodName := ⟨RX1, "proved", "(IIIJ)Z"⟩
abbrev cX1_seal : ByteArray := prog_3_method_31_code
def yX1_seal : MethodName := ⟨RX1, "seal", "(IIIJ)I"⟩
abbrev cX1_unseal : ByteArray := prog_3_method_32_code
def yX1_unseal : MethodName := ⟨RX1, "unseal", "(II)I"⟩
abbrev cX1_quote : ByteArray := prog_3_method_33_code
def yX1_quote : MethodName := ⟨RX1, "quote", "(IIIJ)I"⟩
abbrev cX1_output : ByteArray := prog_3_method_34_code
def yX1_output : MethodName := ⟨RX1, "output", "()J"⟩
abbrev cX1_blob : ByteArray := prog_3_method_35_code
def yX1_blob : MethodName := ⟨RX1, "blob", "(II)J"⟩
abbrev cX1_change : ByteArray := prog_3_method_36_code
def yX1_change : MethodName := ⟨RX1, "change", "(IIJ)Z"⟩
abbrev cX1_reboot : ByteArray := prog_3_method_37_code
def yX1_reboot : MethodName := ⟨RX1, "reboot", "()V"⟩
abbrev cX1_failures : ByteArray := prog_3_method_38_code
def yX1_failures : MethodName := ⟨RX1, "failures", "()I"⟩
def RJ6 : String := "java/lang/Integer"
def TJ6 : u_T := fun k => match k with
  | _ => ("", "", "", false)
def tyJ6 : Nat → FieldType := fun k => match k with
  | _ => .int
abbrev wsJ60 : List Cond := u_ws RJ6 TJ6 0
theorem nmJ6 : ∀ a, a < 0 → ∀ b, b < 0 → a ≠ b → (TJ6 a).2.1 ≠ (TJ6 b).2.1 := by decide +kernel
theorem tyJ6_ok : ∀ k, k < 0 → parseFieldDescriptor (TJ6 k).2.2.1 = some (tyJ6 k) := by decide +kernel
abbrev cJ6_bitCount_0f7a4 : ByteArray := prog_4_method_49_code
def yJ6_bitCount_0f7a4 : MethodName := ⟨RJ6, "bitCount", "(I)I"⟩
def RL : String := "RegisterSealerLaw"
abbrev cL_cell : ByteArray := method_2_code
def yL_cell : MethodName := ⟨RL, "cell", "([II)I"⟩
abbrev cL_law : ByteArray := code
def yL_law : MethodName := ⟨RL, "law", "([I)Z"⟩
def wsX0_fold : List Cond := .code yX0_fold cX0_fold 6 (some .long) :: ([.constantLong RX0 161 (3141592653589793239)])
def wsX0_hash2 : List Cond := .code yX0_hash2 cX0_hash2 4 (some .long) :: ([.constantLong RX0 159 (2), .methodLink RX0 143 yX0_fold, .static yX0_fold, .initialized RX0, .code yX0_fold cX0_fold 6 (some .long), .constantLong RX0 161 (3141592653589793239)])
def wsX0_init : List Cond := .code yX0_init cX0_init 3 none :: ([.methodLink RX0 1 objectInit, .instanceMethod objectInit, .code objectInit ⟨#[0xb1]⟩ 1 none, .fieldLink RX0 13 "RegisterSealer" "machineSecret" "J", .arrayClass .long, .fieldLink RX0 17 "RegisterSealer" "registers" "[J", .arrayClass .boolean, .fieldLink RX0 21 "RegisterSealer" "keyThere" "[Z", .fieldLink RX0 25 "RegisterSealer" "keySecrets" "[J", .fieldLink RX0 28 "RegisterSealer" "keyNames" "[J", .fieldLink RX0 31 "RegisterSealer" "sessionThere" "[Z", .fieldLink RX0 34 "RegisterSealer" "callerNonces" "[J", .fieldLink RX0 37 "RegisterSealer" "machineNonces" "[J", .classLink RX0 40 "[[J", .fieldLink RX0 42 "RegisterSealer" "blobs" "[[J", .methodLink RX0 7 yX0_hash2, .static yX0_hash2, .initialized RX0, .code yX0_hash2 cX0_hash2 4 (some .long), .constantLong RX0 159 (2), .methodLink RX0 143 yX0_fold, .static yX0_fold, .code yX0_fold cX0_fold 6 (some .long), .constantLong RX0 161 (3141592653589793239)] ++ wsX00)
def wsX0_locality : List Cond := .code yX0_locality cX0_locality 2 (some .boolean) :: ([.fieldLink RX0 45 "RegisterSealer" "locality" "I"] ++ wsX00)
def wsX0_isRegister : List Cond := .code yX0_isRegister cX0_isRegister 1 (some .boolean) :: ([])
def wsX0_isOpen : List Cond := .code yX0_isOpen cX0_isOpen 2 (some .boolean) :: ([.fieldLink RX0 45 "RegisterSealer" "locality" "I"] ++ wsX00)
def wsX0_extend : List Cond := .code yX0_extend cX0_extend 4 (some .boolean) :: ([.fieldLink RX0 17 "RegisterSealer" "registers" "[J", .methodLink RX0 49 yX0_isRegister, .static yX0_isRegister, .initialized RX0, .code yX0_isRegister cX0_isRegister 1 (some .boolean), .methodLink RX0 53 yX0_isOpen, .instanceMethod yX0_isOpen, .selects RX0 yX0_isOpen yX0_isOpen, .code yX0_isOpen cX0_isOpen 2 (some .boolean), .fieldLink RX0 45 "RegisterSealer" "locality" "I", .methodLink RX0 7 yX0_hash2, .static yX0_hash2, .code yX0_hash2 cX0_hash2 4 (some .long), .constantLong RX0 159 (2), .methodLink RX0 143 yX0_fold, .static yX0_fold, .code yX0_fold cX0_fold 6 (some .long), .constantLong RX0 161 (3141592653589793239)] ++ wsX00)
def wsX0_reset : List Cond := .code yX0_reset cX0_reset 2 (some .boolean) :: ([.fieldLink RX0 17 "RegisterSealer" "registers" "[J", .methodLink RX0 49 yX0_isRegister, .static yX0_isRegister, .initialized RX0, .code yX0_isRegister cX0_isRegister 1 (some .boolean), .methodLink RX0 53 yX0_isOpen, .instanceMethod yX0_isOpen, .selects RX0 yX0_isOpen yX0_isOpen, .code yX0_isOpen cX0_isOpen 2 (some .boolean), .fieldLink RX0 45 "RegisterSealer" "locality" "I"] ++ wsX00)
def wsX0_register : List Cond := .code yX0_register cX0_register 2 (some .long) :: ([.fieldLink RX0 17 "RegisterSealer" "registers" "[J", .methodLink RX0 49 yX0_isRegister, .static yX0_isRegister, .initialized RX0, .code yX0_isRegister cX0_isRegister 1 (some .boolean)] ++ wsX00)
def wsX0_isMask : List Cond := .code yX0_isMask cX0_isMask 2 (some .boolean) :: ([.constantLong RX0 132 (255)])
def wsJ6_bitCount_0f7a4 : List Cond := .code yJ6_bitCount_0f7a4 cJ6_bitCount_0f7a4 1 (some .int) :: ([.constant RJ6 265 (1431655765), .constant RJ6 266 (858993459), .constant RJ6 267 (252645135)])
def wsX0_digestNow : List Cond := .code yX0_digestNow cX0_digestNow 5 (some .long) :: ([.fieldLink RX0 17 "RegisterSealer" "registers" "[J", .methodLink RX0 137 yJ6_bitCount_0f7a4, .static yJ6_bitCount_0f7a4, .initialized RJ6, .code yJ6_bitCount_0f7a4 cJ6_bitCount_0f7a4 1 (some .int), .constant RJ6 265 (1431655765), .constant RJ6 266 (858993459), .constant RJ6 267 (252645135), .methodLink RX0 143 yX0_fold, .static yX0_fold, .initialized RX0, .code yX0_fold cX0_fold 6 (some .long), .constantLong RX0 161 (3141592653589793239)] ++ wsX00)
def wsX0_digest : List Cond := .code yX0_digest cX0_digest 2 (some .long) :: ([.methodLink RX0 56 yX0_isMask, .static yX0_isMask, .initialized RX0, .code yX0_isMask cX0_isMask 2 (some .boolean), .constantLong RX0 132 (255), .methodLink RX0 60 yX0_digestNow, .instanceMethod yX0_digestNow, .selects RX0 yX0_digestNow yX0_digestNow, .code yX0_digestNow cX0_digestNow 5 (some .long), .fieldLink RX0 17 "RegisterSealer" "registers" "[J", .methodLink RX0 137 yJ6_bitCount_0f7a4, .static yJ6_bitCount_0f7a4, .initialized RJ6, .code yJ6_bitCount_0f7a4 cJ6_bitCount_0f7a4 1 (some .int), .constant RJ6 265 (1431655765), .constant RJ6 266 (858993459), .constant RJ6 267 (252645135), .methodLink RX0 143 yX0_fold, .static yX0_fold, .code yX0_fold cX0_fold 6 (some .long), .constantLong RX0 161 (3141592653589793239)] ++ wsX00)
def wsX0_leastFree : List Cond := .code yX0_leastFree cX0_leastFree 2 (some .int) :: ([])
def wsX0_draw : List Cond := .code yX0_draw cX0_draw 1 (some .long) :: ([.fieldLink RX0 134 "RegisterSealer" "drawn" "J", .fieldLink RX0 13 "RegisterSealer" "machineSecret" "J", .methodLink RX0 7 yX0_hash2, .static yX0_hash2, .initialized RX0, .code yX0_hash2 cX0_hash2 4 (some .long), .constantLong RX0 159 (2), .methodLink RX0 143 yX0_fold, .static yX0_fold, .code yX0_fold cX0_fold 6 (some .long), .constantLong RX0 161 (3141592653589793239)] ++ wsX00)
def wsX0_create : List Cond := .code yX0_create cX0_create 4 (some .int) :: ([.fieldLink RX0 21 "RegisterSealer" "keyThere" "[Z", .fieldLink RX0 25 "RegisterSealer" "keySecrets" "[J", .fieldLink RX0 28 "RegisterSealer" "keyNames" "[J", .methodLink RX0 64 yX0_leastFree, .static yX0_leastFree, .initialized RX0, .code yX0_leastFree cX0_leastFree 2 (some .int), .methodLink RX0 68 yX0_draw, .instanceMethod yX0_draw, .selects RX0 yX0_draw yX0_draw, .code yX0_draw cX0_draw 1 (some .long), .fieldLink RX0 134 "RegisterSealer" "drawn" "J", .fieldLink RX0 13 "RegisterSealer" "machineSecret" "J", .methodLink RX0 7 yX0_hash2, .static yX0_hash2, .code yX0_hash2 cX0_hash2 4 (some .long), .constantLong RX0 159 (2), .methodLink RX0 143 yX0_fold, .static yX0_fold, .code yX0_fold cX0_fold 6 (some .long), .constantLong RX0 161 (3141592653589793239)] ++ wsX00)
def wsX0_isKey : List Cond := .code yX0_isKey cX0_isKey 2 (some .boolean) :: ([.fieldLink RX0 21 "RegisterSealer" "keyThere" "[Z"] ++ wsX00)
def wsX0_destroy : List Cond := .code yX0_destroy cX0_destroy 2 (some .boolean) :: ([.fieldLink RX0 21 "RegisterSealer" "keyThere" "[Z", .methodLink RX0 72 yX0_isKey, .instanceMethod yX0_isKey, .selects RX0 yX0_isKey yX0_isKey, .initialized RX0, .code yX0_isKey cX0_isKey 2 (some .boolean)] ++ wsX00)
def wsX0_name : List Cond := .code yX0_name cX0_name 2 (some .long) :: ([.fieldLink RX0 28 "RegisterSealer" "keyNames" "[J", .methodLink RX0 72 yX0_isKey, .instanceMethod yX0_isKey, .selects RX0 yX0_isKey yX0_isKey, .initialized RX0, .code yX0_isKey cX0_isKey 2 (some .boolean), .fieldLink RX0 21 "RegisterSealer" "keyThere" "[Z"] ++ wsX00)
def wsX0_begin : List Cond := .code yX0_begin cX0_begin 4 (some .int) :: ([.fieldLink RX0 31 "RegisterSealer" "sessionThere" "[Z", .fieldLink RX0 34 "RegisterSealer" "callerNonces" "[J", .fieldLink RX0 37 "RegisterSealer" "machineNonces" "[J", .methodLink RX0 64 yX0_leastFree, .static yX0_leastFree, .initialized RX0, .code yX0_leastFree cX0_leastFree 2 (some .int), .methodLink RX0 68 yX0_draw, .instanceMethod yX0_draw, .selects RX0 yX0_draw yX0_draw, .code yX0_draw cX0_draw 1 (some .long), .fieldLink RX0 134 "RegisterSealer" "drawn" "J", .fieldLink RX0 13 "RegisterSealer" "machineSecret" "J", .methodLink RX0 7 yX0_hash2, .static yX0_hash2, .code yX0_hash2 cX0_hash2 4 (some .long), .constantLong RX0 159 (2), .methodLink RX0 143 yX0_fold, .static yX0_fold, .code yX0_fold cX0_fold 6 (some .long), .constantLong RX0 161 (3141592653589793239)] ++ wsX00)
def wsX0_isSession : List Cond := .code yX0_isSession cX0_isSession 2 (some .boolean) :: ([.fieldLink RX0 31 "RegisterSealer" "sessionThere" "[Z"] ++ wsX00)
def wsX0_end : List Cond := .code yX0_end cX0_end 2 (some .boolean) :: ([.fieldLink RX0 31 "RegisterSealer" "sessionThere" "[Z", .methodLink RX0 75 yX0_isSession, .instanceMethod yX0_isSession, .selects RX0 yX0_isSession yX0_isSession, .initialized RX0, .code yX0_isSession cX0_isSession 2 (some .boolean)] ++ wsX00)
def wsX0_nonce : List Cond := .code yX0_nonce cX0_nonce 2 (some .long) :: ([.fieldLink RX0 37 "RegisterSealer" "machineNonces" "[J", .methodLink RX0 75 yX0_isSession, .instanceMethod yX0_isSession, .selects RX0 yX0_isSession yX0_isSession, .initialized RX0, .code yX0_isSession cX0_isSession 2 (some .boolean), .fieldLink RX0 31 "RegisterSealer" "sessionThere" "[Z"] ++ wsX00)
def wsX0_isBlob : List Cond := .code yX0_isBlob cX0_isBlob 2 (some .boolean) :: ([.fieldLink RX0 92 "RegisterSealer" "blobCount" "I"] ++ wsX00)
def wsX0_macBegin : List Cond := .code yX0_macBegin cX0_macBegin 3 (some .long) :: ([.constantLong RX0 155 (92), .methodLink RX0 143 yX0_fold, .static yX0_fold, .initialized RX0, .code yX0_fold cX0_fold 6 (some .long), .constantLong RX0 161 (3141592653589793239)])
def wsX0_macEnd : List Cond := .code yX0_macEnd cX0_macEnd 4 (some .long) :: ([.constantLong RX0 157 (54), .methodLink RX0 7 yX0_hash2, .static yX0_hash2, .initialized RX0, .code yX0_hash2 cX0_hash2 4 (some .long), .constantLong RX0 159 (2), .methodLink RX0 143 yX0_fold, .static yX0_fold, .code yX0_fold cX0_fold 6 (some .long), .constantLong RX0 161 (3141592653589793239)])
def wsX0_rightProof : List Cond := .code yX0_rightProof cX0_rightProof 9 (some .long) :: ([.fieldLink RX0 37 "RegisterSealer" "machineNonces" "[J", .fieldLink RX0 34 "RegisterSealer" "callerNonces" "[J", .methodLink RX0 146 yX0_macBegin, .static yX0_macBegin, .initialized RX0, .code yX0_macBegin cX0_macBegin 3 (some .long), .constantLong RX0 155 (92), .methodLink RX0 143 yX0_fold, .static yX0_fold, .code yX0_fold cX0_fold 6 (some .long), .constantLong RX0 161 (3141592653589793239), .methodLink RX0 150 yX0_macEnd, .static yX0_macEnd, .code yX0_macEnd cX0_macEnd 4 (some .long), .constantLong RX0 157 (54), .methodLink RX0 7 yX0_hash2, .static yX0_hash2, .code yX0_hash2 cX0_hash2 4 (some .long), .constantLong RX0 159 (2)] ++ wsX00)
def wsX0_prove_r1 : List Cond := [Cond.fieldLink RX0 42 "RegisterSealer" "blobs" "[[J", Cond.fieldLink RX0 85 "RegisterSealer" "proof" "J", Cond.methodLink RX0 75 yX0_isSession, Cond.instanceMethod yX0_isSession, Cond.selects RX0 yX0_isSession yX0_isSession, Cond.initialized RX0, Cond.code yX0_isSession cX0_isSession 2 (some .boolean), Cond.fieldLink RX0 31 "RegisterSealer" "sessionThere" "[Z", Cond.methodLink RX0 78 yX0_isBlob, Cond.instanceMethod yX0_isBlob, Cond.selects RX0 yX0_isBlob yX0_isBlob, Cond.code yX0_isBlob cX0_isBlob 2 (some .boolean), Cond.fieldLink RX0 92 "RegisterSealer" "blobCount" "I", Cond.methodLink RX0 7 yX0_hash2, Cond.static yX0_hash2, Cond.code yX0_hash2 cX0_hash2 4 (some .long), Cond.constantLong RX0 159 (2), Cond.methodLink RX0 143 yX0_fold, Cond.static yX0_fold, Cond.code yX0_fold cX0_fold 6 (some .long), Cond.constantLong RX0 161 (3141592653589793239), Cond.methodLink RX0 81 yX0_rightProof, Cond.instanceMethod yX0_rightProof, Cond.selects RX0 yX0_rightProof yX0_rightProof]
def wsX0_prove_r2 : List Cond := [Cond.code yX0_rightProof cX0_rightProof 9 (some .long), Cond.fieldLink RX0 37 "RegisterSealer" "machineNonces" "[J", Cond.fieldLink RX0 34 "RegisterSealer" "callerNonces" "[J", Cond.methodLink RX0 146 yX0_macBegin, Cond.static yX0_macBegin, Cond.code yX0_macBegin cX0_macBegin 3 (some .long), Cond.constantLong RX0 155 (92), Cond.methodLink RX0 150 yX0_macEnd, Cond.static yX0_macEnd, Cond.code yX0_macEnd cX0_macEnd 4 (some .long), Cond.constantLong RX0 157 (54)]
def wsX0_prove : List Cond := .code yX0_prove cX0_prove 10 (some .boolean) :: ((wsX0_prove_r1 ++ wsX0_prove_r2) ++ wsX00)
def wsX0_present : List Cond := .code yX0_present cX0_present 3 none :: ([.fieldLink RX0 85 "RegisterSealer" "proof" "J"] ++ wsX00)
def wsX0_isLocked : List Cond := .code yX0_isLocked cX0_isLocked 1 (some .boolean) :: ([.fieldLink RX0 129 "RegisterSealer" "failures" "I"] ++ wsX00)
def wsX0_passesProving_r1 : List Cond := [Cond.fieldLink RX0 85 "RegisterSealer" "proof" "J", Cond.fieldLink RX0 37 "RegisterSealer" "machineNonces" "[J", Cond.fieldLink RX0 129 "RegisterSealer" "failures" "I", Cond.fieldLink RX0 115 "RegisterSealer" "output" "J", Cond.methodLink RX0 81 yX0_rightProof, Cond.instanceMethod yX0_rightProof, Cond.selects RX0 yX0_rightProof yX0_rightProof, Cond.initialized RX0, Cond.code yX0_rightProof cX0_rightProof 9 (some .long), Cond.fieldLink RX0 34 "RegisterSealer" "callerNonces" "[J", Cond.methodLink RX0 146 yX0_macBegin, Cond.static yX0_macBegin, Cond.code yX0_macBegin cX0_macBegin 3 (some .long), Cond.constantLong RX0 155 (92), Cond.methodLink RX0 143 yX0_fold, Cond.static yX0_fold, Cond.code yX0_fold cX0_fold 6 (some .long), Cond.constantLong RX0 161 (3141592653589793239), Cond.methodLink RX0 150 yX0_macEnd, Cond.static yX0_macEnd, Cond.code yX0_macEnd cX0_macEnd 4 (some .long), Cond.constantLong RX0 157 (54), Cond.methodLink RX0 7 yX0_hash2, Cond.static yX0_hash2]
def wsX0_passesProving_r2 : List Cond := [Cond.code yX0_hash2 cX0_hash2 4 (some .long), Cond.constantLong RX0 159 (2), Cond.methodLink RX0 68 yX0_draw, Cond.instanceMethod yX0_draw, Cond.selects RX0 yX0_draw yX0_draw, Cond.code yX0_draw cX0_draw 1 (some .long), Cond.fieldLink RX0 134 "RegisterSealer" "drawn" "J", Cond.fieldLink RX0 13 "RegisterSealer" "machineSecret" "J"]
def wsX0_passesProving : List Cond := .code yX0_passesProving cX0_passesProving 8 (some .boolean) :: ((wsX0_passesProving_r1 ++ wsX0_passesProving_r2) ++ wsX00)
def wsX0_cover : List Cond := .code yX0_cover cX0_cover 5 (some .long) :: ([.constantLong RX0 153 (3), .fieldLink RX0 13 "RegisterSealer" "machineSecret" "J", .methodLink RX0 143 yX0_fold, .static yX0_fold, .initialized RX0, .code yX0_fold cX0_fold 6 (some .long), .constantLong RX0 161 (3141592653589793239)] ++ wsX00)
def wsX0_sealOf : List Cond := .code yX0_sealOf cX0_sealOf 5 (some .long) :: ([.fieldLink RX0 13 "RegisterSealer" "machineSecret" "J", .methodLink RX0 146 yX0_macBegin, .static yX0_macBegin, .initialized RX0, .code yX0_macBegin cX0_macBegin 3 (some .long), .constantLong RX0 155 (92), .methodLink RX0 143 yX0_fold, .static yX0_fold, .code yX0_fold cX0_fold 6 (some .long), .constantLong RX0 161 (3141592653589793239), .methodLink RX0 150 yX0_macEnd, .static yX0_macEnd, .code yX0_macEnd cX0_macEnd 4 (some .long), .constantLong RX0 157 (54), .methodLink RX0 7 yX0_hash2, .static yX0_hash2, .code yX0_hash2 cX0_hash2 4 (some .long), .constantLong RX0 159 (2)] ++ wsX00)
def wsX0_addBlob_r1 : List Cond := [Cond.fieldLink RX0 92 "RegisterSealer" "blobCount" "I", Cond.fieldLink RX0 42 "RegisterSealer" "blobs" "[[J", Cond.methodLink RX0 60 yX0_digestNow, Cond.instanceMethod yX0_digestNow, Cond.selects RX0 yX0_digestNow yX0_digestNow, Cond.initialized RX0, Cond.code yX0_digestNow cX0_digestNow 5 (some .long), Cond.fieldLink RX0 17 "RegisterSealer" "registers" "[J", Cond.methodLink RX0 137 yJ6_bitCount_0f7a4, Cond.static yJ6_bitCount_0f7a4, Cond.initialized RJ6, Cond.code yJ6_bitCount_0f7a4 cJ6_bitCount_0f7a4 1 (some .int), Cond.constant RJ6 265 (1431655765), Cond.constant RJ6 266 (858993459), Cond.constant RJ6 267 (252645135), Cond.methodLink RX0 143 yX0_fold, Cond.static yX0_fold, Cond.code yX0_fold cX0_fold 6 (some .long), Cond.constantLong RX0 161 (3141592653589793239), Cond.methodLink RX0 68 yX0_draw, Cond.instanceMethod yX0_draw, Cond.selects RX0 yX0_draw yX0_draw, Cond.code yX0_draw cX0_draw 1 (some .long), Cond.fieldLink RX0 134 "RegisterSealer" "drawn" "J"]
def wsX0_addBlob_r2 : List Cond := [Cond.fieldLink RX0 13 "RegisterSealer" "machineSecret" "J", Cond.methodLink RX0 7 yX0_hash2, Cond.static yX0_hash2, Cond.code yX0_hash2 cX0_hash2 4 (some .long), Cond.constantLong RX0 159 (2), Cond.methodLink RX0 118 yX0_cover, Cond.instanceMethod yX0_cover, Cond.selects RX0 yX0_cover yX0_cover, Cond.code yX0_cover cX0_cover 5 (some .long), Cond.constantLong RX0 153 (3), Cond.methodLink RX0 103 yX0_sealOf, Cond.instanceMethod yX0_sealOf, Cond.selects RX0 yX0_sealOf yX0_sealOf, Cond.code yX0_sealOf cX0_sealOf 5 (some .long), Cond.methodLink RX0 146 yX0_macBegin, Cond.static yX0_macBegin, Cond.code yX0_macBegin cX0_macBegin 3 (some .long), Cond.constantLong RX0 155 (92), Cond.methodLink RX0 150 yX0_macEnd, Cond.static yX0_macEnd, Cond.code yX0_macEnd cX0_macEnd 4 (some .long), Cond.constantLong RX0 157 (54)]
def wsX0_addBlob : List Cond := .code yX0_addBlob cX0_addBlob 12 (some .int) :: ((wsX0_addBlob_r1 ++ wsX0_addBlob_r2) ++ wsX00)
def wsX0_seal_r1 : List Cond := [Cond.fieldLink RX0 92 "RegisterSealer" "blobCount" "I", Cond.fieldLink RX0 25 "RegisterSealer" "keySecrets" "[J", Cond.fieldLink RX0 28 "RegisterSealer" "keyNames" "[J", Cond.methodLink RX0 75 yX0_isSession, Cond.instanceMethod yX0_isSession, Cond.selects RX0 yX0_isSession yX0_isSession, Cond.initialized RX0, Cond.code yX0_isSession cX0_isSession 2 (some .boolean), Cond.fieldLink RX0 31 "RegisterSealer" "sessionThere" "[Z", Cond.methodLink RX0 72 yX0_isKey, Cond.instanceMethod yX0_isKey, Cond.selects RX0 yX0_isKey yX0_isKey, Cond.code yX0_isKey cX0_isKey 2 (some .boolean), Cond.fieldLink RX0 21 "RegisterSealer" "keyThere" "[Z", Cond.methodLink RX0 56 yX0_isMask, Cond.static yX0_isMask, Cond.code yX0_isMask cX0_isMask 2 (some .boolean), Cond.constantLong RX0 132 (255), Cond.methodLink RX0 88 yX0_isLocked, Cond.instanceMethod yX0_isLocked, Cond.selects RX0 yX0_isLocked yX0_isLocked, Cond.code yX0_isLocked cX0_isLocked 1 (some .boolean), Cond.fieldLink RX0 129 "RegisterSealer" "failures" "I", Cond.methodLink RX0 7 yX0_hash2]
def wsX0_seal_r2 : List Cond := [Cond.static yX0_hash2, Cond.code yX0_hash2 cX0_hash2 4 (some .long), Cond.constantLong RX0 159 (2), Cond.methodLink RX0 143 yX0_fold, Cond.static yX0_fold, Cond.code yX0_fold cX0_fold 6 (some .long), Cond.constantLong RX0 161 (3141592653589793239), Cond.methodLink RX0 95 yX0_passesProving, Cond.instanceMethod yX0_passesProving, Cond.selects RX0 yX0_passesProving yX0_passesProving, Cond.code yX0_passesProving cX0_passesProving 8 (some .boolean), Cond.fieldLink RX0 85 "RegisterSealer" "proof" "J", Cond.fieldLink RX0 37 "RegisterSealer" "machineNonces" "[J", Cond.fieldLink RX0 115 "RegisterSealer" "output" "J", Cond.methodLink RX0 81 yX0_rightProof, Cond.instanceMethod yX0_rightProof, Cond.selects RX0 yX0_rightProof yX0_rightProof, Cond.code yX0_rightProof cX0_rightProof 9 (some .long), Cond.fieldLink RX0 34 "RegisterSealer" "callerNonces" "[J", Cond.methodLink RX0 146 yX0_macBegin, Cond.static yX0_macBegin, Cond.code yX0_macBegin cX0_macBegin 3 (some .long), Cond.constantLong RX0 155 (92), Cond.methodLink RX0 150 yX0_macEnd]
def wsX0_seal_r3 : List Cond := [Cond.static yX0_macEnd, Cond.code yX0_macEnd cX0_macEnd 4 (some .long), Cond.constantLong RX0 157 (54), Cond.methodLink RX0 68 yX0_draw, Cond.instanceMethod yX0_draw, Cond.selects RX0 yX0_draw yX0_draw, Cond.code yX0_draw cX0_draw 1 (some .long), Cond.fieldLink RX0 134 "RegisterSealer" "drawn" "J", Cond.fieldLink RX0 13 "RegisterSealer" "machineSecret" "J", Cond.methodLink RX0 99 yX0_addBlob, Cond.instanceMethod yX0_addBlob, Cond.selects RX0 yX0_addBlob yX0_addBlob, Cond.code yX0_addBlob cX0_addBlob 12 (some .int), Cond.fieldLink RX0 42 "RegisterSealer" "blobs" "[[J", Cond.methodLink RX0 60 yX0_digestNow, Cond.instanceMethod yX0_digestNow, Cond.selects RX0 yX0_digestNow yX0_digestNow, Cond.code yX0_digestNow cX0_digestNow 5 (some .long), Cond.fieldLink RX0 17 "RegisterSealer" "registers" "[J", Cond.methodLink RX0 137 yJ6_bitCount_0f7a4, Cond.static yJ6_bitCount_0f7a4, Cond.initialized RJ6, Cond.code yJ6_bitCount_0f7a4 cJ6_bitCount_0f7a4 1 (some .int), Cond.constant RJ6 265 (1431655765)]
def wsX0_seal_r4 : List Cond := [Cond.constant RJ6 266 (858993459), Cond.constant RJ6 267 (252645135), Cond.methodLink RX0 118 yX0_cover, Cond.instanceMethod yX0_cover, Cond.selects RX0 yX0_cover yX0_cover, Cond.code yX0_cover cX0_cover 5 (some .long), Cond.constantLong RX0 153 (3), Cond.methodLink RX0 103 yX0_sealOf, Cond.instanceMethod yX0_sealOf, Cond.selects RX0 yX0_sealOf yX0_sealOf, Cond.code yX0_sealOf cX0_sealOf 5 (some .long)]
def wsX0_seal : List Cond := .code yX0_seal cX0_seal 6 (some .int) :: ((wsX0_seal_r1 ++ (wsX0_seal_r2 ++ (wsX0_seal_r3 ++ wsX0_seal_r4))) ++ wsX00)
def wsX0_leastKeyNamed : List Cond := .code yX0_leastKeyNamed cX0_leastKeyNamed 4 (some .int) :: ([.fieldLink RX0 21 "RegisterSealer" "keyThere" "[Z", .fieldLink RX0 28 "RegisterSealer" "keyNames" "[J"] ++ wsX00)
def wsX0_isPolicyMet : List Cond := .code yX0_isPolicyMet cX0_isPolicyMet 4 (some .boolean) :: ([.methodLink RX0 56 yX0_isMask, .static yX0_isMask, .initialized RX0, .code yX0_isMask cX0_isMask 2 (some .boolean), .constantLong RX0 132 (255), .methodLink RX0 60 yX0_digestNow, .instanceMethod yX0_digestNow, .selects RX0 yX0_digestNow yX0_digestNow, .code yX0_digestNow cX0_digestNow 5 (some .long), .fieldLink RX0 17 "RegisterSealer" "registers" "[J", .methodLink RX0 137 yJ6_bitCount_0f7a4, .static yJ6_bitCount_0f7a4, .initialized RJ6, .code yJ6_bitCount_0f7a4 cJ6_bitCount_0f7a4 1 (some .int), .constant RJ6 265 (1431655765), .constant RJ6 266 (858993459), .constant RJ6 267 (252645135), .methodLink RX0 143 yX0_fold, .static yX0_fold, .code yX0_fold cX0_fold 6 (some .long), .constantLong RX0 161 (3141592653589793239)] ++ wsX00)
def wsX0_unseal_r1 : List Cond := [Cond.fieldLink RX0 42 "RegisterSealer" "blobs" "[[J", Cond.fieldLink RX0 25 "RegisterSealer" "keySecrets" "[J", Cond.fieldLink RX0 115 "RegisterSealer" "output" "J", Cond.methodLink RX0 75 yX0_isSession, Cond.instanceMethod yX0_isSession, Cond.selects RX0 yX0_isSession yX0_isSession, Cond.initialized RX0, Cond.code yX0_isSession cX0_isSession 2 (some .boolean), Cond.fieldLink RX0 31 "RegisterSealer" "sessionThere" "[Z", Cond.methodLink RX0 78 yX0_isBlob, Cond.instanceMethod yX0_isBlob, Cond.selects RX0 yX0_isBlob yX0_isBlob, Cond.code yX0_isBlob cX0_isBlob 2 (some .boolean), Cond.fieldLink RX0 92 "RegisterSealer" "blobCount" "I", Cond.methodLink RX0 88 yX0_isLocked, Cond.instanceMethod yX0_isLocked, Cond.selects RX0 yX0_isLocked yX0_isLocked, Cond.code yX0_isLocked cX0_isLocked 1 (some .boolean), Cond.fieldLink RX0 129 "RegisterSealer" "failures" "I", Cond.methodLink RX0 103 yX0_sealOf, Cond.instanceMethod yX0_sealOf, Cond.selects RX0 yX0_sealOf yX0_sealOf, Cond.code yX0_sealOf cX0_sealOf 5 (some .long), Cond.fieldLink RX0 13 "RegisterSealer" "machineSecret" "J"]
def wsX0_unseal_r2 : List Cond := [Cond.methodLink RX0 146 yX0_macBegin, Cond.static yX0_macBegin, Cond.code yX0_macBegin cX0_macBegin 3 (some .long), Cond.constantLong RX0 155 (92), Cond.methodLink RX0 143 yX0_fold, Cond.static yX0_fold, Cond.code yX0_fold cX0_fold 6 (some .long), Cond.constantLong RX0 161 (3141592653589793239), Cond.methodLink RX0 150 yX0_macEnd, Cond.static yX0_macEnd, Cond.code yX0_macEnd cX0_macEnd 4 (some .long), Cond.constantLong RX0 157 (54), Cond.methodLink RX0 7 yX0_hash2, Cond.static yX0_hash2, Cond.code yX0_hash2 cX0_hash2 4 (some .long), Cond.constantLong RX0 159 (2), Cond.methodLink RX0 107 yX0_leastKeyNamed, Cond.instanceMethod yX0_leastKeyNamed, Cond.selects RX0 yX0_leastKeyNamed yX0_leastKeyNamed, Cond.code yX0_leastKeyNamed cX0_leastKeyNamed 4 (some .int), Cond.fieldLink RX0 21 "RegisterSealer" "keyThere" "[Z", Cond.fieldLink RX0 28 "RegisterSealer" "keyNames" "[J", Cond.methodLink RX0 95 yX0_passesProving, Cond.instanceMethod yX0_passesProving]
def wsX0_unseal_r3 : List Cond := [Cond.selects RX0 yX0_passesProving yX0_passesProving, Cond.code yX0_passesProving cX0_passesProving 8 (some .boolean), Cond.fieldLink RX0 85 "RegisterSealer" "proof" "J", Cond.fieldLink RX0 37 "RegisterSealer" "machineNonces" "[J", Cond.methodLink RX0 81 yX0_rightProof, Cond.instanceMethod yX0_rightProof, Cond.selects RX0 yX0_rightProof yX0_rightProof, Cond.code yX0_rightProof cX0_rightProof 9 (some .long), Cond.fieldLink RX0 34 "RegisterSealer" "callerNonces" "[J", Cond.methodLink RX0 68 yX0_draw, Cond.instanceMethod yX0_draw, Cond.selects RX0 yX0_draw yX0_draw, Cond.code yX0_draw cX0_draw 1 (some .long), Cond.fieldLink RX0 134 "RegisterSealer" "drawn" "J", Cond.methodLink RX0 111 yX0_isPolicyMet, Cond.instanceMethod yX0_isPolicyMet, Cond.selects RX0 yX0_isPolicyMet yX0_isPolicyMet, Cond.code yX0_isPolicyMet cX0_isPolicyMet 4 (some .boolean), Cond.methodLink RX0 56 yX0_isMask, Cond.static yX0_isMask, Cond.code yX0_isMask cX0_isMask 2 (some .boolean), Cond.constantLong RX0 132 (255), Cond.methodLink RX0 60 yX0_digestNow, Cond.instanceMethod yX0_digestNow]
def wsX0_unseal_r4 : List Cond := [Cond.selects RX0 yX0_digestNow yX0_digestNow, Cond.code yX0_digestNow cX0_digestNow 5 (some .long), Cond.fieldLink RX0 17 "RegisterSealer" "registers" "[J", Cond.methodLink RX0 137 yJ6_bitCount_0f7a4, Cond.static yJ6_bitCount_0f7a4, Cond.initialized RJ6, Cond.code yJ6_bitCount_0f7a4 cJ6_bitCount_0f7a4 1 (some .int), Cond.constant RJ6 265 (1431655765), Cond.constant RJ6 266 (858993459), Cond.constant RJ6 267 (252645135), Cond.methodLink RX0 118 yX0_cover, Cond.instanceMethod yX0_cover, Cond.selects RX0 yX0_cover yX0_cover, Cond.code yX0_cover cX0_cover 5 (some .long), Cond.constantLong RX0 153 (3)]
def wsX0_unseal : List Cond := .code yX0_unseal cX0_unseal 5 (some .int) :: ((wsX0_unseal_r1 ++ (wsX0_unseal_r2 ++ (wsX0_unseal_r3 ++ wsX0_unseal_r4))) ++ wsX00)
def wsX0_signature_r1 : List Cond := [Cond.methodLink RX0 146 yX0_macBegin, Cond.static yX0_macBegin, Cond.initialized RX0, Cond.code yX0_macBegin cX0_macBegin 3 (some .long), Cond.constantLong RX0 155 (92), Cond.methodLink RX0 143 yX0_fold, Cond.static yX0_fold, Cond.code yX0_fold cX0_fold 6 (some .long), Cond.constantLong RX0 161 (3141592653589793239), Cond.methodLink RX0 60 yX0_digestNow, Cond.instanceMethod yX0_digestNow, Cond.selects RX0 yX0_digestNow yX0_digestNow, Cond.code yX0_digestNow cX0_digestNow 5 (some .long), Cond.fieldLink RX0 17 "RegisterSealer" "registers" "[J", Cond.methodLink RX0 137 yJ6_bitCount_0f7a4, Cond.static yJ6_bitCount_0f7a4, Cond.initialized RJ6, Cond.code yJ6_bitCount_0f7a4 cJ6_bitCount_0f7a4 1 (some .int), Cond.constant RJ6 265 (1431655765), Cond.constant RJ6 266 (858993459), Cond.constant RJ6 267 (252645135), Cond.methodLink RX0 150 yX0_macEnd, Cond.static yX0_macEnd, Cond.code yX0_macEnd cX0_macEnd 4 (some .long)]
def wsX0_signature_r2 : List Cond := [Cond.constantLong RX0 157 (54), Cond.methodLink RX0 7 yX0_hash2, Cond.static yX0_hash2, Cond.code yX0_hash2 cX0_hash2 4 (some .long), Cond.constantLong RX0 159 (2)]
def wsX0_signature : List Cond := .code yX0_signature cX0_signature 8 (some .long) :: ((wsX0_signature_r1 ++ wsX0_signature_r2) ++ wsX00)
def wsX0_quote_r1 : List Cond := [Cond.fieldLink RX0 25 "RegisterSealer" "keySecrets" "[J", Cond.fieldLink RX0 115 "RegisterSealer" "output" "J", Cond.methodLink RX0 75 yX0_isSession, Cond.instanceMethod yX0_isSession, Cond.selects RX0 yX0_isSession yX0_isSession, Cond.initialized RX0, Cond.code yX0_isSession cX0_isSession 2 (some .boolean), Cond.fieldLink RX0 31 "RegisterSealer" "sessionThere" "[Z", Cond.methodLink RX0 72 yX0_isKey, Cond.instanceMethod yX0_isKey, Cond.selects RX0 yX0_isKey yX0_isKey, Cond.code yX0_isKey cX0_isKey 2 (some .boolean), Cond.fieldLink RX0 21 "RegisterSealer" "keyThere" "[Z", Cond.methodLink RX0 56 yX0_isMask, Cond.static yX0_isMask, Cond.code yX0_isMask cX0_isMask 2 (some .boolean), Cond.constantLong RX0 132 (255), Cond.methodLink RX0 88 yX0_isLocked, Cond.instanceMethod yX0_isLocked, Cond.selects RX0 yX0_isLocked yX0_isLocked, Cond.code yX0_isLocked cX0_isLocked 1 (some .boolean), Cond.fieldLink RX0 129 "RegisterSealer" "failures" "I", Cond.methodLink RX0 7 yX0_hash2, Cond.static yX0_hash2]
def wsX0_quote_r2 : List Cond := [Cond.code yX0_hash2 cX0_hash2 4 (some .long), Cond.constantLong RX0 159 (2), Cond.methodLink RX0 143 yX0_fold, Cond.static yX0_fold, Cond.code yX0_fold cX0_fold 6 (some .long), Cond.constantLong RX0 161 (3141592653589793239), Cond.methodLink RX0 95 yX0_passesProving, Cond.instanceMethod yX0_passesProving, Cond.selects RX0 yX0_passesProving yX0_passesProving, Cond.code yX0_passesProving cX0_passesProving 8 (some .boolean), Cond.fieldLink RX0 85 "RegisterSealer" "proof" "J", Cond.fieldLink RX0 37 "RegisterSealer" "machineNonces" "[J", Cond.methodLink RX0 81 yX0_rightProof, Cond.instanceMethod yX0_rightProof, Cond.selects RX0 yX0_rightProof yX0_rightProof, Cond.code yX0_rightProof cX0_rightProof 9 (some .long), Cond.fieldLink RX0 34 "RegisterSealer" "callerNonces" "[J", Cond.methodLink RX0 146 yX0_macBegin, Cond.static yX0_macBegin, Cond.code yX0_macBegin cX0_macBegin 3 (some .long), Cond.constantLong RX0 155 (92), Cond.methodLink RX0 150 yX0_macEnd, Cond.static yX0_macEnd, Cond.code yX0_macEnd cX0_macEnd 4 (some .long)]
def wsX0_quote_r3 : List Cond := [Cond.constantLong RX0 157 (54), Cond.methodLink RX0 68 yX0_draw, Cond.instanceMethod yX0_draw, Cond.selects RX0 yX0_draw yX0_draw, Cond.code yX0_draw cX0_draw 1 (some .long), Cond.fieldLink RX0 134 "RegisterSealer" "drawn" "J", Cond.fieldLink RX0 13 "RegisterSealer" "machineSecret" "J", Cond.methodLink RX0 121 yX0_signature, Cond.instanceMethod yX0_signature, Cond.selects RX0 yX0_signature yX0_signature, Cond.code yX0_signature cX0_signature 8 (some .long), Cond.methodLink RX0 60 yX0_digestNow, Cond.instanceMethod yX0_digestNow, Cond.selects RX0 yX0_digestNow yX0_digestNow, Cond.code yX0_digestNow cX0_digestNow 5 (some .long), Cond.fieldLink RX0 17 "RegisterSealer" "registers" "[J", Cond.methodLink RX0 137 yJ6_bitCount_0f7a4, Cond.static yJ6_bitCount_0f7a4, Cond.initialized RJ6, Cond.code yJ6_bitCount_0f7a4 cJ6_bitCount_0f7a4 1 (some .int), Cond.constant RJ6 265 (1431655765), Cond.constant RJ6 266 (858993459), Cond.constant RJ6 267 (252645135)]
def wsX0_quote : List Cond := .code yX0_quote cX0_quote 8 (some .int) :: ((wsX0_quote_r1 ++ (wsX0_quote_r2 ++ wsX0_quote_r3)) ++ wsX00)
def wsX0_output : List Cond := .code yX0_output cX0_output 1 (some .long) :: ([.fieldLink RX0 115 "RegisterSealer" "output" "J"] ++ wsX00)
def wsX0_isBlobWord : List Cond := .code yX0_isBlobWord cX0_isBlobWord 3 (some .boolean) :: ([.methodLink RX0 78 yX0_isBlob, .instanceMethod yX0_isBlob, .selects RX0 yX0_isBlob yX0_isBlob, .initialized RX0, .code yX0_isBlob cX0_isBlob 2 (some .boolean), .fieldLink RX0 92 "RegisterSealer" "blobCount" "I"] ++ wsX00)
def wsX0_blob : List Cond := .code yX0_blob cX0_blob 3 (some .long) :: ([.fieldLink RX0 42 "RegisterSealer" "blobs" "[[J", .methodLink RX0 125 yX0_isBlobWord, .instanceMethod yX0_isBlobWord, .selects RX0 yX0_isBlobWord yX0_isBlobWord, .initialized RX0, .code yX0_isBlobWord cX0_isBlobWord 3 (some .boolean), .methodLink RX0 78 yX0_isBlob, .instanceMethod yX0_isBlob, .selects RX0 yX0_isBlob yX0_isBlob, .code yX0_isBlob cX0_isBlob 2 (some .boolean), .fieldLink RX0 92 "RegisterSealer" "blobCount" "I"] ++ wsX00)
def wsX0_change : List Cond := .code yX0_change cX0_change 5 (some .boolean) :: ([.fieldLink RX0 42 "RegisterSealer" "blobs" "[[J", .methodLink RX0 125 yX0_isBlobWord, .instanceMethod yX0_isBlobWord, .selects RX0 yX0_isBlobWord yX0_isBlobWord, .initialized RX0, .code yX0_isBlobWord cX0_isBlobWord 3 (some .boolean), .methodLink RX0 78 yX0_isBlob, .instanceMethod yX0_isBlob, .selects RX0 yX0_isBlob yX0_isBlob, .code yX0_isBlob cX0_isBlob 2 (some .boolean), .fieldLink RX0 92 "RegisterSealer" "blobCount" "I"] ++ wsX00)
def wsX0_reboot : List Cond := .code yX0_reboot cX0_reboot 2 none :: ([.fieldLink RX0 17 "RegisterSealer" "registers" "[J", .fieldLink RX0 31 "RegisterSealer" "sessionThere" "[Z", .fieldLink RX0 45 "RegisterSealer" "locality" "I", .fieldLink RX0 129 "RegisterSealer" "failures" "I", .fieldLink RX0 115 "RegisterSealer" "output" "J"] ++ wsX00)
def wsX0_failures : List Cond := .code yX0_failures cX0_failures 1 (some .int) :: ([.fieldLink RX0 129 "RegisterSealer" "failures" "I"] ++ wsX00)
def wsX1_hash : List Cond := .code yX1_hash cX1_hash 7 (some .long) :: ([.fieldLink RX1 39 "RegisterSealerModel" "row" "[J", .constantLong RX1 53 (3141592653589793239)] ++ wsX10)
def wsX1_init : List Cond := .code yX1_init cX1_init 3 none :: ([.methodLink RX1 1 objectInit, .instanceMethod objectInit, .code objectInit ⟨#[0xb1]⟩ 1 none, .arrayClass .int, .fieldLink RX1 7 "RegisterSealerModel" "what" "[I", .arrayClass .long, .fieldLink RX1 13 "RegisterSealerModel" "with" "[J", .arrayClass .boolean, .fieldLink RX1 17 "RegisterSealerModel" "keyThere" "[Z", .fieldLink RX1 21 "RegisterSealerModel" "keySecret" "[J", .fieldLink RX1 24 "RegisterSealerModel" "keyDrawn" "[J", .fieldLink RX1 27 "RegisterSealerModel" "sessionThere" "[Z", .fieldLink RX1 30 "RegisterSealerModel" "caller" "[J", .fieldLink RX1 33 "RegisterSealerModel" "sessionDrawn" "[J", .fieldLink RX1 36 "RegisterSealerModel" "blobWord" "[J", .fieldLink RX1 39 "RegisterSealerModel" "row" "[J", .fieldLink RX1 42 "RegisterSealerModel" "held" "[J", .fieldLink RX1 49 "RegisterSealerModel" "machine" "J", .methodLink RX1 45 yX1_hash, .instanceMethod yX1_hash, .selects RX1 yX1_hash yX1_hash, .initialized RX1, .code yX1_hash cX1_hash 7 (some .long), .constantLong RX1 53 (3141592653589793239)] ++ wsX10)
def wsX1_code : List Cond := .code yX1_code cX1_code 6 (some .long) :: ([.fieldLink RX1 39 "RegisterSealerModel" "row" "[J", .constantLong RX1 55 (92), .constantLong RX1 57 (54), .methodLink RX1 45 yX1_hash, .instanceMethod yX1_hash, .selects RX1 yX1_hash yX1_hash, .initialized RX1, .code yX1_hash cX1_hash 7 (some .long), .constantLong RX1 53 (3141592653589793239)] ++ wsX10)
def wsX1_two : List Cond := .code yX1_two cX1_two 5 (some .long) :: ([.fieldLink RX1 39 "RegisterSealerModel" "row" "[J", .methodLink RX1 45 yX1_hash, .instanceMethod yX1_hash, .selects RX1 yX1_hash yX1_hash, .initialized RX1, .code yX1_hash cX1_hash 7 (some .long), .constantLong RX1 53 (3141592653589793239)] ++ wsX10)
def wsX1_word : List Cond := .code yX1_word cX1_word 3 (some .long) :: ([.fieldLink RX1 49 "RegisterSealerModel" "machine" "J", .methodLink RX1 59 yX1_two, .instanceMethod yX1_two, .selects RX1 yX1_two yX1_two, .initialized RX1, .code yX1_two cX1_two 5 (some .long), .fieldLink RX1 39 "RegisterSealerModel" "row" "[J", .methodLink RX1 45 yX1_hash, .instanceMethod yX1_hash, .selects RX1 yX1_hash yX1_hash, .code yX1_hash cX1_hash 7 (some .long), .constantLong RX1 53 (3141592653589793239)] ++ wsX10)
def wsX1_folded : List Cond := .code yX1_folded cX1_folded 5 (some .long) :: ([.fieldLink RX1 63 "RegisterSealerModel" "done" "I", .fieldLink RX1 7 "RegisterSealerModel" "what" "[I", .fieldLink RX1 13 "RegisterSealerModel" "with" "[J", .methodLink RX1 59 yX1_two, .instanceMethod yX1_two, .selects RX1 yX1_two yX1_two, .initialized RX1, .code yX1_two cX1_two 5 (some .long), .fieldLink RX1 39 "RegisterSealerModel" "row" "[J", .methodLink RX1 45 yX1_hash, .instanceMethod yX1_hash, .selects RX1 yX1_hash yX1_hash, .code yX1_hash cX1_hash 7 (some .long), .constantLong RX1 53 (3141592653589793239)] ++ wsX10)
def wsX1_digestOf : List Cond := .code yX1_digestOf cX1_digestOf 4 (some .long) :: ([.fieldLink RX1 42 "RegisterSealerModel" "held" "[J", .fieldLink RX1 39 "RegisterSealerModel" "row" "[J", .methodLink RX1 67 yX1_folded, .instanceMethod yX1_folded, .selects RX1 yX1_folded yX1_folded, .initialized RX1, .code yX1_folded cX1_folded 5 (some .long), .fieldLink RX1 63 "RegisterSealerModel" "done" "I", .fieldLink RX1 7 "RegisterSealerModel" "what" "[I", .fieldLink RX1 13 "RegisterSealerModel" "with" "[J", .methodLink RX1 59 yX1_two, .instanceMethod yX1_two, .selects RX1 yX1_two yX1_two, .code yX1_two cX1_two 5 (some .long), .methodLink RX1 45 yX1_hash, .instanceMethod yX1_hash, .selects RX1 yX1_hash yX1_hash, .code yX1_hash cX1_hash 7 (some .long), .constantLong RX1 53 (3141592653589793239)] ++ wsX10)
def wsX1_veil : List Cond := .code yX1_veil cX1_veil 5 (some .long) :: ([.fieldLink RX1 39 "RegisterSealerModel" "row" "[J", .fieldLink RX1 49 "RegisterSealerModel" "machine" "J", .methodLink RX1 45 yX1_hash, .instanceMethod yX1_hash, .selects RX1 yX1_hash yX1_hash, .initialized RX1, .code yX1_hash cX1_hash 7 (some .long), .constantLong RX1 53 (3141592653589793239)] ++ wsX10)
def wsX1_sealOf : List Cond := .code yX1_sealOf cX1_sealOf 3 (some .long) :: ([.fieldLink RX1 39 "RegisterSealerModel" "row" "[J", .fieldLink RX1 36 "RegisterSealerModel" "blobWord" "[J", .fieldLink RX1 49 "RegisterSealerModel" "machine" "J", .methodLink RX1 70 yX1_code, .instanceMethod yX1_code, .selects RX1 yX1_code yX1_code, .initialized RX1, .code yX1_code cX1_code 6 (some .long), .constantLong RX1 55 (92), .constantLong RX1 57 (54), .methodLink RX1 45 yX1_hash, .instanceMethod yX1_hash, .selects RX1 yX1_hash yX1_hash, .code yX1_hash cX1_hash 7 (some .long), .constantLong RX1 53 (3141592653589793239)] ++ wsX10)
def wsX1_locality : List Cond := .code yX1_locality cX1_locality 2 (some .boolean) :: ([.fieldLink RX1 74 "RegisterSealerModel" "locality" "I"] ++ wsX10)
def wsX1_note : List Cond := .code yX1_note cX1_note 5 (some .boolean) :: ([.fieldLink RX1 74 "RegisterSealerModel" "locality" "I", .fieldLink RX1 7 "RegisterSealerModel" "what" "[I", .fieldLink RX1 63 "RegisterSealerModel" "done" "I", .fieldLink RX1 13 "RegisterSealerModel" "with" "[J"] ++ wsX10)
def wsX1_extend : List Cond := .code yX1_extend cX1_extend 4 (some .boolean) :: ([.methodLink RX1 77 yX1_note, .instanceMethod yX1_note, .selects RX1 yX1_note yX1_note, .initialized RX1, .code yX1_note cX1_note 5 (some .boolean), .fieldLink RX1 74 "RegisterSealerModel" "locality" "I", .fieldLink RX1 7 "RegisterSealerModel" "what" "[I", .fieldLink RX1 63 "RegisterSealerModel" "done" "I", .fieldLink RX1 13 "RegisterSealerModel" "with" "[J"] ++ wsX10)
def wsX1_reset : List Cond := .code yX1_reset cX1_reset 2 (some .boolean) :: ([.methodLink RX1 77 yX1_note, .instanceMethod yX1_note, .selects RX1 yX1_note yX1_note, .initialized RX1, .code yX1_note cX1_note 5 (some .boolean), .fieldLink RX1 74 "RegisterSealerModel" "locality" "I", .fieldLink RX1 7 "RegisterSealerModel" "what" "[I", .fieldLink RX1 63 "RegisterSealerModel" "done" "I", .fieldLink RX1 13 "RegisterSealerModel" "with" "[J"] ++ wsX10)
def wsX1_register : List Cond := .code yX1_register cX1_register 2 (some .long) :: ([.methodLink RX1 67 yX1_folded, .instanceMethod yX1_folded, .selects RX1 yX1_folded yX1_folded, .initialized RX1, .code yX1_folded cX1_folded 5 (some .long), .fieldLink RX1 63 "RegisterSealerModel" "done" "I", .fieldLink RX1 7 "RegisterSealerModel" "what" "[I", .fieldLink RX1 13 "RegisterSealerModel" "with" "[J", .methodLink RX1 59 yX1_two, .instanceMethod yX1_two, .selects RX1 yX1_two yX1_two, .code yX1_two cX1_two 5 (some .long), .fieldLink RX1 39 "RegisterSealerModel" "row" "[J", .methodLink RX1 45 yX1_hash, .instanceMethod yX1_hash, .selects RX1 yX1_hash yX1_hash, .code yX1_hash cX1_hash 7 (some .long), .constantLong RX1 53 (3141592653589793239)] ++ wsX10)
def wsX1_isMask : List Cond := .code yX1_isMask cX1_isMask 2 (some .boolean) :: ([.constantLong RX1 81 (255)])
def wsX1_digest_r1 : List Cond := [Cond.methodLink RX1 83 yX1_isMask, Cond.static yX1_isMask, Cond.initialized RX1, Cond.code yX1_isMask cX1_isMask 2 (some .boolean), Cond.constantLong RX1 81 (255), Cond.methodLink RX1 87 yX1_digestOf, Cond.instanceMethod yX1_digestOf, Cond.selects RX1 yX1_digestOf yX1_digestOf, Cond.code yX1_digestOf cX1_digestOf 4 (some .long), Cond.fieldLink RX1 42 "RegisterSealerModel" "held" "[J", Cond.fieldLink RX1 39 "RegisterSealerModel" "row" "[J", Cond.methodLink RX1 67 yX1_folded, Cond.instanceMethod yX1_folded, Cond.selects RX1 yX1_folded yX1_folded, Cond.code yX1_folded cX1_folded 5 (some .long), Cond.fieldLink RX1 63 "RegisterSealerModel" "done" "I", Cond.fieldLink RX1 7 "RegisterSealerModel" "what" "[I", Cond.fieldLink RX1 13 "RegisterSealerModel" "with" "[J", Cond.methodLink RX1 59 yX1_two, Cond.instanceMethod yX1_two, Cond.selects RX1 yX1_two yX1_two, Cond.code yX1_two cX1_two 5 (some .long), Cond.methodLink RX1 45 yX1_hash, Cond.instanceMethod yX1_hash]
def wsX1_digest_r2 : List Cond := [Cond.selects RX1 yX1_hash yX1_hash, Cond.code yX1_hash cX1_hash 7 (some .long), Cond.constantLong RX1 53 (3141592653589793239)]
def wsX1_digest : List Cond := .code yX1_digest cX1_digest 2 (some .long) :: ((wsX1_digest_r1 ++ wsX1_digest_r2) ++ wsX10)
def wsX1_hasKey : List Cond := .code yX1_hasKey cX1_hasKey 2 (some .boolean) :: ([.fieldLink RX1 17 "RegisterSealerModel" "keyThere" "[Z"] ++ wsX10)
def wsX1_hasSession : List Cond := .code yX1_hasSession cX1_hasSession 2 (some .boolean) :: ([.fieldLink RX1 27 "RegisterSealerModel" "sessionThere" "[Z"] ++ wsX10)
def wsX1_hasBlob : List Cond := .code yX1_hasBlob cX1_hasBlob 2 (some .boolean) :: ([.fieldLink RX1 90 "RegisterSealerModel" "blobs" "I"] ++ wsX10)
def wsX1_create : List Cond := .code yX1_create cX1_create 4 (some .int) :: ([.fieldLink RX1 17 "RegisterSealerModel" "keyThere" "[Z", .fieldLink RX1 93 "RegisterSealerModel" "drawn" "J", .fieldLink RX1 21 "RegisterSealerModel" "keySecret" "[J", .fieldLink RX1 24 "RegisterSealerModel" "keyDrawn" "[J"] ++ wsX10)
def wsX1_destroy : List Cond := .code yX1_destroy cX1_destroy 2 (some .boolean) :: ([.fieldLink RX1 17 "RegisterSealerModel" "keyThere" "[Z", .methodLink RX1 96 yX1_hasKey, .instanceMethod yX1_hasKey, .selects RX1 yX1_hasKey yX1_hasKey, .initialized RX1, .code yX1_hasKey cX1_hasKey 2 (some .boolean)] ++ wsX10)
def wsX1_nameOf : List Cond := .code yX1_nameOf cX1_nameOf 4 (some .long) :: ([.fieldLink RX1 24 "RegisterSealerModel" "keyDrawn" "[J", .fieldLink RX1 21 "RegisterSealerModel" "keySecret" "[J", .methodLink RX1 100 yX1_word, .instanceMethod yX1_word, .selects RX1 yX1_word yX1_word, .initialized RX1, .code yX1_word cX1_word 3 (some .long), .fieldLink RX1 49 "RegisterSealerModel" "machine" "J", .methodLink RX1 59 yX1_two, .instanceMethod yX1_two, .selects RX1 yX1_two yX1_two, .code yX1_two cX1_two 5 (some .long), .fieldLink RX1 39 "RegisterSealerModel" "row" "[J", .methodLink RX1 45 yX1_hash, .instanceMethod yX1_hash, .selects RX1 yX1_hash yX1_hash, .code yX1_hash cX1_hash 7 (some .long), .constantLong RX1 53 (3141592653589793239)] ++ wsX10)
def wsX1_name_r1 : List Cond := [Cond.methodLink RX1 96 yX1_hasKey, Cond.instanceMethod yX1_hasKey, Cond.selects RX1 yX1_hasKey yX1_hasKey, Cond.initialized RX1, Cond.code yX1_hasKey cX1_hasKey 2 (some .boolean), Cond.fieldLink RX1 17 "RegisterSealerModel" "keyThere" "[Z", Cond.methodLink RX1 104 yX1_nameOf, Cond.instanceMethod yX1_nameOf, Cond.selects RX1 yX1_nameOf yX1_nameOf, Cond.code yX1_nameOf cX1_nameOf 4 (some .long), Cond.fieldLink RX1 24 "RegisterSealerModel" "keyDrawn" "[J", Cond.fieldLink RX1 21 "RegisterSealerModel" "keySecret" "[J", Cond.methodLink RX1 100 yX1_word, Cond.instanceMethod yX1_word, Cond.selects RX1 yX1_word yX1_word, Cond.code yX1_word cX1_word 3 (some .long), Cond.fieldLink RX1 49 "RegisterSealerModel" "machine" "J", Cond.methodLink RX1 59 yX1_two, Cond.instanceMethod yX1_two, Cond.selects RX1 yX1_two yX1_two, Cond.code yX1_two cX1_two 5 (some .long), Cond.fieldLink RX1 39 "RegisterSealerModel" "row" "[J", Cond.methodLink RX1 45 yX1_hash, Cond.instanceMethod yX1_hash]
def wsX1_name_r2 : List Cond := [Cond.selects RX1 yX1_hash yX1_hash, Cond.code yX1_hash cX1_hash 7 (some .long), Cond.constantLong RX1 53 (3141592653589793239)]
def wsX1_name : List Cond := .code yX1_name cX1_name 2 (some .long) :: ((wsX1_name_r1 ++ wsX1_name_r2) ++ wsX10)
def wsX1_begin : List Cond := .code yX1_begin cX1_begin 4 (some .int) :: ([.fieldLink RX1 27 "RegisterSealerModel" "sessionThere" "[Z", .fieldLink RX1 93 "RegisterSealerModel" "drawn" "J", .fieldLink RX1 30 "RegisterSealerModel" "caller" "[J", .fieldLink RX1 33 "RegisterSealerModel" "sessionDrawn" "[J"] ++ wsX10)
def wsX1_end : List Cond := .code yX1_end cX1_end 2 (some .boolean) :: ([.fieldLink RX1 27 "RegisterSealerModel" "sessionThere" "[Z", .methodLink RX1 107 yX1_hasSession, .instanceMethod yX1_hasSession, .selects RX1 yX1_hasSession yX1_hasSession, .initialized RX1, .code yX1_hasSession cX1_hasSession 2 (some .boolean)] ++ wsX10)
def wsX1_nonce : List Cond := .code yX1_nonce cX1_nonce 2 (some .long) :: ([.fieldLink RX1 33 "RegisterSealerModel" "sessionDrawn" "[J", .methodLink RX1 107 yX1_hasSession, .instanceMethod yX1_hasSession, .selects RX1 yX1_hasSession yX1_hasSession, .initialized RX1, .code yX1_hasSession cX1_hasSession 2 (some .boolean), .fieldLink RX1 27 "RegisterSealerModel" "sessionThere" "[Z", .methodLink RX1 100 yX1_word, .instanceMethod yX1_word, .selects RX1 yX1_word yX1_word, .code yX1_word cX1_word 3 (some .long), .fieldLink RX1 49 "RegisterSealerModel" "machine" "J", .methodLink RX1 59 yX1_two, .instanceMethod yX1_two, .selects RX1 yX1_two yX1_two, .code yX1_two cX1_two 5 (some .long), .fieldLink RX1 39 "RegisterSealerModel" "row" "[J", .methodLink RX1 45 yX1_hash, .instanceMethod yX1_hash, .selects RX1 yX1_hash yX1_hash, .code yX1_hash cX1_hash 7 (some .long), .constantLong RX1 53 (3141592653589793239)] ++ wsX10)
def wsX1_rightFor : List Cond := .code yX1_rightFor cX1_rightFor 9 (some .long) :: ([.fieldLink RX1 33 "RegisterSealerModel" "sessionDrawn" "[J", .fieldLink RX1 39 "RegisterSealerModel" "row" "[J", .fieldLink RX1 30 "RegisterSealerModel" "caller" "[J", .methodLink RX1 100 yX1_word, .instanceMethod yX1_word, .selects RX1 yX1_word yX1_word, .initialized RX1, .code yX1_word cX1_word 3 (some .long), .fieldLink RX1 49 "RegisterSealerModel" "machine" "J", .methodLink RX1 59 yX1_two, .instanceMethod yX1_two, .selects RX1 yX1_two yX1_two, .code yX1_two cX1_two 5 (some .long), .methodLink RX1 45 yX1_hash, .instanceMethod yX1_hash, .selects RX1 yX1_hash yX1_hash, .code yX1_hash cX1_hash 7 (some .long), .constantLong RX1 53 (3141592653589793239), .methodLink RX1 70 yX1_code, .instanceMethod yX1_code, .selects RX1 yX1_code yX1_code, .code yX1_code cX1_code 6 (some .long), .constantLong RX1 55 (92), .constantLong RX1 57 (54)] ++ wsX10)
def wsX1_prove_r1 : List Cond := [Cond.fieldLink RX1 36 "RegisterSealerModel" "blobWord" "[J", Cond.fieldLink RX1 117 "RegisterSealerModel" "proof" "J", Cond.methodLink RX1 107 yX1_hasSession, Cond.instanceMethod yX1_hasSession, Cond.selects RX1 yX1_hasSession yX1_hasSession, Cond.initialized RX1, Cond.code yX1_hasSession cX1_hasSession 2 (some .boolean), Cond.fieldLink RX1 27 "RegisterSealerModel" "sessionThere" "[Z", Cond.methodLink RX1 110 yX1_hasBlob, Cond.instanceMethod yX1_hasBlob, Cond.selects RX1 yX1_hasBlob yX1_hasBlob, Cond.code yX1_hasBlob cX1_hasBlob 2 (some .boolean), Cond.fieldLink RX1 90 "RegisterSealerModel" "blobs" "I", Cond.methodLink RX1 59 yX1_two, Cond.instanceMethod yX1_two, Cond.selects RX1 yX1_two yX1_two, Cond.code yX1_two cX1_two 5 (some .long), Cond.fieldLink RX1 39 "RegisterSealerModel" "row" "[J", Cond.methodLink RX1 45 yX1_hash, Cond.instanceMethod yX1_hash, Cond.selects RX1 yX1_hash yX1_hash, Cond.code yX1_hash cX1_hash 7 (some .long), Cond.constantLong RX1 53 (3141592653589793239), Cond.methodLink RX1 113 yX1_rightFor]
def wsX1_prove_r2 : List Cond := [Cond.instanceMethod yX1_rightFor, Cond.selects RX1 yX1_rightFor yX1_rightFor, Cond.code yX1_rightFor cX1_rightFor 9 (some .long), Cond.fieldLink RX1 33 "RegisterSealerModel" "sessionDrawn" "[J", Cond.fieldLink RX1 30 "RegisterSealerModel" "caller" "[J", Cond.methodLink RX1 100 yX1_word, Cond.instanceMethod yX1_word, Cond.selects RX1 yX1_word yX1_word, Cond.code yX1_word cX1_word 3 (some .long), Cond.fieldLink RX1 49 "RegisterSealerModel" "machine" "J", Cond.methodLink RX1 70 yX1_code, Cond.instanceMethod yX1_code, Cond.selects RX1 yX1_code yX1_code, Cond.code yX1_code cX1_code 6 (some .long), Cond.constantLong RX1 55 (92), Cond.constantLong RX1 57 (54)]
def wsX1_prove : List Cond := .code yX1_prove cX1_prove 10 (some .boolean) :: ((wsX1_prove_r1 ++ wsX1_prove_r2) ++ wsX10)
def wsX1_present : List Cond := .code yX1_present cX1_present 3 none :: ([.fieldLink RX1 117 "RegisterSealerModel" "proof" "J"] ++ wsX10)
def wsX1_proved_r1 : List Cond := [Cond.fieldLink RX1 117 "RegisterSealerModel" "proof" "J", Cond.fieldLink RX1 21 "RegisterSealerModel" "keySecret" "[J", Cond.fieldLink RX1 93 "RegisterSealerModel" "drawn" "J", Cond.fieldLink RX1 33 "RegisterSealerModel" "sessionDrawn" "[J", Cond.fieldLink RX1 120 "RegisterSealerModel" "failures" "I", Cond.fieldLink RX1 123 "RegisterSealerModel" "output" "J", Cond.methodLink RX1 113 yX1_rightFor, Cond.instanceMethod yX1_rightFor, Cond.selects RX1 yX1_rightFor yX1_rightFor, Cond.initialized RX1, Cond.code yX1_rightFor cX1_rightFor 9 (some .long), Cond.fieldLink RX1 39 "RegisterSealerModel" "row" "[J", Cond.fieldLink RX1 30 "RegisterSealerModel" "caller" "[J", Cond.methodLink RX1 100 yX1_word, Cond.instanceMethod yX1_word, Cond.selects RX1 yX1_word yX1_word, Cond.code yX1_word cX1_word 3 (some .long), Cond.fieldLink RX1 49 "RegisterSealerModel" "machine" "J", Cond.methodLink RX1 59 yX1_two, Cond.instanceMethod yX1_two, Cond.selects RX1 yX1_two yX1_two, Cond.code yX1_two cX1_two 5 (some .long), Cond.methodLink RX1 45 yX1_hash, Cond.instanceMethod yX1_hash]
def wsX1_proved_r2 : List Cond := [Cond.selects RX1 yX1_hash yX1_hash, Cond.code yX1_hash cX1_hash 7 (some .long), Cond.constantLong RX1 53 (3141592653589793239), Cond.methodLink RX1 70 yX1_code, Cond.instanceMethod yX1_code, Cond.selects RX1 yX1_code yX1_code, Cond.code yX1_code cX1_code 6 (some .long), Cond.constantLong RX1 55 (92), Cond.constantLong RX1 57 (54)]
def wsX1_proved : List Cond := .code yX1_proved cX1_proved 7 (some .boolean) :: ((wsX1_proved_r1 ++ wsX1_proved_r2) ++ wsX10)
def wsX1_seal_r1 : List Cond := [Cond.fieldLink RX1 120 "RegisterSealerModel" "failures" "I", Cond.fieldLink RX1 90 "RegisterSealerModel" "blobs" "I", Cond.fieldLink RX1 93 "RegisterSealerModel" "drawn" "J", Cond.fieldLink RX1 36 "RegisterSealerModel" "blobWord" "[J", Cond.methodLink RX1 107 yX1_hasSession, Cond.instanceMethod yX1_hasSession, Cond.selects RX1 yX1_hasSession yX1_hasSession, Cond.initialized RX1, Cond.code yX1_hasSession cX1_hasSession 2 (some .boolean), Cond.fieldLink RX1 27 "RegisterSealerModel" "sessionThere" "[Z", Cond.methodLink RX1 96 yX1_hasKey, Cond.instanceMethod yX1_hasKey, Cond.selects RX1 yX1_hasKey yX1_hasKey, Cond.code yX1_hasKey cX1_hasKey 2 (some .boolean), Cond.fieldLink RX1 17 "RegisterSealerModel" "keyThere" "[Z", Cond.methodLink RX1 83 yX1_isMask, Cond.static yX1_isMask, Cond.code yX1_isMask cX1_isMask 2 (some .boolean), Cond.constantLong RX1 81 (255), Cond.methodLink RX1 59 yX1_two, Cond.instanceMethod yX1_two, Cond.selects RX1 yX1_two yX1_two, Cond.code yX1_two cX1_two 5 (some .long), Cond.fieldLink RX1 39 "RegisterSealerModel" "row" "[J"]
def wsX1_seal_r2 : List Cond := [Cond.methodLink RX1 45 yX1_hash, Cond.instanceMethod yX1_hash, Cond.selects RX1 yX1_hash yX1_hash, Cond.code yX1_hash cX1_hash 7 (some .long), Cond.constantLong RX1 53 (3141592653589793239), Cond.methodLink RX1 126 yX1_proved, Cond.instanceMethod yX1_proved, Cond.selects RX1 yX1_proved yX1_proved, Cond.code yX1_proved cX1_proved 7 (some .boolean), Cond.fieldLink RX1 117 "RegisterSealerModel" "proof" "J", Cond.fieldLink RX1 21 "RegisterSealerModel" "keySecret" "[J", Cond.fieldLink RX1 33 "RegisterSealerModel" "sessionDrawn" "[J", Cond.fieldLink RX1 123 "RegisterSealerModel" "output" "J", Cond.methodLink RX1 113 yX1_rightFor, Cond.instanceMethod yX1_rightFor, Cond.selects RX1 yX1_rightFor yX1_rightFor, Cond.code yX1_rightFor cX1_rightFor 9 (some .long), Cond.fieldLink RX1 30 "RegisterSealerModel" "caller" "[J", Cond.methodLink RX1 100 yX1_word, Cond.instanceMethod yX1_word, Cond.selects RX1 yX1_word yX1_word, Cond.code yX1_word cX1_word 3 (some .long), Cond.fieldLink RX1 49 "RegisterSealerModel" "machine" "J", Cond.methodLink RX1 70 yX1_code]
def wsX1_seal_r3 : List Cond := [Cond.instanceMethod yX1_code, Cond.selects RX1 yX1_code yX1_code, Cond.code yX1_code cX1_code 6 (some .long), Cond.constantLong RX1 55 (92), Cond.constantLong RX1 57 (54), Cond.methodLink RX1 87 yX1_digestOf, Cond.instanceMethod yX1_digestOf, Cond.selects RX1 yX1_digestOf yX1_digestOf, Cond.code yX1_digestOf cX1_digestOf 4 (some .long), Cond.fieldLink RX1 42 "RegisterSealerModel" "held" "[J", Cond.methodLink RX1 67 yX1_folded, Cond.instanceMethod yX1_folded, Cond.selects RX1 yX1_folded yX1_folded, Cond.code yX1_folded cX1_folded 5 (some .long), Cond.fieldLink RX1 63 "RegisterSealerModel" "done" "I", Cond.fieldLink RX1 7 "RegisterSealerModel" "what" "[I", Cond.fieldLink RX1 13 "RegisterSealerModel" "with" "[J", Cond.methodLink RX1 104 yX1_nameOf, Cond.instanceMethod yX1_nameOf, Cond.selects RX1 yX1_nameOf yX1_nameOf, Cond.code yX1_nameOf cX1_nameOf 4 (some .long), Cond.fieldLink RX1 24 "RegisterSealerModel" "keyDrawn" "[J", Cond.methodLink RX1 130 yX1_veil, Cond.instanceMethod yX1_veil]
def wsX1_seal_r4 : List Cond := [Cond.selects RX1 yX1_veil yX1_veil, Cond.code yX1_veil cX1_veil 5 (some .long), Cond.methodLink RX1 133 yX1_sealOf, Cond.instanceMethod yX1_sealOf, Cond.selects RX1 yX1_sealOf yX1_sealOf, Cond.code yX1_sealOf cX1_sealOf 3 (some .long)]
def wsX1_seal : List Cond := .code yX1_seal cX1_seal 13 (some .int) :: ((wsX1_seal_r1 ++ (wsX1_seal_r2 ++ (wsX1_seal_r3 ++ wsX1_seal_r4))) ++ wsX10)
def wsX1_unseal_r1 : List Cond := [Cond.fieldLink RX1 120 "RegisterSealerModel" "failures" "I", Cond.fieldLink RX1 36 "RegisterSealerModel" "blobWord" "[J", Cond.fieldLink RX1 17 "RegisterSealerModel" "keyThere" "[Z", Cond.fieldLink RX1 123 "RegisterSealerModel" "output" "J", Cond.methodLink RX1 107 yX1_hasSession, Cond.instanceMethod yX1_hasSession, Cond.selects RX1 yX1_hasSession yX1_hasSession, Cond.initialized RX1, Cond.code yX1_hasSession cX1_hasSession 2 (some .boolean), Cond.fieldLink RX1 27 "RegisterSealerModel" "sessionThere" "[Z", Cond.methodLink RX1 110 yX1_hasBlob, Cond.instanceMethod yX1_hasBlob, Cond.selects RX1 yX1_hasBlob yX1_hasBlob, Cond.code yX1_hasBlob cX1_hasBlob 2 (some .boolean), Cond.fieldLink RX1 90 "RegisterSealerModel" "blobs" "I", Cond.methodLink RX1 133 yX1_sealOf, Cond.instanceMethod yX1_sealOf, Cond.selects RX1 yX1_sealOf yX1_sealOf, Cond.code yX1_sealOf cX1_sealOf 3 (some .long), Cond.fieldLink RX1 39 "RegisterSealerModel" "row" "[J", Cond.fieldLink RX1 49 "RegisterSealerModel" "machine" "J", Cond.methodLink RX1 70 yX1_code, Cond.instanceMethod yX1_code, Cond.selects RX1 yX1_code yX1_code]
def wsX1_unseal_r2 : List Cond := [Cond.code yX1_code cX1_code 6 (some .long), Cond.constantLong RX1 55 (92), Cond.constantLong RX1 57 (54), Cond.methodLink RX1 45 yX1_hash, Cond.instanceMethod yX1_hash, Cond.selects RX1 yX1_hash yX1_hash, Cond.code yX1_hash cX1_hash 7 (some .long), Cond.constantLong RX1 53 (3141592653589793239), Cond.methodLink RX1 104 yX1_nameOf, Cond.instanceMethod yX1_nameOf, Cond.selects RX1 yX1_nameOf yX1_nameOf, Cond.code yX1_nameOf cX1_nameOf 4 (some .long), Cond.fieldLink RX1 24 "RegisterSealerModel" "keyDrawn" "[J", Cond.fieldLink RX1 21 "RegisterSealerModel" "keySecret" "[J", Cond.methodLink RX1 100 yX1_word, Cond.instanceMethod yX1_word, Cond.selects RX1 yX1_word yX1_word, Cond.code yX1_word cX1_word 3 (some .long), Cond.methodLink RX1 59 yX1_two, Cond.instanceMethod yX1_two, Cond.selects RX1 yX1_two yX1_two, Cond.code yX1_two cX1_two 5 (some .long), Cond.methodLink RX1 126 yX1_proved, Cond.instanceMethod yX1_proved]
def wsX1_unseal_r3 : List Cond := [Cond.selects RX1 yX1_proved yX1_proved, Cond.code yX1_proved cX1_proved 7 (some .boolean), Cond.fieldLink RX1 117 "RegisterSealerModel" "proof" "J", Cond.fieldLink RX1 93 "RegisterSealerModel" "drawn" "J", Cond.fieldLink RX1 33 "RegisterSealerModel" "sessionDrawn" "[J", Cond.methodLink RX1 113 yX1_rightFor, Cond.instanceMethod yX1_rightFor, Cond.selects RX1 yX1_rightFor yX1_rightFor, Cond.code yX1_rightFor cX1_rightFor 9 (some .long), Cond.fieldLink RX1 30 "RegisterSealerModel" "caller" "[J", Cond.methodLink RX1 83 yX1_isMask, Cond.static yX1_isMask, Cond.code yX1_isMask cX1_isMask 2 (some .boolean), Cond.constantLong RX1 81 (255), Cond.methodLink RX1 87 yX1_digestOf, Cond.instanceMethod yX1_digestOf, Cond.selects RX1 yX1_digestOf yX1_digestOf, Cond.code yX1_digestOf cX1_digestOf 4 (some .long), Cond.fieldLink RX1 42 "RegisterSealerModel" "held" "[J", Cond.methodLink RX1 67 yX1_folded, Cond.instanceMethod yX1_folded, Cond.selects RX1 yX1_folded yX1_folded, Cond.code yX1_folded cX1_folded 5 (some .long), Cond.fieldLink RX1 63 "RegisterSealerModel" "done" "I"]
def wsX1_unseal_r4 : List Cond := [Cond.fieldLink RX1 7 "RegisterSealerModel" "what" "[I", Cond.fieldLink RX1 13 "RegisterSealerModel" "with" "[J", Cond.methodLink RX1 130 yX1_veil, Cond.instanceMethod yX1_veil, Cond.selects RX1 yX1_veil yX1_veil, Cond.code yX1_veil cX1_veil 5 (some .long)]
def wsX1_unseal : List Cond := .code yX1_unseal cX1_unseal 7 (some .int) :: ((wsX1_unseal_r1 ++ (wsX1_unseal_r2 ++ (wsX1_unseal_r3 ++ wsX1_unseal_r4))) ++ wsX10)
def wsX1_quote_r1 : List Cond := [Cond.fieldLink RX1 120 "RegisterSealerModel" "failures" "I", Cond.fieldLink RX1 39 "RegisterSealerModel" "row" "[J", Cond.fieldLink RX1 21 "RegisterSealerModel" "keySecret" "[J", Cond.fieldLink RX1 123 "RegisterSealerModel" "output" "J", Cond.methodLink RX1 107 yX1_hasSession, Cond.instanceMethod yX1_hasSession, Cond.selects RX1 yX1_hasSession yX1_hasSession, Cond.initialized RX1, Cond.code yX1_hasSession cX1_hasSession 2 (some .boolean), Cond.fieldLink RX1 27 "RegisterSealerModel" "sessionThere" "[Z", Cond.methodLink RX1 96 yX1_hasKey, Cond.instanceMethod yX1_hasKey, Cond.selects RX1 yX1_hasKey yX1_hasKey, Cond.code yX1_hasKey cX1_hasKey 2 (some .boolean), Cond.fieldLink RX1 17 "RegisterSealerModel" "keyThere" "[Z", Cond.methodLink RX1 83 yX1_isMask, Cond.static yX1_isMask, Cond.code yX1_isMask cX1_isMask 2 (some .boolean), Cond.constantLong RX1 81 (255), Cond.methodLink RX1 59 yX1_two, Cond.instanceMethod yX1_two, Cond.selects RX1 yX1_two yX1_two, Cond.code yX1_two cX1_two 5 (some .long), Cond.methodLink RX1 45 yX1_hash]
def wsX1_quote_r2 : List Cond := [Cond.instanceMethod yX1_hash, Cond.selects RX1 yX1_hash yX1_hash, Cond.code yX1_hash cX1_hash 7 (some .long), Cond.constantLong RX1 53 (3141592653589793239), Cond.methodLink RX1 126 yX1_proved, Cond.instanceMethod yX1_proved, Cond.selects RX1 yX1_proved yX1_proved, Cond.code yX1_proved cX1_proved 7 (some .boolean), Cond.fieldLink RX1 117 "RegisterSealerModel" "proof" "J", Cond.fieldLink RX1 93 "RegisterSealerModel" "drawn" "J", Cond.fieldLink RX1 33 "RegisterSealerModel" "sessionDrawn" "[J", Cond.methodLink RX1 113 yX1_rightFor, Cond.instanceMethod yX1_rightFor, Cond.selects RX1 yX1_rightFor yX1_rightFor, Cond.code yX1_rightFor cX1_rightFor 9 (some .long), Cond.fieldLink RX1 30 "RegisterSealerModel" "caller" "[J", Cond.methodLink RX1 100 yX1_word, Cond.instanceMethod yX1_word, Cond.selects RX1 yX1_word yX1_word, Cond.code yX1_word cX1_word 3 (some .long), Cond.fieldLink RX1 49 "RegisterSealerModel" "machine" "J", Cond.methodLink RX1 70 yX1_code, Cond.instanceMethod yX1_code, Cond.selects RX1 yX1_code yX1_code]
def wsX1_quote_r3 : List Cond := [Cond.code yX1_code cX1_code 6 (some .long), Cond.constantLong RX1 55 (92), Cond.constantLong RX1 57 (54), Cond.methodLink RX1 87 yX1_digestOf, Cond.instanceMethod yX1_digestOf, Cond.selects RX1 yX1_digestOf yX1_digestOf, Cond.code yX1_digestOf cX1_digestOf 4 (some .long), Cond.fieldLink RX1 42 "RegisterSealerModel" "held" "[J", Cond.methodLink RX1 67 yX1_folded, Cond.instanceMethod yX1_folded, Cond.selects RX1 yX1_folded yX1_folded, Cond.code yX1_folded cX1_folded 5 (some .long), Cond.fieldLink RX1 63 "RegisterSealerModel" "done" "I", Cond.fieldLink RX1 7 "RegisterSealerModel" "what" "[I", Cond.fieldLink RX1 13 "RegisterSealerModel" "with" "[J"]
def wsX1_quote : List Cond := .code yX1_quote cX1_quote 10 (some .int) :: ((wsX1_quote_r1 ++ (wsX1_quote_r2 ++ wsX1_quote_r3)) ++ wsX10)
def wsX1_output : List Cond := .code yX1_output cX1_output 1 (some .long) :: ([.fieldLink RX1 123 "RegisterSealerModel" "output" "J"] ++ wsX10)
def wsX1_blob : List Cond := .code yX1_blob cX1_blob 3 (some .long) :: ([.fieldLink RX1 36 "RegisterSealerModel" "blobWord" "[J", .methodLink RX1 110 yX1_hasBlob, .instanceMethod yX1_hasBlob, .selects RX1 yX1_hasBlob yX1_hasBlob, .initialized RX1, .code yX1_hasBlob cX1_hasBlob 2 (some .boolean), .fieldLink RX1 90 "RegisterSealerModel" "blobs" "I"] ++ wsX10)
def wsX1_change : List Cond := .code yX1_change cX1_change 5 (some .boolean) :: ([.fieldLink RX1 36 "RegisterSealerModel" "blobWord" "[J", .methodLink RX1 110 yX1_hasBlob, .instanceMethod yX1_hasBlob, .selects RX1 yX1_hasBlob yX1_hasBlob, .initialized RX1, .code yX1_hasBlob cX1_hasBlob 2 (some .boolean), .fieldLink RX1 90 "RegisterSealerModel" "blobs" "I"] ++ wsX10)
def wsX1_reboot : List Cond := .code yX1_reboot cX1_reboot 2 none :: ([.fieldLink RX1 63 "RegisterSealerModel" "done" "I", .fieldLink RX1 74 "RegisterSealerModel" "locality" "I", .fieldLink RX1 120 "RegisterSealerModel" "failures" "I", .fieldLink RX1 123 "RegisterSealerModel" "output" "J", .fieldLink RX1 27 "RegisterSealerModel" "sessionThere" "[Z"] ++ wsX10)
def wsX1_failures : List Cond := .code yX1_failures cX1_failures 1 (some .int) :: ([.fieldLink RX1 120 "RegisterSealerModel" "failures" "I"] ++ wsX10)
def wsL_cell : List Cond := .code yL_cell cL_cell 2 (some .int) :: ([])
def wsL_law_r1 : List Cond := [Cond.classLink RL 7 RX0, Cond.instantiable RX0 15, Cond.initialized RX0, Cond.classLink RL 18 RX1, Cond.instantiable RX1 19, Cond.initialized RX1, Cond.constantLong RL 26 (4294967295), Cond.methodLink RL 9 yL_cell, Cond.static yL_cell, Cond.initialized RL, Cond.code yL_cell cL_cell 2 (some .int), Cond.methodLink RL 15 yX0_init, Cond.instanceMethod yX0_init, Cond.code yX0_init cX0_init 3 none, Cond.methodLink RX0 1 objectInit, Cond.instanceMethod objectInit, Cond.code objectInit ⟨#[0xb1]⟩ 1 none, Cond.fieldLink RX0 13 "RegisterSealer" "machineSecret" "J", Cond.arrayClass .long, Cond.fieldLink RX0 17 "RegisterSealer" "registers" "[J", Cond.arrayClass .boolean, Cond.fieldLink RX0 21 "RegisterSealer" "keyThere" "[Z", Cond.fieldLink RX0 25 "RegisterSealer" "keySecrets" "[J", Cond.fieldLink RX0 28 "RegisterSealer" "keyNames" "[J"]
def wsL_law_r2 : List Cond := [Cond.fieldLink RX0 31 "RegisterSealer" "sessionThere" "[Z", Cond.fieldLink RX0 34 "RegisterSealer" "callerNonces" "[J", Cond.fieldLink RX0 37 "RegisterSealer" "machineNonces" "[J", Cond.classLink RX0 40 "[[J", Cond.fieldLink RX0 42 "RegisterSealer" "blobs" "[[J", Cond.methodLink RX0 7 yX0_hash2, Cond.static yX0_hash2, Cond.code yX0_hash2 cX0_hash2 4 (some .long), Cond.constantLong RX0 159 (2), Cond.methodLink RX0 143 yX0_fold, Cond.static yX0_fold, Cond.code yX0_fold cX0_fold 6 (some .long), Cond.constantLong RX0 161 (3141592653589793239), Cond.methodLink RL 20 yX1_init, Cond.instanceMethod yX1_init, Cond.code yX1_init cX1_init 3 none, Cond.methodLink RX1 1 objectInit, Cond.arrayClass .int, Cond.fieldLink RX1 7 "RegisterSealerModel" "what" "[I", Cond.fieldLink RX1 13 "RegisterSealerModel" "with" "[J", Cond.fieldLink RX1 17 "RegisterSealerModel" "keyThere" "[Z", Cond.fieldLink RX1 21 "RegisterSealerModel" "keySecret" "[J", Cond.fieldLink RX1 24 "RegisterSealerModel" "keyDrawn" "[J", Cond.fieldLink RX1 27 "RegisterSealerModel" "sessionThere" "[Z"]
def wsL_law_r3 : List Cond := [Cond.fieldLink RX1 30 "RegisterSealerModel" "caller" "[J", Cond.fieldLink RX1 33 "RegisterSealerModel" "sessionDrawn" "[J", Cond.fieldLink RX1 36 "RegisterSealerModel" "blobWord" "[J", Cond.fieldLink RX1 39 "RegisterSealerModel" "row" "[J", Cond.fieldLink RX1 42 "RegisterSealerModel" "held" "[J", Cond.fieldLink RX1 49 "RegisterSealerModel" "machine" "J", Cond.methodLink RX1 45 yX1_hash, Cond.instanceMethod yX1_hash, Cond.selects RX1 yX1_hash yX1_hash, Cond.code yX1_hash cX1_hash 7 (some .long), Cond.constantLong RX1 53 (3141592653589793239), Cond.methodLink RL 21 yX0_locality, Cond.instanceMethod yX0_locality, Cond.selects RX0 yX0_locality yX0_locality, Cond.code yX0_locality cX0_locality 2 (some .boolean), Cond.fieldLink RX0 45 "RegisterSealer" "locality" "I", Cond.methodLink RL 25 yX1_locality, Cond.instanceMethod yX1_locality, Cond.selects RX1 yX1_locality yX1_locality, Cond.code yX1_locality cX1_locality 2 (some .boolean), Cond.fieldLink RX1 74 "RegisterSealerModel" "locality" "I", Cond.methodLink RL 28 yX0_extend, Cond.instanceMethod yX0_extend, Cond.selects RX0 yX0_extend yX0_extend]
def wsL_law_r4 : List Cond := [Cond.code yX0_extend cX0_extend 4 (some .boolean), Cond.methodLink RX0 49 yX0_isRegister, Cond.static yX0_isRegister, Cond.code yX0_isRegister cX0_isRegister 1 (some .boolean), Cond.methodLink RX0 53 yX0_isOpen, Cond.instanceMethod yX0_isOpen, Cond.selects RX0 yX0_isOpen yX0_isOpen, Cond.code yX0_isOpen cX0_isOpen 2 (some .boolean), Cond.methodLink RL 32 yX1_extend, Cond.instanceMethod yX1_extend, Cond.selects RX1 yX1_extend yX1_extend, Cond.code yX1_extend cX1_extend 4 (some .boolean), Cond.methodLink RX1 77 yX1_note, Cond.instanceMethod yX1_note, Cond.selects RX1 yX1_note yX1_note, Cond.code yX1_note cX1_note 5 (some .boolean), Cond.fieldLink RX1 63 "RegisterSealerModel" "done" "I", Cond.methodLink RL 33 yX0_reset, Cond.instanceMethod yX0_reset, Cond.selects RX0 yX0_reset yX0_reset, Cond.code yX0_reset cX0_reset 2 (some .boolean), Cond.methodLink RL 36 yX1_reset, Cond.instanceMethod yX1_reset, Cond.selects RX1 yX1_reset yX1_reset]
def wsL_law_r5 : List Cond := [Cond.code yX1_reset cX1_reset 2 (some .boolean), Cond.methodLink RL 37 yX0_register, Cond.instanceMethod yX0_register, Cond.selects RX0 yX0_register yX0_register, Cond.code yX0_register cX0_register 2 (some .long), Cond.methodLink RL 41 yX1_register, Cond.instanceMethod yX1_register, Cond.selects RX1 yX1_register yX1_register, Cond.code yX1_register cX1_register 2 (some .long), Cond.methodLink RX1 67 yX1_folded, Cond.instanceMethod yX1_folded, Cond.selects RX1 yX1_folded yX1_folded, Cond.code yX1_folded cX1_folded 5 (some .long), Cond.methodLink RX1 59 yX1_two, Cond.instanceMethod yX1_two, Cond.selects RX1 yX1_two yX1_two, Cond.code yX1_two cX1_two 5 (some .long), Cond.methodLink RL 42 yX0_digest, Cond.instanceMethod yX0_digest, Cond.selects RX0 yX0_digest yX0_digest, Cond.code yX0_digest cX0_digest 2 (some .long), Cond.methodLink RX0 56 yX0_isMask, Cond.static yX0_isMask, Cond.code yX0_isMask cX0_isMask 2 (some .boolean)]
def wsL_law_r6 : List Cond := [Cond.constantLong RX0 132 (255), Cond.methodLink RX0 60 yX0_digestNow, Cond.instanceMethod yX0_digestNow, Cond.selects RX0 yX0_digestNow yX0_digestNow, Cond.code yX0_digestNow cX0_digestNow 5 (some .long), Cond.methodLink RX0 137 yJ6_bitCount_0f7a4, Cond.static yJ6_bitCount_0f7a4, Cond.initialized RJ6, Cond.code yJ6_bitCount_0f7a4 cJ6_bitCount_0f7a4 1 (some .int), Cond.constant RJ6 265 (1431655765), Cond.constant RJ6 266 (858993459), Cond.constant RJ6 267 (252645135), Cond.methodLink RL 45 yX1_digest, Cond.instanceMethod yX1_digest, Cond.selects RX1 yX1_digest yX1_digest, Cond.code yX1_digest cX1_digest 2 (some .long), Cond.methodLink RX1 83 yX1_isMask, Cond.static yX1_isMask, Cond.code yX1_isMask cX1_isMask 2 (some .boolean), Cond.constantLong RX1 81 (255), Cond.methodLink RX1 87 yX1_digestOf, Cond.instanceMethod yX1_digestOf, Cond.selects RX1 yX1_digestOf yX1_digestOf, Cond.code yX1_digestOf cX1_digestOf 4 (some .long)]
def wsL_law_r7 : List Cond := [Cond.methodLink RL 46 yX0_create, Cond.instanceMethod yX0_create, Cond.selects RX0 yX0_create yX0_create, Cond.code yX0_create cX0_create 4 (some .int), Cond.methodLink RX0 64 yX0_leastFree, Cond.static yX0_leastFree, Cond.code yX0_leastFree cX0_leastFree 2 (some .int), Cond.methodLink RX0 68 yX0_draw, Cond.instanceMethod yX0_draw, Cond.selects RX0 yX0_draw yX0_draw, Cond.code yX0_draw cX0_draw 1 (some .long), Cond.fieldLink RX0 134 "RegisterSealer" "drawn" "J", Cond.methodLink RL 50 yX1_create, Cond.instanceMethod yX1_create, Cond.selects RX1 yX1_create yX1_create, Cond.code yX1_create cX1_create 4 (some .int), Cond.fieldLink RX1 93 "RegisterSealerModel" "drawn" "J", Cond.methodLink RL 51 yX0_destroy, Cond.instanceMethod yX0_destroy, Cond.selects RX0 yX0_destroy yX0_destroy, Cond.code yX0_destroy cX0_destroy 2 (some .boolean), Cond.methodLink RX0 72 yX0_isKey, Cond.instanceMethod yX0_isKey, Cond.selects RX0 yX0_isKey yX0_isKey]
def wsL_law_r8 : List Cond := [Cond.code yX0_isKey cX0_isKey 2 (some .boolean), Cond.methodLink RL 54 yX1_destroy, Cond.instanceMethod yX1_destroy, Cond.selects RX1 yX1_destroy yX1_destroy, Cond.code yX1_destroy cX1_destroy 2 (some .boolean), Cond.methodLink RX1 96 yX1_hasKey, Cond.instanceMethod yX1_hasKey, Cond.selects RX1 yX1_hasKey yX1_hasKey, Cond.code yX1_hasKey cX1_hasKey 2 (some .boolean), Cond.methodLink RL 55 yX0_name, Cond.instanceMethod yX0_name, Cond.selects RX0 yX0_name yX0_name, Cond.code yX0_name cX0_name 2 (some .long), Cond.methodLink RL 58 yX1_name, Cond.instanceMethod yX1_name, Cond.selects RX1 yX1_name yX1_name, Cond.code yX1_name cX1_name 2 (some .long), Cond.methodLink RX1 104 yX1_nameOf, Cond.instanceMethod yX1_nameOf, Cond.selects RX1 yX1_nameOf yX1_nameOf, Cond.code yX1_nameOf cX1_nameOf 4 (some .long), Cond.methodLink RX1 100 yX1_word, Cond.instanceMethod yX1_word, Cond.selects RX1 yX1_word yX1_word]
def wsL_law_r9 : List Cond := [Cond.code yX1_word cX1_word 3 (some .long), Cond.methodLink RL 59 yX0_begin, Cond.instanceMethod yX0_begin, Cond.selects RX0 yX0_begin yX0_begin, Cond.code yX0_begin cX0_begin 4 (some .int), Cond.methodLink RL 62 yX1_begin, Cond.instanceMethod yX1_begin, Cond.selects RX1 yX1_begin yX1_begin, Cond.code yX1_begin cX1_begin 4 (some .int), Cond.methodLink RL 63 yX0_end, Cond.instanceMethod yX0_end, Cond.selects RX0 yX0_end yX0_end, Cond.code yX0_end cX0_end 2 (some .boolean), Cond.methodLink RX0 75 yX0_isSession, Cond.instanceMethod yX0_isSession, Cond.selects RX0 yX0_isSession yX0_isSession, Cond.code yX0_isSession cX0_isSession 2 (some .boolean), Cond.methodLink RL 66 yX1_end, Cond.instanceMethod yX1_end, Cond.selects RX1 yX1_end yX1_end, Cond.code yX1_end cX1_end 2 (some .boolean), Cond.methodLink RX1 107 yX1_hasSession, Cond.instanceMethod yX1_hasSession, Cond.selects RX1 yX1_hasSession yX1_hasSession]
def wsL_law_r10 : List Cond := [Cond.code yX1_hasSession cX1_hasSession 2 (some .boolean), Cond.methodLink RL 67 yX0_nonce, Cond.instanceMethod yX0_nonce, Cond.selects RX0 yX0_nonce yX0_nonce, Cond.code yX0_nonce cX0_nonce 2 (some .long), Cond.methodLink RL 70 yX1_nonce, Cond.instanceMethod yX1_nonce, Cond.selects RX1 yX1_nonce yX1_nonce, Cond.code yX1_nonce cX1_nonce 2 (some .long), Cond.methodLink RL 71 yX0_prove, Cond.instanceMethod yX0_prove, Cond.selects RX0 yX0_prove yX0_prove, Cond.code yX0_prove cX0_prove 10 (some .boolean), Cond.fieldLink RX0 85 "RegisterSealer" "proof" "J", Cond.methodLink RX0 78 yX0_isBlob, Cond.instanceMethod yX0_isBlob, Cond.selects RX0 yX0_isBlob yX0_isBlob, Cond.code yX0_isBlob cX0_isBlob 2 (some .boolean), Cond.fieldLink RX0 92 "RegisterSealer" "blobCount" "I", Cond.methodLink RX0 81 yX0_rightProof, Cond.instanceMethod yX0_rightProof, Cond.selects RX0 yX0_rightProof yX0_rightProof, Cond.code yX0_rightProof cX0_rightProof 9 (some .long), Cond.methodLink RX0 146 yX0_macBegin]
def wsL_law_r11 : List Cond := [Cond.static yX0_macBegin, Cond.code yX0_macBegin cX0_macBegin 3 (some .long), Cond.constantLong RX0 155 (92), Cond.methodLink RX0 150 yX0_macEnd, Cond.static yX0_macEnd, Cond.code yX0_macEnd cX0_macEnd 4 (some .long), Cond.constantLong RX0 157 (54), Cond.methodLink RL 75 yX1_prove, Cond.instanceMethod yX1_prove, Cond.selects RX1 yX1_prove yX1_prove, Cond.code yX1_prove cX1_prove 10 (some .boolean), Cond.fieldLink RX1 117 "RegisterSealerModel" "proof" "J", Cond.methodLink RX1 110 yX1_hasBlob, Cond.instanceMethod yX1_hasBlob, Cond.selects RX1 yX1_hasBlob yX1_hasBlob, Cond.code yX1_hasBlob cX1_hasBlob 2 (some .boolean), Cond.fieldLink RX1 90 "RegisterSealerModel" "blobs" "I", Cond.methodLink RX1 113 yX1_rightFor, Cond.instanceMethod yX1_rightFor, Cond.selects RX1 yX1_rightFor yX1_rightFor, Cond.code yX1_rightFor cX1_rightFor 9 (some .long), Cond.methodLink RX1 70 yX1_code, Cond.instanceMethod yX1_code, Cond.selects RX1 yX1_code yX1_code]
def wsL_law_r12 : List Cond := [Cond.code yX1_code cX1_code 6 (some .long), Cond.constantLong RX1 55 (92), Cond.constantLong RX1 57 (54), Cond.methodLink RL 76 yX0_present, Cond.instanceMethod yX0_present, Cond.selects RX0 yX0_present yX0_present, Cond.code yX0_present cX0_present 3 none, Cond.methodLink RL 80 yX1_present, Cond.instanceMethod yX1_present, Cond.selects RX1 yX1_present yX1_present, Cond.code yX1_present cX1_present 3 none, Cond.methodLink RL 81 yX0_seal, Cond.instanceMethod yX0_seal, Cond.selects RX0 yX0_seal yX0_seal, Cond.code yX0_seal cX0_seal 6 (some .int), Cond.methodLink RX0 88 yX0_isLocked, Cond.instanceMethod yX0_isLocked, Cond.selects RX0 yX0_isLocked yX0_isLocked, Cond.code yX0_isLocked cX0_isLocked 1 (some .boolean), Cond.fieldLink RX0 129 "RegisterSealer" "failures" "I", Cond.methodLink RX0 95 yX0_passesProving, Cond.instanceMethod yX0_passesProving, Cond.selects RX0 yX0_passesProving yX0_passesProving, Cond.code yX0_passesProving cX0_passesProving 8 (some .boolean)]
def wsL_law_r13 : List Cond := [Cond.fieldLink RX0 115 "RegisterSealer" "output" "J", Cond.methodLink RX0 99 yX0_addBlob, Cond.instanceMethod yX0_addBlob, Cond.selects RX0 yX0_addBlob yX0_addBlob, Cond.code yX0_addBlob cX0_addBlob 12 (some .int), Cond.methodLink RX0 118 yX0_cover, Cond.instanceMethod yX0_cover, Cond.selects RX0 yX0_cover yX0_cover, Cond.code yX0_cover cX0_cover 5 (some .long), Cond.constantLong RX0 153 (3), Cond.methodLink RX0 103 yX0_sealOf, Cond.instanceMethod yX0_sealOf, Cond.selects RX0 yX0_sealOf yX0_sealOf, Cond.code yX0_sealOf cX0_sealOf 5 (some .long), Cond.methodLink RL 85 yX1_seal, Cond.instanceMethod yX1_seal, Cond.selects RX1 yX1_seal yX1_seal, Cond.code yX1_seal cX1_seal 13 (some .int), Cond.fieldLink RX1 120 "RegisterSealerModel" "failures" "I", Cond.methodLink RX1 126 yX1_proved, Cond.instanceMethod yX1_proved, Cond.selects RX1 yX1_proved yX1_proved, Cond.code yX1_proved cX1_proved 7 (some .boolean), Cond.fieldLink RX1 123 "RegisterSealerModel" "output" "J"]
def wsL_law_r14 : List Cond := [Cond.methodLink RX1 130 yX1_veil, Cond.instanceMethod yX1_veil, Cond.selects RX1 yX1_veil yX1_veil, Cond.code yX1_veil cX1_veil 5 (some .long), Cond.methodLink RX1 133 yX1_sealOf, Cond.instanceMethod yX1_sealOf, Cond.selects RX1 yX1_sealOf yX1_sealOf, Cond.code yX1_sealOf cX1_sealOf 3 (some .long), Cond.methodLink RL 86 yX0_unseal, Cond.instanceMethod yX0_unseal, Cond.selects RX0 yX0_unseal yX0_unseal, Cond.code yX0_unseal cX0_unseal 5 (some .int), Cond.methodLink RX0 107 yX0_leastKeyNamed, Cond.instanceMethod yX0_leastKeyNamed, Cond.selects RX0 yX0_leastKeyNamed yX0_leastKeyNamed, Cond.code yX0_leastKeyNamed cX0_leastKeyNamed 4 (some .int), Cond.methodLink RX0 111 yX0_isPolicyMet, Cond.instanceMethod yX0_isPolicyMet, Cond.selects RX0 yX0_isPolicyMet yX0_isPolicyMet, Cond.code yX0_isPolicyMet cX0_isPolicyMet 4 (some .boolean), Cond.methodLink RL 90 yX1_unseal, Cond.instanceMethod yX1_unseal, Cond.selects RX1 yX1_unseal yX1_unseal, Cond.code yX1_unseal cX1_unseal 7 (some .int)]
def wsL_law_r15 : List Cond := [Cond.methodLink RL 91 yX0_quote, Cond.instanceMethod yX0_quote, Cond.selects RX0 yX0_quote yX0_quote, Cond.code yX0_quote cX0_quote 8 (some .int), Cond.methodLink RX0 121 yX0_signature, Cond.instanceMethod yX0_signature, Cond.selects RX0 yX0_signature yX0_signature, Cond.code yX0_signature cX0_signature 8 (some .long), Cond.methodLink RL 94 yX1_quote, Cond.instanceMethod yX1_quote, Cond.selects RX1 yX1_quote yX1_quote, Cond.code yX1_quote cX1_quote 10 (some .int), Cond.methodLink RL 95 yX0_output, Cond.instanceMethod yX0_output, Cond.selects RX0 yX0_output yX0_output, Cond.code yX0_output cX0_output 1 (some .long), Cond.methodLink RL 99 yX1_output, Cond.instanceMethod yX1_output, Cond.selects RX1 yX1_output yX1_output, Cond.code yX1_output cX1_output 1 (some .long), Cond.methodLink RL 100 yX0_blob, Cond.instanceMethod yX0_blob, Cond.selects RX0 yX0_blob yX0_blob, Cond.code yX0_blob cX0_blob 3 (some .long)]
def wsL_law_r16 : List Cond := [Cond.methodLink RX0 125 yX0_isBlobWord, Cond.instanceMethod yX0_isBlobWord, Cond.selects RX0 yX0_isBlobWord yX0_isBlobWord, Cond.code yX0_isBlobWord cX0_isBlobWord 3 (some .boolean), Cond.methodLink RL 104 yX1_blob, Cond.instanceMethod yX1_blob, Cond.selects RX1 yX1_blob yX1_blob, Cond.code yX1_blob cX1_blob 3 (some .long), Cond.methodLink RL 105 yX0_change, Cond.instanceMethod yX0_change, Cond.selects RX0 yX0_change yX0_change, Cond.code yX0_change cX0_change 5 (some .boolean), Cond.methodLink RL 109 yX1_change, Cond.instanceMethod yX1_change, Cond.selects RX1 yX1_change yX1_change, Cond.code yX1_change cX1_change 5 (some .boolean), Cond.methodLink RL 110 yX0_reboot, Cond.instanceMethod yX0_reboot, Cond.selects RX0 yX0_reboot yX0_reboot, Cond.code yX0_reboot cX0_reboot 2 none, Cond.methodLink RL 113 yX1_reboot, Cond.instanceMethod yX1_reboot, Cond.selects RX1 yX1_reboot yX1_reboot, Cond.code yX1_reboot cX1_reboot 2 none]
def wsL_law_r17 : List Cond := [Cond.methodLink RL 114 yX0_failures, Cond.instanceMethod yX0_failures, Cond.selects RX0 yX0_failures yX0_failures, Cond.code yX0_failures cX0_failures 1 (some .int), Cond.methodLink RL 118 yX1_failures, Cond.instanceMethod yX1_failures, Cond.selects RX1 yX1_failures yX1_failures, Cond.code yX1_failures cX1_failures 1 (some .int)]
def wsL_law : List Cond := (wsL_law_r1 ++ (wsL_law_r2 ++ (wsL_law_r3 ++ (wsL_law_r4 ++ (wsL_law_r5 ++ (wsL_law_r6 ++ (wsL_law_r7 ++ (wsL_law_r8 ++ (wsL_law_r9 ++ (wsL_law_r10 ++ (wsL_law_r11 ++ (wsL_law_r12 ++ (wsL_law_r13 ++ (wsL_law_r14 ++ (wsL_law_r15 ++ (wsL_law_r16 ++ wsL_law_r17)))))))))))))))) ++ wsX00 ++ wsX10 ++ ([] : List Cond)
set_option maxRecDepth 20000 in
theorem wsL_law_in : ∀ w ∈ wsL_law, w ∈ lw_tbl := fun w h => (goodIn_p wsL_law [276, 39, 42, 45, 49, 281, 286, 104, 350, 108, 111, 115, 354, 358, 119, 362, 123, 366, 370, 374, 127, 130, 135, 138, 378, 381, 386, 145, 148, 152, 390, 156, 160, 394, 398, 164, 402, 406, 410, 168, 414, 172, 176, 418, 422, 180, 426, 184, 188, 192, 195, 199, 430, 434, 438, 442, 204, 448, 208, 212, 216, 220, 224, 229, 452, 456, 460, 464, 233, 237, 241, 468, 245, 249, 472, 253, 476, 257, 261, 480, 265, 484, 269, 488, 273, 492] (by decide +kernel) (by decide +kernel) w h).1
theorem inlX0 : ∀ w ∈ wsX00, w ∈ wsL_law := fun _ h => List.mem_append_left _ (List.mem_append_left _ (List.mem_append_right _ h))
theorem inX0 : ∀ w ∈ wsX00, w ∈ lw_tbl := fun w h => wsL_law_in w (inlX0 w h)
theorem inlX1 : ∀ w ∈ wsX10, w ∈ wsL_law := fun _ h => List.mem_append_left _ (List.mem_append_right _ h)
theorem inX1 : ∀ w ∈ wsX10, w ∈ lw_tbl := fun w h => wsL_law_in w (inlX1 w h)
theorem inJ6 : ∀ w ∈ wsJ60, w ∈ lw_tbl := by decide +kernel
set_option maxRecDepth 20000 in
theorem ggX0_init_X0_hash2 : GoodIn wsX0_init wsX0_hash2 := goodIn_r _ [19, 20, 21, 22, 18, 23, 24] (by decide +kernel) (by decide +kernel)
set_option maxRecDepth 20000 in
theorem gX0_init_X0_hash2 : GoodIn wsX0_init (va_wsS RX0 7 yX0_hash2 wsX0_hash2) := goodIn_app (goodIn_of _ (by decide +kernel)) ggX0_init_X0_hash2
theorem dX0_init_0 : decode cX0_init 0 = .ok (.aload_n 0, 1) := by decide +kernel
theorem dX0_init_1 : decode cX0_init 1 = .ok (.invokespecial 1, 3) := by decide +kernel
theorem dX0_init_4 : decode cX0_init 4 = .ok (.aload_n 0, 1) := by decide +kernel
theorem dX0_init_5 : decode cX0_init 5 = .ok (.iload_n 1, 1) := by decide +kernel
theorem dX0_init_6 : decode cX0_init 6 = .ok (.i2l, 1) := by decide +kernel
theorem dX0_init_7 : decode cX0_init 7 = .ok (.iload_n 2, 1) := by decide +kernel
theorem dX0_init_8 : decode cX0_init 8 = .ok (.i2l, 1) := by decide +kernel
theorem dX0_init_9 : decode cX0_init 9 = .ok (.invokestatic 7, 3) := by decide +kernel
theorem dX0_init_12 : decode cX0_init 12 = .ok (.putfield 13, 3) := by decide +kernel
theorem dX0_init_15 : decode cX0_init 15 = .ok (.aload_n 0, 1) := by decide +kernel
theorem dX0_init_16 : decode cX0_init 16 = .ok (.bipush 8, 2) := by decide +kernel
theorem dX0_init_18 : decode cX0_init 18 = .ok (.newarray .long, 2) := by decide +kernel
theorem dX0_init_20 : decode cX0_init 20 = .ok (.putfield 17, 3) := by decide +kernel
theorem dX0_init_23 : decode cX0_init 23 = .ok (.aload_n 0, 1) := by decide +kernel
theorem dX0_init_24 : decode cX0_init 24 = .ok (.bipush 6, 2) := by decide +kernel
theorem dX0_init_26 : decode cX0_init 26 = .ok (.newarray .boolean, 2) := by decide +kernel
theorem dX0_init_28 : decode cX0_init 28 = .ok (.putfield 21, 3) := by decide +kernel
theorem dX0_init_31 : decode cX0_init 31 = .ok (.aload_n 0, 1) := by decide +kernel
theorem dX0_init_32 : decode cX0_init 32 = .ok (.bipush 6, 2) := by decide +kernel
theorem dX0_init_34 : decode cX0_init 34 = .ok (.newarray .long, 2) := by decide +kernel
theorem dX0_init_36 : decode cX0_init 36 = .ok (.putfield 25, 3) := by decide +kernel
theorem dX0_init_39 : decode cX0_init 39 = .ok (.aload_n 0, 1) := by decide +kernel
theorem dX0_init_40 : decode cX0_init 40 = .ok (.bipush 6, 2) := by decide +kernel
theorem dX0_init_42 : decode cX0_init 42 = .ok (.newarray .long, 2) := by decide +kernel
theorem dX0_init_44 : decode cX0_init 44 = .ok (.putfield 28, 3) := by decide +kernel
theorem dX0_init_47 : decode cX0_init 47 = .ok (.aload_n 0, 1) := by decide +kernel
theorem dX0_init_48 : decode cX0_init 48 = .ok (.iconst 4, 1) := by decide +kernel
theorem dX0_init_49 : decode cX0_init 49 = .ok (.newarray .boolean, 2) := by decide +kernel
theorem dX0_init_51 : decode cX0_init 51 = .ok (.putfield 31, 3) := by decide +kernel
theorem dX0_init_54 : decode cX0_init 54 = .ok (.aload_n 0, 1) := by decide +kernel
theorem dX0_init_55 : decode cX0_init 55 = .ok (.iconst 4, 1) := by decide +kernel
theorem dX0_init_56 : decode cX0_init 56 = .ok (.newarray .long, 2) := by decide +kernel
theorem dX0_init_58 : decode cX0_init 58 = .ok (.putfield 34, 3) := by decide +kernel
theorem dX0_init_61 : decode cX0_init 61 = .ok (.aload_n 0, 1) := by decide +kernel
theorem dX0_init_62 : decode cX0_init 62 = .ok (.iconst 4, 1) := by decide +kernel
theorem dX0_init_63 : decode cX0_init 63 = .ok (.newarray .long, 2) := by decide +kernel
theorem dX0_init_65 : decode cX0_init 65 = .ok (.putfield 37, 3) := by decide +kernel
theorem dX0_init_68 : decode cX0_init 68 = .ok (.aload_n 0, 1) := by decide +kernel
theorem dX0_init_69 : decode cX0_init 69 = .ok (.bipush 10, 2) := by decide +kernel
theorem dX0_init_71 : decode cX0_init 71 = .ok (.bipush 6, 2) := by decide +kernel
theorem dX0_init_73 : decode cX0_init 73 = .ok (.multianewarray 40 2, 4) := by decide +kernel
theorem dX0_init_77 : decode cX0_init 77 = .ok (.putfield 42, 3) := by decide +kernel
theorem dX0_init_80 : decode cX0_init 80 = .ok (.return_, 1) := by decide +kernel
theorem dX0_locality_0 : decode cX0_locality 0 = .ok (.iload_n 1, 1) := by decide +kernel
theorem dX0_locality_1 : decode cX0_locality 1 = .ok (.ifCond .lt 8, 3) := by decide +kernel
theorem dX0_locality_4 : decode cX0_locality 4 = .ok (.iload_n 1, 1) := by decide +kernel
theorem dX0_locality_5 : decode cX0_locality 5 = .ok (.iconst 3, 1) := by decide +kernel
theorem dX0_locality_6 : decode cX0_locality 6 = .ok (.if_icmp .le 5, 3) := by decide +kernel
theorem dX0_locality_9 : decode cX0_locality 9 = .ok (.iconst 0, 1) := by decide +kernel
theorem dX0_locality_10 : decode cX0_locality 10 = .ok (.ireturn, 1) := by decide +kernel
theorem dX0_locality_11 : decode cX0_locality 11 = .ok (.aload_n 0, 1) := by decide +kernel
theorem dX0_locality_12 : decode cX0_locality 12 = .ok (.iload_n 1, 1) := by decide +kernel
theorem dX0_locality_13 : decode cX0_locality 13 = .ok (.putfield 45, 3) := by decide +kernel
theorem dX0_locality_16 : decode cX0_locality 16 = .ok (.iconst 1, 1) := by decide +kernel
theorem dX0_locality_17 : decode cX0_locality 17 = .ok (.ireturn, 1) := by decide +kernel
set_option maxRecDepth 20000 in
theorem ggX0_extend_X0_isRegister : GoodIn wsX0_extend wsX0_isRegister := goodIn_r _ [5] (by decide +kernel) (by decide +kernel)
set_option maxRecDepth 20000 in
theorem gX0_extend_X0_isRegister : GoodIn wsX0_extend (va_wsS RX0 49 yX0_isRegister wsX0_isRegister) := goodIn_app (goodIn_of _ (by decide +kernel)) ggX0_extend_X0_isRegister
set_option maxRecDepth 20000 in
theorem ggX0_extend_X0_isOpen : GoodIn wsX0_extend wsX0_isOpen := goodIn_r _ [9, 10, 19, 20, 21, 22, 23, 24, 25, 26, 27, 28, 29, 30, 31, 32, 33] (by decide +kernel) (by decide +kernel)
set_option maxRecDepth 20000 in
theorem gX0_extend_X0_isOpen : GoodIn wsX0_extend (wsV RX0 53 RX0 yX0_isOpen wsX0_isOpen) := goodIn_app (goodIn_of _ (by decide +kernel)) ggX0_extend_X0_isOpen
set_option maxRecDepth 20000 in
theorem ggX0_extend_X0_hash2 : GoodIn wsX0_extend wsX0_hash2 := goodIn_r _ [13, 14, 15, 16, 4, 17, 18] (by decide +kernel) (by decide +kernel)
set_option maxRecDepth 20000 in
theorem gX0_extend_X0_hash2 : GoodIn wsX0_extend (va_wsS RX0 7 yX0_hash2 wsX0_hash2) := goodIn_app (goodIn_of _ (by decide +kernel)) ggX0_extend_X0_hash2
theorem dX0_extend_0 : decode cX0_extend 0 = .ok (.iload_n 1, 1) := by decide +kernel
theorem dX0_extend_1 : decode cX0_extend 1 = .ok (.invokestatic 49, 3) := by decide +kernel
theorem dX0_extend_4 : decode cX0_extend 4 = .ok (.ifCond .eq 11, 3) := by decide +kernel
theorem dX0_extend_7 : decode cX0_extend 7 = .ok (.aload_n 0, 1) := by decide +kernel
theorem dX0_extend_8 : decode cX0_extend 8 = .ok (.iload_n 1, 1) := by decide +kernel
theorem dX0_extend_9 : decode cX0_extend 9 = .ok (.invokevirtual 53, 3) := by decide +kernel
theorem dX0_extend_12 : decode cX0_extend 12 = .ok (.ifCond .ne 5, 3) := by decide +kernel
theorem dX0_extend_15 : decode cX0_extend 15 = .ok (.iconst 0, 1) := by decide +kernel
theorem dX0_extend_16 : decode cX0_extend 16 = .ok (.ireturn, 1) := by decide +kernel
theorem dX0_extend_17 : decode cX0_extend 17 = .ok (.aload_n 0, 1) := by decide +kernel
theorem dX0_extend_18 : decode cX0_extend 18 = .ok (.getfield 17, 3) := by decide +kernel
theorem dX0_extend_21 : decode cX0_extend 21 = .ok (.iload_n 1, 1) := by decide +kernel
theorem dX0_extend_22 : decode cX0_extend 22 = .ok (.aload_n 0, 1) := by decide +kernel
theorem dX0_extend_23 : decode cX0_extend 23 = .ok (.getfield 17, 3) := by decide +kernel
theorem dX0_extend_26 : decode cX0_extend 26 = .ok (.iload_n 1, 1) := by decide +kernel
theorem dX0_extend_27 : decode cX0_extend 27 = .ok (.laload, 1) := by decide +kernel
theorem dX0_extend_28 : decode cX0_extend 28 = .ok (.lload_n 2, 1) := by decide +kernel
theorem dX0_extend_29 : decode cX0_extend 29 = .ok (.invokestatic 7, 3) := by decide +kernel
theorem dX0_extend_32 : decode cX0_extend 32 = .ok (.lastore, 1) := by decide +kernel
theorem dX0_extend_33 : decode cX0_extend 33 = .ok (.iconst 1, 1) := by decide +kernel
theorem dX0_extend_34 : decode cX0_extend 34 = .ok (.ireturn, 1) := by decide +kernel
set_option maxRecDepth 20000 in
theorem ggX0_reset_X0_isRegister : GoodIn wsX0_reset wsX0_isRegister := goodIn_r _ [5] (by decide +kernel) (by decide +kernel)
set_option maxRecDepth 20000 in
theorem gX0_reset_X0_isRegister : GoodIn wsX0_reset (va_wsS RX0 49 yX0_isRegister wsX0_isRegister) := goodIn_app (goodIn_of _ (by decide +kernel)) ggX0_reset_X0_isRegister
set_option maxRecDepth 20000 in
theorem ggX0_reset_X0_isOpen : GoodIn wsX0_reset wsX0_isOpen := goodIn_r _ [9, 10, 11, 12, 13, 14, 15, 16, 17, 18, 19, 20, 21, 22, 23, 24, 25] (by decide +kernel) (by decide +kernel)
set_option maxRecDepth 20000 in
theorem gX0_reset_X0_isOpen : GoodIn wsX0_reset (wsV RX0 53 RX0 yX0_isOpen wsX0_isOpen) := goodIn_app (goodIn_of _ (by decide +kernel)) ggX0_reset_X0_isOpen
theorem dX0_reset_0 : decode cX0_reset 0 = .ok (.iload_n 1, 1) := by decide +kernel
theorem dX0_reset_1 : decode cX0_reset 1 = .ok (.invokestatic 49, 3) := by decide +kernel
theorem dX0_reset_4 : decode cX0_reset 4 = .ok (.ifCond .eq 16, 3) := by decide +kernel
theorem dX0_reset_7 : decode cX0_reset 7 = .ok (.iload_n 1, 1) := by decide +kernel
theorem dX0_reset_8 : decode cX0_reset 8 = .ok (.iconst 4, 1) := by decide +kernel
theorem dX0_reset_9 : decode cX0_reset 9 = .ok (.if_icmp .lt 11, 3) := by decide +kernel
theorem dX0_reset_12 : decode cX0_reset 12 = .ok (.aload_n 0, 1) := by decide +kernel
theorem dX0_reset_13 : decode cX0_reset 13 = .ok (.iload_n 1, 1) := by decide +kernel
theorem dX0_reset_14 : decode cX0_reset 14 = .ok (.invokevirtual 53, 3) := by decide +kernel
theorem dX0_reset_17 : decode cX0_reset 17 = .ok (.ifCond .ne 5, 3) := by decide +kernel
theorem dX0_reset_20 : decode cX0_reset 20 = .ok (.iconst 0, 1) := by decide +kernel
theorem dX0_reset_21 : decode cX0_reset 21 = .ok (.ireturn, 1) := by decide +kernel
theorem dX0_reset_22 : decode cX0_reset 22 = .ok (.aload_n 0, 1) := by decide +kernel
theorem dX0_reset_23 : decode cX0_reset 23 = .ok (.getfield 17, 3) := by decide +kernel
theorem dX0_reset_26 : decode cX0_reset 26 = .ok (.iload_n 1, 1) := by decide +kernel
theorem dX0_reset_27 : decode cX0_reset 27 = .ok (.lconst 0, 1) := by decide +kernel
theorem dX0_reset_28 : decode cX0_reset 28 = .ok (.lastore, 1) := by decide +kernel
theorem dX0_reset_29 : decode cX0_reset 29 = .ok (.iconst 1, 1) := by decide +kernel
theorem dX0_reset_30 : decode cX0_reset 30 = .ok (.ireturn, 1) := by decide +kernel
set_option maxRecDepth 20000 in
theorem ggX0_register_X0_isRegister : GoodIn wsX0_register wsX0_isRegister := goodIn_r _ [5] (by decide +kernel) (by decide +kernel)
set_option maxRecDepth 20000 in
theorem gX0_register_X0_isRegister : GoodIn wsX0_register (va_wsS RX0 49 yX0_isRegister wsX0_isRegister) := goodIn_app (goodIn_of _ (by decide +kernel)) ggX0_register_X0_isRegister
theorem dX0_register_0 : decode cX0_register 0 = .ok (.iload_n 1, 1) := by decide +kernel
theorem dX0_register_1 : decode cX0_register 1 = .ok (.invokestatic 49, 3) := by decide +kernel
theorem dX0_register_4 : decode cX0_register 4 = .ok (.ifCond .eq 12, 3) := by decide +kernel
theorem dX0_register_7 : decode cX0_register 7 = .ok (.aload_n 0, 1) := by decide +kernel
theorem dX0_register_8 : decode cX0_register 8 = .ok (.getfield 17, 3) := by decide +kernel
theorem dX0_register_11 : decode cX0_register 11 = .ok (.iload_n 1, 1) := by decide +kernel
theorem dX0_register_12 : decode cX0_register 12 = .ok (.laload, 1) := by decide +kernel
theorem dX0_register_13 : decode cX0_register 13 = .ok (.goto 4, 3) := by decide +kernel
theorem dX0_register_16 : decode cX0_register 16 = .ok (.lconst 0, 1) := by decide +kernel
theorem dX0_register_17 : decode cX0_register 17 = .ok (.lreturn, 1) := by decide +kernel
set_option maxRecDepth 20000 in
theorem ggX0_digest_X0_isMask : GoodIn wsX0_digest wsX0_isMask := goodIn_r _ [4, 5] (by decide +kernel) (by decide +kernel)
set_option maxRecDepth 20000 in
theorem gX0_digest_X0_isMask : GoodIn wsX0_digest (va_wsS RX0 56 yX0_isMask wsX0_isMask) := goodIn_app (goodIn_of _ (by decide +kernel)) ggX0_digest_X0_isMask
set_option maxRecDepth 20000 in
theorem ggX0_digest_X0_digestNow : GoodIn wsX0_digest wsX0_digestNow := goodIn_r _ [9, 10, 11, 12, 13, 14, 15, 16, 17, 18, 19, 3, 20, 21, 22, 23, 24, 25, 26, 27, 28, 29, 30, 31, 32, 33, 34, 35, 36] (by decide +kernel) (by decide +kernel)
set_option maxRecDepth 20000 in
theorem gX0_digest_X0_digestNow : GoodIn wsX0_digest (wsV RX0 60 RX0 yX0_digestNow wsX0_digestNow) := goodIn_app (goodIn_of _ (by decide +kernel)) ggX0_digest_X0_digestNow
theorem dX0_digest_0 : decode cX0_digest 0 = .ok (.iload_n 1, 1) := by decide +kernel
theorem dX0_digest_1 : decode cX0_digest 1 = .ok (.i2l, 1) := by decide +kernel
theorem dX0_digest_2 : decode cX0_digest 2 = .ok (.invokestatic 56, 3) := by decide +kernel
theorem dX0_digest_5 : decode cX0_digest 5 = .ok (.ifCond .eq 11, 3) := by decide +kernel
theorem dX0_digest_8 : decode cX0_digest 8 = .ok (.aload_n 0, 1) := by decide +kernel
theorem dX0_digest_9 : decode cX0_digest 9 = .ok (.iload_n 1, 1) := by decide +kernel
theorem dX0_digest_10 : decode cX0_digest 10 = .ok (.invokevirtual 60, 3) := by decide +kernel
theorem dX0_digest_13 : decode cX0_digest 13 = .ok (.goto 4, 3) := by decide +kernel
theorem dX0_digest_16 : decode cX0_digest 16 = .ok (.lconst 0, 1) := by decide +kernel
theorem dX0_digest_17 : decode cX0_digest 17 = .ok (.lreturn, 1) := by decide +kernel
set_option maxRecDepth 20000 in
theorem ggX0_create_X0_leastFree : GoodIn wsX0_create wsX0_leastFree := goodIn_r _ [7] (by decide +kernel) (by decide +kernel)
set_option maxRecDepth 20000 in
theorem gX0_create_X0_leastFree : GoodIn wsX0_create (va_wsS RX0 64 yX0_leastFree wsX0_leastFree) := goodIn_app (goodIn_of _ (by decide +kernel)) ggX0_create_X0_leastFree
set_option maxRecDepth 20000 in
theorem ggX0_create_X0_draw : GoodIn wsX0_create wsX0_draw := goodIn_r _ [11, 12, 13, 14, 15, 6, 16, 17, 18, 19, 20, 21, 22, 23, 24, 25, 26, 27, 28, 29, 30, 31, 32, 33, 34, 35, 36] (by decide +kernel) (by decide +kernel)
set_option maxRecDepth 20000 in
theorem gX0_create_X0_draw : GoodIn wsX0_create (wsV RX0 68 RX0 yX0_draw wsX0_draw) := goodIn_app (goodIn_of _ (by decide +kernel)) ggX0_create_X0_draw
set_option maxRecDepth 20000 in
theorem ggX0_create_X0_hash2 : GoodIn wsX0_create wsX0_hash2 := goodIn_r _ [16, 17, 18, 19, 6, 20, 21] (by decide +kernel) (by decide +kernel)
set_option maxRecDepth 20000 in
theorem gX0_create_X0_hash2 : GoodIn wsX0_create (va_wsS RX0 7 yX0_hash2 wsX0_hash2) := goodIn_app (goodIn_of _ (by decide +kernel)) ggX0_create_X0_hash2
theorem dX0_create_0 : decode cX0_create 0 = .ok (.aload_n 0, 1) := by decide +kernel
theorem dX0_create_1 : decode cX0_create 1 = .ok (.getfield 21, 3) := by decide +kernel
theorem dX0_create_4 : decode cX0_create 4 = .ok (.invokestatic 64, 3) := by decide +kernel
theorem dX0_create_7 : decode cX0_create 7 = .ok (.istore_n 3, 1) := by decide +kernel
theorem dX0_create_8 : decode cX0_create 8 = .ok (.iload_n 3, 1) := by decide +kernel
theorem dX0_create_9 : decode cX0_create 9 = .ok (.ifCond .ge 6, 3) := by decide +kernel
theorem dX0_create_12 : decode cX0_create 12 = .ok (.bipush (-5), 2) := by decide +kernel
theorem dX0_create_14 : decode cX0_create 14 = .ok (.ireturn, 1) := by decide +kernel
theorem dX0_create_15 : decode cX0_create 15 = .ok (.aload_n 0, 1) := by decide +kernel
theorem dX0_create_16 : decode cX0_create 16 = .ok (.getfield 21, 3) := by decide +kernel
theorem dX0_create_19 : decode cX0_create 19 = .ok (.iload_n 3, 1) := by decide +kernel
theorem dX0_create_20 : decode cX0_create 20 = .ok (.iconst 1, 1) := by decide +kernel
theorem dX0_create_21 : decode cX0_create 21 = .ok (.bastore, 1) := by decide +kernel
theorem dX0_create_22 : decode cX0_create 22 = .ok (.aload_n 0, 1) := by decide +kernel
theorem dX0_create_23 : decode cX0_create 23 = .ok (.getfield 25, 3) := by decide +kernel
theorem dX0_create_26 : decode cX0_create 26 = .ok (.iload_n 3, 1) := by decide +kernel
theorem dX0_create_27 : decode cX0_create 27 = .ok (.lload_n 1, 1) := by decide +kernel
theorem dX0_create_28 : decode cX0_create 28 = .ok (.lastore, 1) := by decide +kernel
theorem dX0_create_29 : decode cX0_create 29 = .ok (.aload_n 0, 1) := by decide +kernel
theorem dX0_create_30 : decode cX0_create 30 = .ok (.getfield 28, 3) := by decide +kernel
theorem dX0_create_33 : decode cX0_create 33 = .ok (.iload_n 3, 1) := by decide +kernel
theorem dX0_create_34 : decode cX0_create 34 = .ok (.lload_n 1, 1) := by decide +kernel
theorem dX0_create_35 : decode cX0_create 35 = .ok (.aload_n 0, 1) := by decide +kernel
theorem dX0_create_36 : decode cX0_create 36 = .ok (.invokevirtual 68, 3) := by decide +kernel
theorem dX0_create_39 : decode cX0_create 39 = .ok (.invokestatic 7, 3) := by decide +kernel
theorem dX0_create_42 : decode cX0_create 42 = .ok (.lastore, 1) := by decide +kernel
theorem dX0_create_43 : decode cX0_create 43 = .ok (.iload_n 3, 1) := by decide +kernel
theorem dX0_create_44 : decode cX0_create 44 = .ok (.ireturn, 1) := by decide +kernel
set_option maxRecDepth 20000 in
theorem ggX0_destroy_X0_isKey : GoodIn wsX0_destroy wsX0_isKey := goodIn_r _ [6, 1, 7, 8, 9, 10, 11, 12, 13, 14, 15, 16, 17, 18, 19, 20, 21] (by decide +kernel) (by decide +kernel)
set_option maxRecDepth 20000 in
theorem gX0_destroy_X0_isKey : GoodIn wsX0_destroy (wsV RX0 72 RX0 yX0_isKey wsX0_isKey) := goodIn_app (goodIn_of _ (by decide +kernel)) ggX0_destroy_X0_isKey
theorem dX0_destroy_0 : decode cX0_destroy 0 = .ok (.aload_n 0, 1) := by decide +kernel
theorem dX0_destroy_1 : decode cX0_destroy 1 = .ok (.iload_n 1, 1) := by decide +kernel
theorem dX0_destroy_2 : decode cX0_destroy 2 = .ok (.invokevirtual 72, 3) := by decide +kernel
theorem dX0_destroy_5 : decode cX0_destroy 5 = .ok (.ifCond .ne 5, 3) := by decide +kernel
theorem dX0_destroy_8 : decode cX0_destroy 8 = .ok (.iconst 0, 1) := by decide +kernel
theorem dX0_destroy_9 : decode cX0_destroy 9 = .ok (.ireturn, 1) := by decide +kernel
theorem dX0_destroy_10 : decode cX0_destroy 10 = .ok (.aload_n 0, 1) := by decide +kernel
theorem dX0_destroy_11 : decode cX0_destroy 11 = .ok (.getfield 21, 3) := by decide +kernel
theorem dX0_destroy_14 : decode cX0_destroy 14 = .ok (.iload_n 1, 1) := by decide +kernel
theorem dX0_destroy_15 : decode cX0_destroy 15 = .ok (.iconst 0, 1) := by decide +kernel
theorem dX0_destroy_16 : decode cX0_destroy 16 = .ok (.bastore, 1) := by decide +kernel
theorem dX0_destroy_17 : decode cX0_destroy 17 = .ok (.iconst 1, 1) := by decide +kernel
theorem dX0_destroy_18 : decode cX0_destroy 18 = .ok (.ireturn, 1) := by decide +kernel
set_option maxRecDepth 20000 in
theorem ggX0_name_X0_isKey : GoodIn wsX0_name wsX0_isKey := goodIn_r _ [6, 7, 8, 9, 10, 11, 12, 13, 14, 15, 16, 17, 18, 19, 20, 21, 22] (by decide +kernel) (by decide +kernel)
set_option maxRecDepth 20000 in
theorem gX0_name_X0_isKey : GoodIn wsX0_name (wsV RX0 72 RX0 yX0_isKey wsX0_isKey) := goodIn_app (goodIn_of _ (by decide +kernel)) ggX0_name_X0_isKey
theorem dX0_name_0 : decode cX0_name 0 = .ok (.aload_n 0, 1) := by decide +kernel
theorem dX0_name_1 : decode cX0_name 1 = .ok (.iload_n 1, 1) := by decide +kernel
theorem dX0_name_2 : decode cX0_name 2 = .ok (.invokevirtual 72, 3) := by decide +kernel
theorem dX0_name_5 : decode cX0_name 5 = .ok (.ifCond .eq 12, 3) := by decide +kernel
theorem dX0_name_8 : decode cX0_name 8 = .ok (.aload_n 0, 1) := by decide +kernel
theorem dX0_name_9 : decode cX0_name 9 = .ok (.getfield 28, 3) := by decide +kernel
theorem dX0_name_12 : decode cX0_name 12 = .ok (.iload_n 1, 1) := by decide +kernel
theorem dX0_name_13 : decode cX0_name 13 = .ok (.laload, 1) := by decide +kernel
theorem dX0_name_14 : decode cX0_name 14 = .ok (.goto 4, 3) := by decide +kernel
theorem dX0_name_17 : decode cX0_name 17 = .ok (.lconst 0, 1) := by decide +kernel
theorem dX0_name_18 : decode cX0_name 18 = .ok (.lreturn, 1) := by decide +kernel
set_option maxRecDepth 20000 in
theorem ggX0_begin_X0_leastFree : GoodIn wsX0_begin wsX0_leastFree := goodIn_r _ [7] (by decide +kernel) (by decide +kernel)
set_option maxRecDepth 20000 in
theorem gX0_begin_X0_leastFree : GoodIn wsX0_begin (va_wsS RX0 64 yX0_leastFree wsX0_leastFree) := goodIn_app (goodIn_of _ (by decide +kernel)) ggX0_begin_X0_leastFree
set_option maxRecDepth 20000 in
theorem ggX0_begin_X0_draw : GoodIn wsX0_begin wsX0_draw := goodIn_r _ [11, 12, 13, 14, 15, 6, 16, 17, 18, 19, 20, 21, 22, 23, 24, 25, 26, 27, 28, 29, 30, 31, 32, 33, 34, 35, 36] (by decide +kernel) (by decide +kernel)
set_option maxRecDepth 20000 in
theorem gX0_begin_X0_draw : GoodIn wsX0_begin (wsV RX0 68 RX0 yX0_draw wsX0_draw) := goodIn_app (goodIn_of _ (by decide +kernel)) ggX0_begin_X0_draw
theorem dX0_begin_0 : decode cX0_begin 0 = .ok (.aload_n 0, 1) := by decide +kernel
theorem dX0_begin_1 : decode cX0_begin 1 = .ok (.getfield 31, 3) := by decide +kernel
theorem dX0_begin_4 : decode cX0_begin 4 = .ok (.invokestatic 64, 3) := by decide +kernel
theorem dX0_begin_7 : decode cX0_begin 7 = .ok (.istore_n 3, 1) := by decide +kernel
theorem dX0_begin_8 : decode cX0_begin 8 = .ok (.iload_n 3, 1) := by decide +kernel
theorem dX0_begin_9 : decode cX0_begin 9 = .ok (.ifCond .ge 6, 3) := by decide +kernel
theorem dX0_begin_12 : decode cX0_begin 12 = .ok (.bipush (-5), 2) := by decide +kernel
theorem dX0_begin_14 : decode cX0_begin 14 = .ok (.ireturn, 1) := by decide +kernel
theorem dX0_begin_15 : decode cX0_begin 15 = .ok (.aload_n 0, 1) := by decide +kernel
theorem dX0_begin_16 : decode cX0_begin 16 = .ok (.getfield 31, 3) := by decide +kernel
theorem dX0_begin_19 : decode cX0_begin 19 = .ok (.iload_n 3, 1) := by decide +kernel
theorem dX0_begin_20 : decode cX0_begin 20 = .ok (.iconst 1, 1) := by decide +kernel
theorem dX0_begin_21 : decode cX0_begin 21 = .ok (.bastore, 1) := by decide +kernel
theorem dX0_begin_22 : decode cX0_begin 22 = .ok (.aload_n 0, 1) := by decide +kernel
theorem dX0_begin_23 : decode cX0_begin 23 = .ok (.getfield 34, 3) := by decide +kernel
theorem dX0_begin_26 : decode cX0_begin 26 = .ok (.iload_n 3, 1) := by decide +kernel
theorem dX0_begin_27 : decode cX0_begin 27 = .ok (.lload_n 1, 1) := by decide +kernel
theorem dX0_begin_28 : decode cX0_begin 28 = .ok (.lastore, 1) := by decide +kernel
theorem dX0_begin_29 : decode cX0_begin 29 = .ok (.aload_n 0, 1) := by decide +kernel
theorem dX0_begin_30 : decode cX0_begin 30 = .ok (.getfield 37, 3) := by decide +kernel
theorem dX0_begin_33 : decode cX0_begin 33 = .ok (.iload_n 3, 1) := by decide +kernel
theorem dX0_begin_34 : decode cX0_begin 34 = .ok (.aload_n 0, 1) := by decide +kernel
theorem dX0_begin_35 : decode cX0_begin 35 = .ok (.invokevirtual 68, 3) := by decide +kernel
theorem dX0_begin_38 : decode cX0_begin 38 = .ok (.lastore, 1) := by decide +kernel
theorem dX0_begin_39 : decode cX0_begin 39 = .ok (.iload_n 3, 1) := by decide +kernel
theorem dX0_begin_40 : decode cX0_begin 40 = .ok (.ireturn, 1) := by decide +kernel
set_option maxRecDepth 20000 in
theorem ggX0_end_X0_isSession : GoodIn wsX0_end wsX0_isSession := goodIn_r _ [6, 1, 7, 8, 9, 10, 11, 12, 13, 14, 15, 16, 17, 18, 19, 20, 21] (by decide +kernel) (by decide +kernel)
set_option maxRecDepth 20000 in
theorem gX0_end_X0_isSession : GoodIn wsX0_end (wsV RX0 75 RX0 yX0_isSession wsX0_isSession) := goodIn_app (goodIn_of _ (by decide +kernel)) ggX0_end_X0_isSession
theorem dX0_end_0 : decode cX0_end 0 = .ok (.aload_n 0, 1) := by decide +kernel
theorem dX0_end_1 : decode cX0_end 1 = .ok (.iload_n 1, 1) := by decide +kernel
theorem dX0_end_2 : decode cX0_end 2 = .ok (.invokevirtual 75, 3) := by decide +kernel
theorem dX0_end_5 : decode cX0_end 5 = .ok (.ifCond .ne 5, 3) := by decide +kernel
theorem dX0_end_8 : decode cX0_end 8 = .ok (.iconst 0, 1) := by decide +kernel
theorem dX0_end_9 : decode cX0_end 9 = .ok (.ireturn, 1) := by decide +kernel
theorem dX0_end_10 : decode cX0_end 10 = .ok (.aload_n 0, 1) := by decide +kernel
theorem dX0_end_11 : decode cX0_end 11 = .ok (.getfield 31, 3) := by decide +kernel
theorem dX0_end_14 : decode cX0_end 14 = .ok (.iload_n 1, 1) := by decide +kernel
theorem dX0_end_15 : decode cX0_end 15 = .ok (.iconst 0, 1) := by decide +kernel
theorem dX0_end_16 : decode cX0_end 16 = .ok (.bastore, 1) := by decide +kernel
theorem dX0_end_17 : decode cX0_end 17 = .ok (.iconst 1, 1) := by decide +kernel
theorem dX0_end_18 : decode cX0_end 18 = .ok (.ireturn, 1) := by decide +kernel
set_option maxRecDepth 20000 in
theorem ggX0_nonce_X0_isSession : GoodIn wsX0_nonce wsX0_isSession := goodIn_r _ [6, 7, 8, 9, 10, 11, 12, 13, 14, 15, 16, 17, 18, 19, 20, 21, 22] (by decide +kernel) (by decide +kernel)
set_option maxRecDepth 20000 in
theorem gX0_nonce_X0_isSession : GoodIn wsX0_nonce (wsV RX0 75 RX0 yX0_isSession wsX0_isSession) := goodIn_app (goodIn_of _ (by decide +kernel)) ggX0_nonce_X0_isSession
theorem dX0_nonce_0 : decode cX0_nonce 0 = .ok (.aload_n 0, 1) := by decide +kernel
theorem dX0_nonce_1 : decode cX0_nonce 1 = .ok (.iload_n 1, 1) := by decide +kernel
theorem dX0_nonce_2 : decode cX0_nonce 2 = .ok (.invokevirtual 75, 3) := by decide +kernel
theorem dX0_nonce_5 : decode cX0_nonce 5 = .ok (.ifCond .eq 12, 3) := by decide +kernel
theorem dX0_nonce_8 : decode cX0_nonce 8 = .ok (.aload_n 0, 1) := by decide +kernel
theorem dX0_nonce_9 : decode cX0_nonce 9 = .ok (.getfield 37, 3) := by decide +kernel
theorem dX0_nonce_12 : decode cX0_nonce 12 = .ok (.iload_n 1, 1) := by decide +kernel
theorem dX0_nonce_13 : decode cX0_nonce 13 = .ok (.laload, 1) := by decide +kernel
theorem dX0_nonce_14 : decode cX0_nonce 14 = .ok (.goto 4, 3) := by decide +kernel
theorem dX0_nonce_17 : decode cX0_nonce 17 = .ok (.lconst 0, 1) := by decide +kernel
theorem dX0_nonce_18 : decode cX0_nonce 18 = .ok (.lreturn, 1) := by decide +kernel
set_option maxRecDepth 20000 in
theorem ggX0_prove_X0_isSession : GoodIn wsX0_prove wsX0_isSession := goodIn_r _ [7, 8, 36, 37, 38, 39, 40, 41, 42, 43, 44, 45, 46, 47, 48, 49, 50] (by decide +kernel) (by decide +kernel)
set_option maxRecDepth 20000 in
theorem gX0_prove_X0_isSession : GoodIn wsX0_prove (wsV RX0 75 RX0 yX0_isSession wsX0_isSession) := goodIn_app (goodIn_of _ (by decide +kernel)) ggX0_prove_X0_isSession
set_option maxRecDepth 20000 in
theorem ggX0_prove_X0_isBlob : GoodIn wsX0_prove wsX0_isBlob := goodIn_r _ [12, 13, 36, 37, 38, 39, 40, 41, 42, 43, 44, 45, 46, 47, 48, 49, 50] (by decide +kernel) (by decide +kernel)
set_option maxRecDepth 20000 in
theorem gX0_prove_X0_isBlob : GoodIn wsX0_prove (wsV RX0 78 RX0 yX0_isBlob wsX0_isBlob) := goodIn_app (goodIn_of _ (by decide +kernel)) ggX0_prove_X0_isBlob
set_option maxRecDepth 20000 in
theorem ggX0_prove_X0_hash2 : GoodIn wsX0_prove wsX0_hash2 := goodIn_r _ [16, 17, 18, 19, 6, 20, 21] (by decide +kernel) (by decide +kernel)
set_option maxRecDepth 20000 in
theorem gX0_prove_X0_hash2 : GoodIn wsX0_prove (va_wsS RX0 7 yX0_hash2 wsX0_hash2) := goodIn_app (goodIn_of _ (by decide +kernel)) ggX0_prove_X0_hash2
set_option maxRecDepth 20000 in
theorem ggX0_prove_X0_rightProof : GoodIn wsX0_prove wsX0_rightProof := goodIn_r _ [25, 26, 27, 28, 29, 6, 30, 31, 18, 19, 20, 21, 32, 33, 34, 35, 14, 15, 16, 17, 36, 37, 38, 39, 40, 41, 42, 43, 44, 45, 46, 47, 48, 49, 50] (by decide +kernel) (by decide +kernel)
set_option maxRecDepth 20000 in
theorem gX0_prove_X0_rightProof : GoodIn wsX0_prove (wsV RX0 81 RX0 yX0_rightProof wsX0_rightProof) := goodIn_app (goodIn_of _ (by decide +kernel)) ggX0_prove_X0_rightProof
theorem dX0_prove_0 : decode cX0_prove 0 = .ok (.aload_n 0, 1) := by decide +kernel
theorem dX0_prove_1 : decode cX0_prove 1 = .ok (.iload_n 3, 1) := by decide +kernel
theorem dX0_prove_2 : decode cX0_prove 2 = .ok (.invokevirtual 75, 3) := by decide +kernel
theorem dX0_prove_5 : decode cX0_prove 5 = .ok (.ifCond .eq 15, 3) := by decide +kernel
theorem dX0_prove_8 : decode cX0_prove 8 = .ok (.iload 4, 2) := by decide +kernel
theorem dX0_prove_10 : decode cX0_prove 10 = .ok (.iconst 1, 1) := by decide +kernel
theorem dX0_prove_11 : decode cX0_prove 11 = .ok (.if_icmp .lt 9, 3) := by decide +kernel
theorem dX0_prove_14 : decode cX0_prove 14 = .ok (.iload 4, 2) := by decide +kernel
theorem dX0_prove_16 : decode cX0_prove 16 = .ok (.iconst 3, 1) := by decide +kernel
theorem dX0_prove_17 : decode cX0_prove 17 = .ok (.if_icmp .le 5, 3) := by decide +kernel
theorem dX0_prove_20 : decode cX0_prove 20 = .ok (.iconst 0, 1) := by decide +kernel
theorem dX0_prove_21 : decode cX0_prove 21 = .ok (.ireturn, 1) := by decide +kernel
theorem dX0_prove_22 : decode cX0_prove 22 = .ok (.iload 4, 2) := by decide +kernel
theorem dX0_prove_24 : decode cX0_prove 24 = .ok (.iconst 2, 1) := by decide +kernel
theorem dX0_prove_25 : decode cX0_prove 25 = .ok (.if_icmp .ne 14, 3) := by decide +kernel
theorem dX0_prove_28 : decode cX0_prove 28 = .ok (.aload_n 0, 1) := by decide +kernel
theorem dX0_prove_29 : decode cX0_prove 29 = .ok (.iload 5, 2) := by decide +kernel
theorem dX0_prove_31 : decode cX0_prove 31 = .ok (.invokevirtual 78, 3) := by decide +kernel
theorem dX0_prove_34 : decode cX0_prove 34 = .ok (.ifCond .ne 5, 3) := by decide +kernel
theorem dX0_prove_37 : decode cX0_prove 37 = .ok (.iconst 0, 1) := by decide +kernel
theorem dX0_prove_38 : decode cX0_prove 38 = .ok (.ireturn, 1) := by decide +kernel
theorem dX0_prove_39 : decode cX0_prove 39 = .ok (.iload 4, 2) := by decide +kernel
theorem dX0_prove_41 : decode cX0_prove 41 = .ok (.iconst 2, 1) := by decide +kernel
theorem dX0_prove_42 : decode cX0_prove 42 = .ok (.if_icmp .ne 15, 3) := by decide +kernel
theorem dX0_prove_45 : decode cX0_prove 45 = .ok (.aload_n 0, 1) := by decide +kernel
theorem dX0_prove_46 : decode cX0_prove 46 = .ok (.getfield 42, 3) := by decide +kernel
theorem dX0_prove_49 : decode cX0_prove 49 = .ok (.iload 5, 2) := by decide +kernel
theorem dX0_prove_51 : decode cX0_prove 51 = .ok (.aaload, 1) := by decide +kernel
theorem dX0_prove_52 : decode cX0_prove 52 = .ok (.iconst 5, 1) := by decide +kernel
theorem dX0_prove_53 : decode cX0_prove 53 = .ok (.laload, 1) := by decide +kernel
theorem dX0_prove_54 : decode cX0_prove 54 = .ok (.goto 11, 3) := by decide +kernel
theorem dX0_prove_57 : decode cX0_prove 57 = .ok (.iload 5, 2) := by decide +kernel
theorem dX0_prove_59 : decode cX0_prove 59 = .ok (.i2l, 1) := by decide +kernel
theorem dX0_prove_60 : decode cX0_prove 60 = .ok (.lload 6, 2) := by decide +kernel
theorem dX0_prove_62 : decode cX0_prove 62 = .ok (.invokestatic 7, 3) := by decide +kernel
theorem dX0_prove_65 : decode cX0_prove 65 = .ok (.lstore 8, 2) := by decide +kernel
theorem dX0_prove_67 : decode cX0_prove 67 = .ok (.aload_n 0, 1) := by decide +kernel
theorem dX0_prove_68 : decode cX0_prove 68 = .ok (.aload_n 0, 1) := by decide +kernel
theorem dX0_prove_69 : decode cX0_prove 69 = .ok (.lload_n 1, 1) := by decide +kernel
theorem dX0_prove_70 : decode cX0_prove 70 = .ok (.iload_n 3, 1) := by decide +kernel
theorem dX0_prove_71 : decode cX0_prove 71 = .ok (.iload 4, 2) := by decide +kernel
theorem dX0_prove_73 : decode cX0_prove 73 = .ok (.lload 8, 2) := by decide +kernel
theorem dX0_prove_75 : decode cX0_prove 75 = .ok (.invokevirtual 81, 3) := by decide +kernel
theorem dX0_prove_78 : decode cX0_prove 78 = .ok (.putfield 85, 3) := by decide +kernel
theorem dX0_prove_81 : decode cX0_prove 81 = .ok (.iconst 1, 1) := by decide +kernel
theorem dX0_prove_82 : decode cX0_prove 82 = .ok (.ireturn, 1) := by decide +kernel
theorem dX0_present_0 : decode cX0_present 0 = .ok (.aload_n 0, 1) := by decide +kernel
theorem dX0_present_1 : decode cX0_present 1 = .ok (.lload_n 1, 1) := by decide +kernel
theorem dX0_present_2 : decode cX0_present 2 = .ok (.putfield 85, 3) := by decide +kernel
theorem dX0_present_5 : decode cX0_present 5 = .ok (.return_, 1) := by decide +kernel
set_option maxRecDepth 20000 in
theorem ggX0_seal_X0_isSession : GoodIn wsX0_seal wsX0_isSession := goodIn_r _ [8, 9, 84, 85, 86, 87, 88, 89, 90, 91, 92, 93, 94, 95, 96, 97, 98] (by decide +kernel) (by decide +kernel)
set_option maxRecDepth 20000 in
theorem gX0_seal_X0_isSession : GoodIn wsX0_seal (wsV RX0 75 RX0 yX0_isSession wsX0_isSession) := goodIn_app (goodIn_of _ (by decide +kernel)) ggX0_seal_X0_isSession
set_option maxRecDepth 20000 in
theorem ggX0_seal_X0_isKey : GoodIn wsX0_seal wsX0_isKey := goodIn_r _ [13, 14, 84, 85, 86, 87, 88, 89, 90, 91, 92, 93, 94, 95, 96, 97, 98] (by decide +kernel) (by decide +kernel)
set_option maxRecDepth 20000 in
theorem gX0_seal_X0_isKey : GoodIn wsX0_seal (wsV RX0 72 RX0 yX0_isKey wsX0_isKey) := goodIn_app (goodIn_of _ (by decide +kernel)) ggX0_seal_X0_isKey
set_option maxRecDepth 20000 in
theorem ggX0_seal_X0_isMask : GoodIn wsX0_seal wsX0_isMask := goodIn_r _ [17, 18] (by decide +kernel) (by decide +kernel)
set_option maxRecDepth 20000 in
theorem gX0_seal_X0_isMask : GoodIn wsX0_seal (va_wsS RX0 56 yX0_isMask wsX0_isMask) := goodIn_app (goodIn_of _ (by decide +kernel)) ggX0_seal_X0_isMask
set_option maxRecDepth 20000 in
theorem ggX0_seal_X0_isLocked : GoodIn wsX0_seal wsX0_isLocked := goodIn_r _ [22, 23, 84, 85, 86, 87, 88, 89, 90, 91, 92, 93, 94, 95, 96, 97, 98] (by decide +kernel) (by decide +kernel)
set_option maxRecDepth 20000 in
theorem gX0_seal_X0_isLocked : GoodIn wsX0_seal (wsV RX0 88 RX0 yX0_isLocked wsX0_isLocked) := goodIn_app (goodIn_of _ (by decide +kernel)) ggX0_seal_X0_isLocked
set_option maxRecDepth 20000 in
theorem ggX0_seal_X0_hash2 : GoodIn wsX0_seal wsX0_hash2 := goodIn_r _ [26, 27, 28, 29, 7, 30, 31] (by decide +kernel) (by decide +kernel)
set_option maxRecDepth 20000 in
theorem gX0_seal_X0_hash2 : GoodIn wsX0_seal (va_wsS RX0 7 yX0_hash2 wsX0_hash2) := goodIn_app (goodIn_of _ (by decide +kernel)) ggX0_seal_X0_hash2
set_option maxRecDepth 20000 in
theorem ggX0_seal_X0_passesProving : GoodIn wsX0_seal wsX0_passesProving := goodIn_r _ [35, 36, 37, 23, 38, 39, 40, 41, 7, 42, 43, 44, 45, 46, 47, 28, 29, 30, 31, 48, 49, 50, 51, 24, 25, 26, 27, 52, 53, 54, 55, 56, 57, 84, 85, 86, 87, 88, 89, 90, 91, 92, 93, 94, 95, 96, 97, 98] (by decide +kernel) (by decide +kernel)
set_option maxRecDepth 20000 in
theorem gX0_seal_X0_passesProving : GoodIn wsX0_seal (wsV RX0 95 RX0 yX0_passesProving wsX0_passesProving) := goodIn_app (goodIn_of _ (by decide +kernel)) ggX0_seal_X0_passesProving
set_option maxRecDepth 20000 in
theorem ggX0_seal_X0_addBlob : GoodIn wsX0_seal wsX0_addBlob := goodIn_r _ [61, 1, 62, 63, 64, 65, 7, 66, 67, 68, 69, 70, 71, 72, 73, 74, 28, 29, 30, 31, 52, 53, 54, 55, 56, 57, 24, 25, 26, 27, 75, 76, 77, 78, 79, 80, 81, 82, 83, 44, 45, 46, 47, 48, 49, 50, 51, 84, 85, 86, 87, 88, 89, 90, 91, 92, 93, 94, 95, 96, 97, 98] (by decide +kernel) (by decide +kernel)
set_option maxRecDepth 20000 in
theorem gX0_seal_X0_addBlob : GoodIn wsX0_seal (wsV RX0 99 RX0 yX0_addBlob wsX0_addBlob) := goodIn_app (goodIn_of _ (by decide +kernel)) ggX0_seal_X0_addBlob
theorem dX0_seal_0 : decode cX0_seal 0 = .ok (.aload_n 0, 1) := by decide +kernel
theorem dX0_seal_1 : decode cX0_seal 1 = .ok (.iload_n 1, 1) := by decide +kernel
theorem dX0_seal_2 : decode cX0_seal 2 = .ok (.invokevirtual 75, 3) := by decide +kernel
theorem dX0_seal_5 : decode cX0_seal 5 = .ok (.ifCond .eq 19, 3) := by decide +kernel
theorem dX0_seal_8 : decode cX0_seal 8 = .ok (.aload_n 0, 1) := by decide +kernel
theorem dX0_seal_9 : decode cX0_seal 9 = .ok (.iload_n 2, 1) := by decide +kernel
theorem dX0_seal_10 : decode cX0_seal 10 = .ok (.invokevirtual 72, 3) := by decide +kernel
theorem dX0_seal_13 : decode cX0_seal 13 = .ok (.ifCond .eq 11, 3) := by decide +kernel
theorem dX0_seal_16 : decode cX0_seal 16 = .ok (.iload_n 3, 1) := by decide +kernel
theorem dX0_seal_17 : decode cX0_seal 17 = .ok (.i2l, 1) := by decide +kernel
theorem dX0_seal_18 : decode cX0_seal 18 = .ok (.invokestatic 56, 3) := by decide +kernel
theorem dX0_seal_21 : decode cX0_seal 21 = .ok (.ifCond .ne 5, 3) := by decide +kernel
theorem dX0_seal_24 : decode cX0_seal 24 = .ok (.iconst (-1), 1) := by decide +kernel
theorem dX0_seal_25 : decode cX0_seal 25 = .ok (.ireturn, 1) := by decide +kernel
theorem dX0_seal_26 : decode cX0_seal 26 = .ok (.aload_n 0, 1) := by decide +kernel
theorem dX0_seal_27 : decode cX0_seal 27 = .ok (.invokevirtual 88, 3) := by decide +kernel
theorem dX0_seal_30 : decode cX0_seal 30 = .ok (.ifCond .eq 6, 3) := by decide +kernel
theorem dX0_seal_33 : decode cX0_seal 33 = .ok (.bipush (-2), 2) := by decide +kernel
theorem dX0_seal_35 : decode cX0_seal 35 = .ok (.ireturn, 1) := by decide +kernel
theorem dX0_seal_36 : decode cX0_seal 36 = .ok (.aload_n 0, 1) := by decide +kernel
theorem dX0_seal_37 : decode cX0_seal 37 = .ok (.getfield 92, 3) := by decide +kernel
theorem dX0_seal_40 : decode cX0_seal 40 = .ok (.bipush 10, 2) := by decide +kernel
theorem dX0_seal_42 : decode cX0_seal 42 = .ok (.if_icmp .lt 6, 3) := by decide +kernel
theorem dX0_seal_45 : decode cX0_seal 45 = .ok (.bipush (-5), 2) := by decide +kernel
theorem dX0_seal_47 : decode cX0_seal 47 = .ok (.ireturn, 1) := by decide +kernel
theorem dX0_seal_48 : decode cX0_seal 48 = .ok (.aload_n 0, 1) := by decide +kernel
theorem dX0_seal_49 : decode cX0_seal 49 = .ok (.aload_n 0, 1) := by decide +kernel
theorem dX0_seal_50 : decode cX0_seal 50 = .ok (.getfield 25, 3) := by decide +kernel
theorem dX0_seal_53 : decode cX0_seal 53 = .ok (.iload_n 2, 1) := by decide +kernel
theorem dX0_seal_54 : decode cX0_seal 54 = .ok (.laload, 1) := by decide +kernel
theorem dX0_seal_55 : decode cX0_seal 55 = .ok (.iload_n 1, 1) := by decide +kernel
theorem dX0_seal_56 : decode cX0_seal 56 = .ok (.iconst 1, 1) := by decide +kernel
theorem dX0_seal_57 : decode cX0_seal 57 = .ok (.iload_n 3, 1) := by decide +kernel
theorem dX0_seal_58 : decode cX0_seal 58 = .ok (.i2l, 1) := by decide +kernel
theorem dX0_seal_59 : decode cX0_seal 59 = .ok (.lload 4, 2) := by decide +kernel
theorem dX0_seal_61 : decode cX0_seal 61 = .ok (.invokestatic 7, 3) := by decide +kernel
theorem dX0_seal_64 : decode cX0_seal 64 = .ok (.invokevirtual 95, 3) := by decide +kernel
theorem dX0_seal_67 : decode cX0_seal 67 = .ok (.ifCond .ne 6, 3) := by decide +kernel
theorem dX0_seal_70 : decode cX0_seal 70 = .ok (.bipush (-6), 2) := by decide +kernel
theorem dX0_seal_72 : decode cX0_seal 72 = .ok (.ireturn, 1) := by decide +kernel
theorem dX0_seal_73 : decode cX0_seal 73 = .ok (.aload_n 0, 1) := by decide +kernel
theorem dX0_seal_74 : decode cX0_seal 74 = .ok (.aload_n 0, 1) := by decide +kernel
theorem dX0_seal_75 : decode cX0_seal 75 = .ok (.getfield 28, 3) := by decide +kernel
theorem dX0_seal_78 : decode cX0_seal 78 = .ok (.iload_n 2, 1) := by decide +kernel
theorem dX0_seal_79 : decode cX0_seal 79 = .ok (.laload, 1) := by decide +kernel
theorem dX0_seal_80 : decode cX0_seal 80 = .ok (.iload_n 3, 1) := by decide +kernel
theorem dX0_seal_81 : decode cX0_seal 81 = .ok (.lload 4, 2) := by decide +kernel
theorem dX0_seal_83 : decode cX0_seal 83 = .ok (.invokevirtual 99, 3) := by decide +kernel
theorem dX0_seal_86 : decode cX0_seal 86 = .ok (.ireturn, 1) := by decide +kernel
set_option maxRecDepth 20000 in
theorem ggX0_unseal_X0_isSession : GoodIn wsX0_unseal wsX0_isSession := goodIn_r _ [8, 9, 88, 89, 90, 91, 92, 93, 94, 95, 96, 97, 98, 99, 100, 101, 102] (by decide +kernel) (by decide +kernel)
set_option maxRecDepth 20000 in
theorem gX0_unseal_X0_isSession : GoodIn wsX0_unseal (wsV RX0 75 RX0 yX0_isSession wsX0_isSession) := goodIn_app (goodIn_of _ (by decide +kernel)) ggX0_unseal_X0_isSession
set_option maxRecDepth 20000 in
theorem ggX0_unseal_X0_isBlob : GoodIn wsX0_unseal wsX0_isBlob := goodIn_r _ [13, 14, 88, 89, 90, 91, 92, 93, 94, 95, 96, 97, 98, 99, 100, 101, 102] (by decide +kernel) (by decide +kernel)
set_option maxRecDepth 20000 in
theorem gX0_unseal_X0_isBlob : GoodIn wsX0_unseal (wsV RX0 78 RX0 yX0_isBlob wsX0_isBlob) := goodIn_app (goodIn_of _ (by decide +kernel)) ggX0_unseal_X0_isBlob
set_option maxRecDepth 20000 in
theorem ggX0_unseal_X0_isLocked : GoodIn wsX0_unseal wsX0_isLocked := goodIn_r _ [18, 19, 88, 89, 90, 91, 92, 93, 94, 95, 96, 97, 98, 99, 100, 101, 102] (by decide +kernel) (by decide +kernel)
set_option maxRecDepth 20000 in
theorem gX0_unseal_X0_isLocked : GoodIn wsX0_unseal (wsV RX0 88 RX0 yX0_isLocked wsX0_isLocked) := goodIn_app (goodIn_of _ (by decide +kernel)) ggX0_unseal_X0_isLocked
set_option maxRecDepth 20000 in
theorem ggX0_unseal_X0_sealOf : GoodIn wsX0_unseal wsX0_sealOf := goodIn_r _ [23, 24, 25, 26, 7, 27, 28, 29, 30, 31, 32, 33, 34, 35, 36, 37, 38, 39, 40, 88, 89, 90, 91, 92, 93, 94, 95, 96, 97, 98, 99, 100, 101, 102] (by decide +kernel) (by decide +kernel)
set_option maxRecDepth 20000 in
theorem gX0_unseal_X0_sealOf : GoodIn wsX0_unseal (wsV RX0 103 RX0 yX0_sealOf wsX0_sealOf) := goodIn_app (goodIn_of _ (by decide +kernel)) ggX0_unseal_X0_sealOf
set_option maxRecDepth 20000 in
theorem ggX0_unseal_X0_leastKeyNamed : GoodIn wsX0_unseal wsX0_leastKeyNamed := goodIn_r _ [44, 45, 46, 88, 89, 90, 91, 92, 93, 94, 95, 96, 97, 98, 99, 100, 101, 102] (by decide +kernel) (by decide +kernel)
set_option maxRecDepth 20000 in
theorem gX0_unseal_X0_leastKeyNamed : GoodIn wsX0_unseal (wsV RX0 107 RX0 yX0_leastKeyNamed wsX0_leastKeyNamed) := goodIn_app (goodIn_of _ (by decide +kernel)) ggX0_unseal_X0_leastKeyNamed
set_option maxRecDepth 20000 in
theorem ggX0_unseal_X0_passesProving : GoodIn wsX0_unseal wsX0_passesProving := goodIn_r _ [50, 51, 52, 19, 3, 53, 54, 55, 7, 56, 57, 25, 26, 27, 28, 29, 30, 31, 32, 33, 34, 35, 36, 37, 38, 39, 40, 58, 59, 60, 61, 62, 24, 88, 89, 90, 91, 92, 93, 94, 95, 96, 97, 98, 99, 100, 101, 102] (by decide +kernel) (by decide +kernel)
set_option maxRecDepth 20000 in
theorem gX0_unseal_X0_passesProving : GoodIn wsX0_unseal (wsV RX0 95 RX0 yX0_passesProving wsX0_passesProving) := goodIn_app (goodIn_of _ (by decide +kernel)) ggX0_unseal_X0_passesProving
set_option maxRecDepth 20000 in
theorem ggX0_unseal_X0_isPolicyMet : GoodIn wsX0_unseal wsX0_isPolicyMet := goodIn_r _ [66, 67, 68, 7, 69, 70, 71, 72, 73, 74, 75, 76, 77, 78, 79, 80, 81, 82, 29, 30, 31, 32, 88, 89, 90, 91, 92, 93, 94, 95, 96, 97, 98, 99, 100, 101, 102] (by decide +kernel) (by decide +kernel)
set_option maxRecDepth 20000 in
theorem gX0_unseal_X0_isPolicyMet : GoodIn wsX0_unseal (wsV RX0 111 RX0 yX0_isPolicyMet wsX0_isPolicyMet) := goodIn_app (goodIn_of _ (by decide +kernel)) ggX0_unseal_X0_isPolicyMet
set_option maxRecDepth 20000 in
theorem ggX0_unseal_X0_cover : GoodIn wsX0_unseal wsX0_cover := goodIn_r _ [86, 87, 24, 29, 30, 7, 31, 32, 88, 89, 90, 91, 92, 93, 94, 95, 96, 97, 98, 99, 100, 101, 102] (by decide +kernel) (by decide +kernel)
set_option maxRecDepth 20000 in
theorem gX0_unseal_X0_cover : GoodIn wsX0_unseal (wsV RX0 118 RX0 yX0_cover wsX0_cover) := goodIn_app (goodIn_of _ (by decide +kernel)) ggX0_unseal_X0_cover
theorem dX0_unseal_0 : decode cX0_unseal 0 = .ok (.aload_n 0, 1) := by decide +kernel
theorem dX0_unseal_1 : decode cX0_unseal 1 = .ok (.iload_n 1, 1) := by decide +kernel
theorem dX0_unseal_2 : decode cX0_unseal 2 = .ok (.invokevirtual 75, 3) := by decide +kernel
theorem dX0_unseal_5 : decode cX0_unseal 5 = .ok (.ifCond .eq 11, 3) := by decide +kernel
theorem dX0_unseal_8 : decode cX0_unseal 8 = .ok (.aload_n 0, 1) := by decide +kernel
theorem dX0_unseal_9 : decode cX0_unseal 9 = .ok (.iload_n 2, 1) := by decide +kernel
theorem dX0_unseal_10 : decode cX0_unseal 10 = .ok (.invokevirtual 78, 3) := by decide +kernel
theorem dX0_unseal_13 : decode cX0_unseal 13 = .ok (.ifCond .ne 5, 3) := by decide +kernel
theorem dX0_unseal_16 : decode cX0_unseal 16 = .ok (.iconst (-1), 1) := by decide +kernel
theorem dX0_unseal_17 : decode cX0_unseal 17 = .ok (.ireturn, 1) := by decide +kernel
theorem dX0_unseal_18 : decode cX0_unseal 18 = .ok (.aload_n 0, 1) := by decide +kernel
theorem dX0_unseal_19 : decode cX0_unseal 19 = .ok (.invokevirtual 88, 3) := by decide +kernel
theorem dX0_unseal_22 : decode cX0_unseal 22 = .ok (.ifCond .eq 6, 3) := by decide +kernel
theorem dX0_unseal_25 : decode cX0_unseal 25 = .ok (.bipush (-2), 2) := by decide +kernel
theorem dX0_unseal_27 : decode cX0_unseal 27 = .ok (.ireturn, 1) := by decide +kernel
theorem dX0_unseal_28 : decode cX0_unseal 28 = .ok (.aload_n 0, 1) := by decide +kernel
theorem dX0_unseal_29 : decode cX0_unseal 29 = .ok (.getfield 42, 3) := by decide +kernel
theorem dX0_unseal_32 : decode cX0_unseal 32 = .ok (.iload_n 2, 1) := by decide +kernel
theorem dX0_unseal_33 : decode cX0_unseal 33 = .ok (.aaload, 1) := by decide +kernel
theorem dX0_unseal_34 : decode cX0_unseal 34 = .ok (.astore_n 3, 1) := by decide +kernel
theorem dX0_unseal_35 : decode cX0_unseal 35 = .ok (.aload_n 3, 1) := by decide +kernel
theorem dX0_unseal_36 : decode cX0_unseal 36 = .ok (.iconst 5, 1) := by decide +kernel
theorem dX0_unseal_37 : decode cX0_unseal 37 = .ok (.laload, 1) := by decide +kernel
theorem dX0_unseal_38 : decode cX0_unseal 38 = .ok (.aload_n 0, 1) := by decide +kernel
theorem dX0_unseal_39 : decode cX0_unseal 39 = .ok (.aload_n 3, 1) := by decide +kernel
theorem dX0_unseal_40 : decode cX0_unseal 40 = .ok (.invokevirtual 103, 3) := by decide +kernel
theorem dX0_unseal_43 : decode cX0_unseal 43 = .ok (.lcmp, 1) := by decide +kernel
theorem dX0_unseal_44 : decode cX0_unseal 44 = .ok (.ifCond .eq 6, 3) := by decide +kernel
theorem dX0_unseal_47 : decode cX0_unseal 47 = .ok (.bipush (-3), 2) := by decide +kernel
theorem dX0_unseal_49 : decode cX0_unseal 49 = .ok (.ireturn, 1) := by decide +kernel
theorem dX0_unseal_50 : decode cX0_unseal 50 = .ok (.aload_n 0, 1) := by decide +kernel
theorem dX0_unseal_51 : decode cX0_unseal 51 = .ok (.aload_n 3, 1) := by decide +kernel
theorem dX0_unseal_52 : decode cX0_unseal 52 = .ok (.iconst 0, 1) := by decide +kernel
theorem dX0_unseal_53 : decode cX0_unseal 53 = .ok (.laload, 1) := by decide +kernel
theorem dX0_unseal_54 : decode cX0_unseal 54 = .ok (.invokevirtual 107, 3) := by decide +kernel
theorem dX0_unseal_57 : decode cX0_unseal 57 = .ok (.istore 4, 2) := by decide +kernel
theorem dX0_unseal_59 : decode cX0_unseal 59 = .ok (.iload 4, 2) := by decide +kernel
theorem dX0_unseal_61 : decode cX0_unseal 61 = .ok (.ifCond .ge 6, 3) := by decide +kernel
theorem dX0_unseal_64 : decode cX0_unseal 64 = .ok (.bipush (-4), 2) := by decide +kernel
theorem dX0_unseal_66 : decode cX0_unseal 66 = .ok (.ireturn, 1) := by decide +kernel
theorem dX0_unseal_67 : decode cX0_unseal 67 = .ok (.aload_n 0, 1) := by decide +kernel
theorem dX0_unseal_68 : decode cX0_unseal 68 = .ok (.aload_n 0, 1) := by decide +kernel
theorem dX0_unseal_69 : decode cX0_unseal 69 = .ok (.getfield 25, 3) := by decide +kernel
theorem dX0_unseal_72 : decode cX0_unseal 72 = .ok (.iload 4, 2) := by decide +kernel
theorem dX0_unseal_74 : decode cX0_unseal 74 = .ok (.laload, 1) := by decide +kernel
theorem dX0_unseal_75 : decode cX0_unseal 75 = .ok (.iload_n 1, 1) := by decide +kernel
theorem dX0_unseal_76 : decode cX0_unseal 76 = .ok (.iconst 2, 1) := by decide +kernel
theorem dX0_unseal_77 : decode cX0_unseal 77 = .ok (.aload_n 3, 1) := by decide +kernel
theorem dX0_unseal_78 : decode cX0_unseal 78 = .ok (.iconst 5, 1) := by decide +kernel
theorem dX0_unseal_79 : decode cX0_unseal 79 = .ok (.laload, 1) := by decide +kernel
theorem dX0_unseal_80 : decode cX0_unseal 80 = .ok (.invokevirtual 95, 3) := by decide +kernel
theorem dX0_unseal_83 : decode cX0_unseal 83 = .ok (.ifCond .ne 6, 3) := by decide +kernel
theorem dX0_unseal_86 : decode cX0_unseal 86 = .ok (.bipush (-6), 2) := by decide +kernel
theorem dX0_unseal_88 : decode cX0_unseal 88 = .ok (.ireturn, 1) := by decide +kernel
theorem dX0_unseal_89 : decode cX0_unseal 89 = .ok (.aload_n 0, 1) := by decide +kernel
theorem dX0_unseal_90 : decode cX0_unseal 90 = .ok (.aload_n 3, 1) := by decide +kernel
theorem dX0_unseal_91 : decode cX0_unseal 91 = .ok (.invokevirtual 111, 3) := by decide +kernel
theorem dX0_unseal_94 : decode cX0_unseal 94 = .ok (.ifCond .ne 11, 3) := by decide +kernel
theorem dX0_unseal_97 : decode cX0_unseal 97 = .ok (.aload_n 0, 1) := by decide +kernel
theorem dX0_unseal_98 : decode cX0_unseal 98 = .ok (.lconst 0, 1) := by decide +kernel
theorem dX0_unseal_99 : decode cX0_unseal 99 = .ok (.putfield 115, 3) := by decide +kernel
theorem dX0_unseal_102 : decode cX0_unseal 102 = .ok (.bipush (-7), 2) := by decide +kernel
theorem dX0_unseal_104 : decode cX0_unseal 104 = .ok (.ireturn, 1) := by decide +kernel
theorem dX0_unseal_105 : decode cX0_unseal 105 = .ok (.aload_n 0, 1) := by decide +kernel
theorem dX0_unseal_106 : decode cX0_unseal 106 = .ok (.aload_n 3, 1) := by decide +kernel
theorem dX0_unseal_107 : decode cX0_unseal 107 = .ok (.iconst 4, 1) := by decide +kernel
theorem dX0_unseal_108 : decode cX0_unseal 108 = .ok (.laload, 1) := by decide +kernel
theorem dX0_unseal_109 : decode cX0_unseal 109 = .ok (.aload_n 0, 1) := by decide +kernel
theorem dX0_unseal_110 : decode cX0_unseal 110 = .ok (.aload_n 3, 1) := by decide +kernel
theorem dX0_unseal_111 : decode cX0_unseal 111 = .ok (.iconst 3, 1) := by decide +kernel
theorem dX0_unseal_112 : decode cX0_unseal 112 = .ok (.laload, 1) := by decide +kernel
theorem dX0_unseal_113 : decode cX0_unseal 113 = .ok (.aload_n 3, 1) := by decide +kernel
theorem dX0_unseal_114 : decode cX0_unseal 114 = .ok (.iconst 2, 1) := by decide +kernel
theorem dX0_unseal_115 : decode cX0_unseal 115 = .ok (.laload, 1) := by decide +kernel
theorem dX0_unseal_116 : decode cX0_unseal 116 = .ok (.invokevirtual 118, 3) := by decide +kernel
theorem dX0_unseal_119 : decode cX0_unseal 119 = .ok (.lxor, 1) := by decide +kernel
theorem dX0_unseal_120 : decode cX0_unseal 120 = .ok (.putfield 115, 3) := by decide +kernel
theorem dX0_unseal_123 : decode cX0_unseal 123 = .ok (.iconst 0, 1) := by decide +kernel
theorem dX0_unseal_124 : decode cX0_unseal 124 = .ok (.ireturn, 1) := by decide +kernel
set_option maxRecDepth 20000 in
theorem ggX0_quote_X0_isSession : GoodIn wsX0_quote wsX0_isSession := goodIn_r _ [7, 8, 72, 73, 74, 75, 76, 77, 78, 79, 80, 81, 82, 83, 84, 85, 86] (by decide +kernel) (by decide +kernel)
set_option maxRecDepth 20000 in
theorem gX0_quote_X0_isSession : GoodIn wsX0_quote (wsV RX0 75 RX0 yX0_isSession wsX0_isSession) := goodIn_app (goodIn_of _ (by decide +kernel)) ggX0_quote_X0_isSession
set_option maxRecDepth 20000 in
theorem ggX0_quote_X0_isKey : GoodIn wsX0_quote wsX0_isKey := goodIn_r _ [12, 13, 72, 73, 74, 75, 76, 77, 78, 79, 80, 81, 82, 83, 84, 85, 86] (by decide +kernel) (by decide +kernel)
set_option maxRecDepth 20000 in
theorem gX0_quote_X0_isKey : GoodIn wsX0_quote (wsV RX0 72 RX0 yX0_isKey wsX0_isKey) := goodIn_app (goodIn_of _ (by decide +kernel)) ggX0_quote_X0_isKey
set_option maxRecDepth 20000 in
theorem ggX0_quote_X0_isMask : GoodIn wsX0_quote wsX0_isMask := goodIn_r _ [16, 17] (by decide +kernel) (by decide +kernel)
set_option maxRecDepth 20000 in
theorem gX0_quote_X0_isMask : GoodIn wsX0_quote (va_wsS RX0 56 yX0_isMask wsX0_isMask) := goodIn_app (goodIn_of _ (by decide +kernel)) ggX0_quote_X0_isMask
set_option maxRecDepth 20000 in
theorem ggX0_quote_X0_isLocked : GoodIn wsX0_quote wsX0_isLocked := goodIn_r _ [21, 22, 72, 73, 74, 75, 76, 77, 78, 79, 80, 81, 82, 83, 84, 85, 86] (by decide +kernel) (by decide +kernel)
set_option maxRecDepth 20000 in
theorem gX0_quote_X0_isLocked : GoodIn wsX0_quote (wsV RX0 88 RX0 yX0_isLocked wsX0_isLocked) := goodIn_app (goodIn_of _ (by decide +kernel)) ggX0_quote_X0_isLocked
set_option maxRecDepth 20000 in
theorem ggX0_quote_X0_hash2 : GoodIn wsX0_quote wsX0_hash2 := goodIn_r _ [25, 26, 27, 28, 6, 29, 30] (by decide +kernel) (by decide +kernel)
set_option maxRecDepth 20000 in
theorem gX0_quote_X0_hash2 : GoodIn wsX0_quote (va_wsS RX0 7 yX0_hash2 wsX0_hash2) := goodIn_app (goodIn_of _ (by decide +kernel)) ggX0_quote_X0_hash2
set_option maxRecDepth 20000 in
theorem ggX0_quote_X0_passesProving : GoodIn wsX0_quote wsX0_passesProving := goodIn_r _ [34, 35, 36, 22, 2, 37, 38, 39, 6, 40, 41, 42, 43, 44, 45, 27, 28, 29, 30, 46, 47, 48, 49, 23, 24, 25, 26, 50, 51, 52, 53, 54, 55, 72, 73, 74, 75, 76, 77, 78, 79, 80, 81, 82, 83, 84, 85, 86] (by decide +kernel) (by decide +kernel)
set_option maxRecDepth 20000 in
theorem gX0_quote_X0_passesProving : GoodIn wsX0_quote (wsV RX0 95 RX0 yX0_passesProving wsX0_passesProving) := goodIn_app (goodIn_of _ (by decide +kernel)) ggX0_quote_X0_passesProving
set_option maxRecDepth 20000 in
theorem ggX0_quote_X0_signature : GoodIn wsX0_quote wsX0_signature := goodIn_r _ [59, 42, 43, 6, 44, 45, 27, 28, 29, 30, 60, 61, 62, 63, 64, 65, 66, 67, 68, 69, 70, 71, 46, 47, 48, 49, 23, 24, 25, 26, 72, 73, 74, 75, 76, 77, 78, 79, 80, 81, 82, 83, 84, 85, 86] (by decide +kernel) (by decide +kernel)
set_option maxRecDepth 20000 in
theorem gX0_quote_X0_signature : GoodIn wsX0_quote (wsV RX0 121 RX0 yX0_signature wsX0_signature) := goodIn_app (goodIn_of _ (by decide +kernel)) ggX0_quote_X0_signature
theorem dX0_quote_0 : decode cX0_quote 0 = .ok (.aload_n 0, 1) := by decide +kernel
theorem dX0_quote_1 : decode cX0_quote 1 = .ok (.iload_n 1, 1) := by decide +kernel
theorem dX0_quote_2 : decode cX0_quote 2 = .ok (.invokevirtual 75, 3) := by decide +kernel
theorem dX0_quote_5 : decode cX0_quote 5 = .ok (.ifCond .eq 19, 3) := by decide +kernel
theorem dX0_quote_8 : decode cX0_quote 8 = .ok (.aload_n 0, 1) := by decide +kernel
theorem dX0_quote_9 : decode cX0_quote 9 = .ok (.iload_n 2, 1) := by decide +kernel
theorem dX0_quote_10 : decode cX0_quote 10 = .ok (.invokevirtual 72, 3) := by decide +kernel
theorem dX0_quote_13 : decode cX0_quote 13 = .ok (.ifCond .eq 11, 3) := by decide +kernel
theorem dX0_quote_16 : decode cX0_quote 16 = .ok (.iload_n 3, 1) := by decide +kernel
theorem dX0_quote_17 : decode cX0_quote 17 = .ok (.i2l, 1) := by decide +kernel
theorem dX0_quote_18 : decode cX0_quote 18 = .ok (.invokestatic 56, 3) := by decide +kernel
theorem dX0_quote_21 : decode cX0_quote 21 = .ok (.ifCond .ne 5, 3) := by decide +kernel
theorem dX0_quote_24 : decode cX0_quote 24 = .ok (.iconst (-1), 1) := by decide +kernel
theorem dX0_quote_25 : decode cX0_quote 25 = .ok (.ireturn, 1) := by decide +kernel
theorem dX0_quote_26 : decode cX0_quote 26 = .ok (.aload_n 0, 1) := by decide +kernel
theorem dX0_quote_27 : decode cX0_quote 27 = .ok (.invokevirtual 88, 3) := by decide +kernel
theorem dX0_quote_30 : decode cX0_quote 30 = .ok (.ifCond .eq 6, 3) := by decide +kernel
theorem dX0_quote_33 : decode cX0_quote 33 = .ok (.bipush (-2), 2) := by decide +kernel
theorem dX0_quote_35 : decode cX0_quote 35 = .ok (.ireturn, 1) := by decide +kernel
theorem dX0_quote_36 : decode cX0_quote 36 = .ok (.aload_n 0, 1) := by decide +kernel
theorem dX0_quote_37 : decode cX0_quote 37 = .ok (.getfield 25, 3) := by decide +kernel
theorem dX0_quote_40 : decode cX0_quote 40 = .ok (.iload_n 2, 1) := by decide +kernel
theorem dX0_quote_41 : decode cX0_quote 41 = .ok (.laload, 1) := by decide +kernel
theorem dX0_quote_42 : decode cX0_quote 42 = .ok (.lstore 6, 2) := by decide +kernel
theorem dX0_quote_44 : decode cX0_quote 44 = .ok (.aload_n 0, 1) := by decide +kernel
theorem dX0_quote_45 : decode cX0_quote 45 = .ok (.lload 6, 2) := by decide +kernel
theorem dX0_quote_47 : decode cX0_quote 47 = .ok (.iload_n 1, 1) := by decide +kernel
theorem dX0_quote_48 : decode cX0_quote 48 = .ok (.iconst 3, 1) := by decide +kernel
theorem dX0_quote_49 : decode cX0_quote 49 = .ok (.iload_n 3, 1) := by decide +kernel
theorem dX0_quote_50 : decode cX0_quote 50 = .ok (.i2l, 1) := by decide +kernel
theorem dX0_quote_51 : decode cX0_quote 51 = .ok (.lload 4, 2) := by decide +kernel
theorem dX0_quote_53 : decode cX0_quote 53 = .ok (.invokestatic 7, 3) := by decide +kernel
theorem dX0_quote_56 : decode cX0_quote 56 = .ok (.invokevirtual 95, 3) := by decide +kernel
theorem dX0_quote_59 : decode cX0_quote 59 = .ok (.ifCond .ne 6, 3) := by decide +kernel
theorem dX0_quote_62 : decode cX0_quote 62 = .ok (.bipush (-6), 2) := by decide +kernel
theorem dX0_quote_64 : decode cX0_quote 64 = .ok (.ireturn, 1) := by decide +kernel
theorem dX0_quote_65 : decode cX0_quote 65 = .ok (.aload_n 0, 1) := by decide +kernel
theorem dX0_quote_66 : decode cX0_quote 66 = .ok (.aload_n 0, 1) := by decide +kernel
theorem dX0_quote_67 : decode cX0_quote 67 = .ok (.lload 6, 2) := by decide +kernel
theorem dX0_quote_69 : decode cX0_quote 69 = .ok (.iload_n 3, 1) := by decide +kernel
theorem dX0_quote_70 : decode cX0_quote 70 = .ok (.lload 4, 2) := by decide +kernel
theorem dX0_quote_72 : decode cX0_quote 72 = .ok (.invokevirtual 121, 3) := by decide +kernel
theorem dX0_quote_75 : decode cX0_quote 75 = .ok (.putfield 115, 3) := by decide +kernel
theorem dX0_quote_78 : decode cX0_quote 78 = .ok (.iconst 0, 1) := by decide +kernel
theorem dX0_quote_79 : decode cX0_quote 79 = .ok (.ireturn, 1) := by decide +kernel
theorem dX0_output_0 : decode cX0_output 0 = .ok (.aload_n 0, 1) := by decide +kernel
theorem dX0_output_1 : decode cX0_output 1 = .ok (.getfield 115, 3) := by decide +kernel
theorem dX0_output_4 : decode cX0_output 4 = .ok (.lreturn, 1) := by decide +kernel
set_option maxRecDepth 20000 in
theorem ggX0_blob_X0_isBlobWord : GoodIn wsX0_blob wsX0_isBlobWord := goodIn_r _ [6, 7, 8, 9, 5, 10, 11, 12, 13, 14, 15, 16, 17, 18, 19, 20, 21, 22, 23, 24, 25, 26] (by decide +kernel) (by decide +kernel)
set_option maxRecDepth 20000 in
theorem gX0_blob_X0_isBlobWord : GoodIn wsX0_blob (wsV RX0 125 RX0 yX0_isBlobWord wsX0_isBlobWord) := goodIn_app (goodIn_of _ (by decide +kernel)) ggX0_blob_X0_isBlobWord
theorem dX0_blob_0 : decode cX0_blob 0 = .ok (.aload_n 0, 1) := by decide +kernel
theorem dX0_blob_1 : decode cX0_blob 1 = .ok (.iload_n 1, 1) := by decide +kernel
theorem dX0_blob_2 : decode cX0_blob 2 = .ok (.iload_n 2, 1) := by decide +kernel
theorem dX0_blob_3 : decode cX0_blob 3 = .ok (.invokevirtual 125, 3) := by decide +kernel
theorem dX0_blob_6 : decode cX0_blob 6 = .ok (.ifCond .eq 14, 3) := by decide +kernel
theorem dX0_blob_9 : decode cX0_blob 9 = .ok (.aload_n 0, 1) := by decide +kernel
theorem dX0_blob_10 : decode cX0_blob 10 = .ok (.getfield 42, 3) := by decide +kernel
theorem dX0_blob_13 : decode cX0_blob 13 = .ok (.iload_n 1, 1) := by decide +kernel
theorem dX0_blob_14 : decode cX0_blob 14 = .ok (.aaload, 1) := by decide +kernel
theorem dX0_blob_15 : decode cX0_blob 15 = .ok (.iload_n 2, 1) := by decide +kernel
theorem dX0_blob_16 : decode cX0_blob 16 = .ok (.laload, 1) := by decide +kernel
theorem dX0_blob_17 : decode cX0_blob 17 = .ok (.goto 4, 3) := by decide +kernel
theorem dX0_blob_20 : decode cX0_blob 20 = .ok (.lconst 0, 1) := by decide +kernel
theorem dX0_blob_21 : decode cX0_blob 21 = .ok (.lreturn, 1) := by decide +kernel
set_option maxRecDepth 20000 in
theorem ggX0_change_X0_isBlobWord : GoodIn wsX0_change wsX0_isBlobWord := goodIn_r _ [6, 7, 8, 9, 5, 10, 11, 12, 13, 14, 15, 16, 17, 18, 19, 20, 21, 22, 23, 24, 25, 26] (by decide +kernel) (by decide +kernel)
set_option maxRecDepth 20000 in
theorem gX0_change_X0_isBlobWord : GoodIn wsX0_change (wsV RX0 125 RX0 yX0_isBlobWord wsX0_isBlobWord) := goodIn_app (goodIn_of _ (by decide +kernel)) ggX0_change_X0_isBlobWord
theorem dX0_change_0 : decode cX0_change 0 = .ok (.aload_n 0, 1) := by decide +kernel
theorem dX0_change_1 : decode cX0_change 1 = .ok (.iload_n 1, 1) := by decide +kernel
theorem dX0_change_2 : decode cX0_change 2 = .ok (.iload_n 2, 1) := by decide +kernel
theorem dX0_change_3 : decode cX0_change 3 = .ok (.invokevirtual 125, 3) := by decide +kernel
theorem dX0_change_6 : decode cX0_change 6 = .ok (.ifCond .ne 5, 3) := by decide +kernel
theorem dX0_change_9 : decode cX0_change 9 = .ok (.iconst 0, 1) := by decide +kernel
theorem dX0_change_10 : decode cX0_change 10 = .ok (.ireturn, 1) := by decide +kernel
theorem dX0_change_11 : decode cX0_change 11 = .ok (.aload_n 0, 1) := by decide +kernel
theorem dX0_change_12 : decode cX0_change 12 = .ok (.getfield 42, 3) := by decide +kernel
theorem dX0_change_15 : decode cX0_change 15 = .ok (.iload_n 1, 1) := by decide +kernel
theorem dX0_change_16 : decode cX0_change 16 = .ok (.aaload, 1) := by decide +kernel
theorem dX0_change_17 : decode cX0_change 17 = .ok (.iload_n 2, 1) := by decide +kernel
theorem dX0_change_18 : decode cX0_change 18 = .ok (.lload_n 3, 1) := by decide +kernel
theorem dX0_change_19 : decode cX0_change 19 = .ok (.lastore, 1) := by decide +kernel
theorem dX0_change_20 : decode cX0_change 20 = .ok (.iconst 1, 1) := by decide +kernel
theorem dX0_change_21 : decode cX0_change 21 = .ok (.ireturn, 1) := by decide +kernel
theorem dX0_reboot_0 : decode cX0_reboot 0 = .ok (.iconst 0, 1) := by decide +kernel
theorem dX0_reboot_1 : decode cX0_reboot 1 = .ok (.istore_n 1, 1) := by decide +kernel
theorem dX0_reboot_2 : decode cX0_reboot 2 = .ok (.iload_n 1, 1) := by decide +kernel
theorem dX0_reboot_3 : decode cX0_reboot 3 = .ok (.bipush 8, 2) := by decide +kernel
theorem dX0_reboot_5 : decode cX0_reboot 5 = .ok (.if_icmp .ge 16, 3) := by decide +kernel
theorem dX0_reboot_8 : decode cX0_reboot 8 = .ok (.aload_n 0, 1) := by decide +kernel
theorem dX0_reboot_9 : decode cX0_reboot 9 = .ok (.getfield 17, 3) := by decide +kernel
theorem dX0_reboot_12 : decode cX0_reboot 12 = .ok (.iload_n 1, 1) := by decide +kernel
theorem dX0_reboot_13 : decode cX0_reboot 13 = .ok (.lconst 0, 1) := by decide +kernel
theorem dX0_reboot_14 : decode cX0_reboot 14 = .ok (.lastore, 1) := by decide +kernel
theorem dX0_reboot_15 : decode cX0_reboot 15 = .ok (.iinc 1 1, 3) := by decide +kernel
theorem dX0_reboot_18 : decode cX0_reboot 18 = .ok (.goto (-16), 3) := by decide +kernel
theorem dX0_reboot_21 : decode cX0_reboot 21 = .ok (.iconst 0, 1) := by decide +kernel
theorem dX0_reboot_22 : decode cX0_reboot 22 = .ok (.istore_n 1, 1) := by decide +kernel
theorem dX0_reboot_23 : decode cX0_reboot 23 = .ok (.iload_n 1, 1) := by decide +kernel
theorem dX0_reboot_24 : decode cX0_reboot 24 = .ok (.iconst 4, 1) := by decide +kernel
theorem dX0_reboot_25 : decode cX0_reboot 25 = .ok (.if_icmp .ge 16, 3) := by decide +kernel
theorem dX0_reboot_28 : decode cX0_reboot 28 = .ok (.aload_n 0, 1) := by decide +kernel
theorem dX0_reboot_29 : decode cX0_reboot 29 = .ok (.getfield 31, 3) := by decide +kernel
theorem dX0_reboot_32 : decode cX0_reboot 32 = .ok (.iload_n 1, 1) := by decide +kernel
theorem dX0_reboot_33 : decode cX0_reboot 33 = .ok (.iconst 0, 1) := by decide +kernel
theorem dX0_reboot_34 : decode cX0_reboot 34 = .ok (.bastore, 1) := by decide +kernel
theorem dX0_reboot_35 : decode cX0_reboot 35 = .ok (.iinc 1 1, 3) := by decide +kernel
theorem dX0_reboot_38 : decode cX0_reboot 38 = .ok (.goto (-15), 3) := by decide +kernel
theorem dX0_reboot_41 : decode cX0_reboot 41 = .ok (.aload_n 0, 1) := by decide +kernel
theorem dX0_reboot_42 : decode cX0_reboot 42 = .ok (.iconst 0, 1) := by decide +kernel
theorem dX0_reboot_43 : decode cX0_reboot 43 = .ok (.putfield 45, 3) := by decide +kernel
theorem dX0_reboot_46 : decode cX0_reboot 46 = .ok (.aload_n 0, 1) := by decide +kernel
theorem dX0_reboot_47 : decode cX0_reboot 47 = .ok (.iconst 0, 1) := by decide +kernel
theorem dX0_reboot_48 : decode cX0_reboot 48 = .ok (.putfield 129, 3) := by decide +kernel
theorem dX0_reboot_51 : decode cX0_reboot 51 = .ok (.aload_n 0, 1) := by decide +kernel
theorem dX0_reboot_52 : decode cX0_reboot 52 = .ok (.lconst 0, 1) := by decide +kernel
theorem dX0_reboot_53 : decode cX0_reboot 53 = .ok (.putfield 115, 3) := by decide +kernel
theorem dX0_reboot_56 : decode cX0_reboot 56 = .ok (.return_, 1) := by decide +kernel
theorem dX0_failures_0 : decode cX0_failures 0 = .ok (.aload_n 0, 1) := by decide +kernel
theorem dX0_failures_1 : decode cX0_failures 1 = .ok (.getfield 129, 3) := by decide +kernel
theorem dX0_failures_4 : decode cX0_failures 4 = .ok (.ireturn, 1) := by decide +kernel
theorem dX0_isRegister_0 : decode cX0_isRegister 0 = .ok (.iload_n 0, 1) := by decide +kernel
theorem dX0_isRegister_1 : decode cX0_isRegister 1 = .ok (.ifCond .lt 13, 3) := by decide +kernel
theorem dX0_isRegister_4 : decode cX0_isRegister 4 = .ok (.iload_n 0, 1) := by decide +kernel
theorem dX0_isRegister_5 : decode cX0_isRegister 5 = .ok (.bipush 8, 2) := by decide +kernel
theorem dX0_isRegister_7 : decode cX0_isRegister 7 = .ok (.if_icmp .ge 7, 3) := by decide +kernel
theorem dX0_isRegister_10 : decode cX0_isRegister 10 = .ok (.iconst 1, 1) := by decide +kernel
theorem dX0_isRegister_11 : decode cX0_isRegister 11 = .ok (.goto 4, 3) := by decide +kernel
theorem dX0_isRegister_14 : decode cX0_isRegister 14 = .ok (.iconst 0, 1) := by decide +kernel
theorem dX0_isRegister_15 : decode cX0_isRegister 15 = .ok (.ireturn, 1) := by decide +kernel
theorem dX0_isOpen_0 : decode cX0_isOpen 0 = .ok (.aload_n 0, 1) := by decide +kernel
theorem dX0_isOpen_1 : decode cX0_isOpen 1 = .ok (.getfield 45, 3) := by decide +kernel
theorem dX0_isOpen_4 : decode cX0_isOpen 4 = .ok (.iload_n 1, 1) := by decide +kernel
theorem dX0_isOpen_5 : decode cX0_isOpen 5 = .ok (.iconst 2, 1) := by decide +kernel
theorem dX0_isOpen_6 : decode cX0_isOpen 6 = .ok (.idiv, 1) := by decide +kernel
theorem dX0_isOpen_7 : decode cX0_isOpen 7 = .ok (.if_icmp .lt 7, 3) := by decide +kernel
theorem dX0_isOpen_10 : decode cX0_isOpen 10 = .ok (.iconst 1, 1) := by decide +kernel
theorem dX0_isOpen_11 : decode cX0_isOpen 11 = .ok (.goto 4, 3) := by decide +kernel
theorem dX0_isOpen_14 : decode cX0_isOpen 14 = .ok (.iconst 0, 1) := by decide +kernel
theorem dX0_isOpen_15 : decode cX0_isOpen 15 = .ok (.ireturn, 1) := by decide +kernel
theorem dX0_isMask_0 : decode cX0_isMask 0 = .ok (.lload_n 0, 1) := by decide +kernel
theorem dX0_isMask_1 : decode cX0_isMask 1 = .ok (.lconst 0, 1) := by decide +kernel
theorem dX0_isMask_2 : decode cX0_isMask 2 = .ok (.lcmp, 1) := by decide +kernel
theorem dX0_isMask_3 : decode cX0_isMask 3 = .ok (.ifCond .lt 15, 3) := by decide +kernel
theorem dX0_isMask_6 : decode cX0_isMask 6 = .ok (.lload_n 0, 1) := by decide +kernel
theorem dX0_isMask_7 : decode cX0_isMask 7 = .ok (.ldc2_w 132, 3) := by decide +kernel
theorem dX0_isMask_10 : decode cX0_isMask 10 = .ok (.lcmp, 1) := by decide +kernel
theorem dX0_isMask_11 : decode cX0_isMask 11 = .ok (.ifCond .gt 7, 3) := by decide +kernel
theorem dX0_isMask_14 : decode cX0_isMask 14 = .ok (.iconst 1, 1) := by decide +kernel
theorem dX0_isMask_15 : decode cX0_isMask 15 = .ok (.goto 4, 3) := by decide +kernel
theorem dX0_isMask_18 : decode cX0_isMask 18 = .ok (.iconst 0, 1) := by decide +kernel
theorem dX0_isMask_19 : decode cX0_isMask 19 = .ok (.ireturn, 1) := by decide +kernel
theorem dX0_isKey_0 : decode cX0_isKey 0 = .ok (.iload_n 1, 1) := by decide +kernel
theorem dX0_isKey_1 : decode cX0_isKey 1 = .ok (.ifCond .lt 22, 3) := by decide +kernel
theorem dX0_isKey_4 : decode cX0_isKey 4 = .ok (.iload_n 1, 1) := by decide +kernel
theorem dX0_isKey_5 : decode cX0_isKey 5 = .ok (.bipush 6, 2) := by decide +kernel
theorem dX0_isKey_7 : decode cX0_isKey 7 = .ok (.if_icmp .ge 16, 3) := by decide +kernel
theorem dX0_isKey_10 : decode cX0_isKey 10 = .ok (.aload_n 0, 1) := by decide +kernel
theorem dX0_isKey_11 : decode cX0_isKey 11 = .ok (.getfield 21, 3) := by decide +kernel
theorem dX0_isKey_14 : decode cX0_isKey 14 = .ok (.iload_n 1, 1) := by decide +kernel
theorem dX0_isKey_15 : decode cX0_isKey 15 = .ok (.baload, 1) := by decide +kernel
theorem dX0_isKey_16 : decode cX0_isKey 16 = .ok (.ifCond .eq 7, 3) := by decide +kernel
theorem dX0_isKey_19 : decode cX0_isKey 19 = .ok (.iconst 1, 1) := by decide +kernel
theorem dX0_isKey_20 : decode cX0_isKey 20 = .ok (.goto 4, 3) := by decide +kernel
theorem dX0_isKey_23 : decode cX0_isKey 23 = .ok (.iconst 0, 1) := by decide +kernel
theorem dX0_isKey_24 : decode cX0_isKey 24 = .ok (.ireturn, 1) := by decide +kernel
theorem dX0_isSession_0 : decode cX0_isSession 0 = .ok (.iload_n 1, 1) := by decide +kernel
theorem dX0_isSession_1 : decode cX0_isSession 1 = .ok (.ifCond .lt 21, 3) := by decide +kernel
theorem dX0_isSession_4 : decode cX0_isSession 4 = .ok (.iload_n 1, 1) := by decide +kernel
theorem dX0_isSession_5 : decode cX0_isSession 5 = .ok (.iconst 4, 1) := by decide +kernel
theorem dX0_isSession_6 : decode cX0_isSession 6 = .ok (.if_icmp .ge 16, 3) := by decide +kernel
theorem dX0_isSession_9 : decode cX0_isSession 9 = .ok (.aload_n 0, 1) := by decide +kernel
theorem dX0_isSession_10 : decode cX0_isSession 10 = .ok (.getfield 31, 3) := by decide +kernel
theorem dX0_isSession_13 : decode cX0_isSession 13 = .ok (.iload_n 1, 1) := by decide +kernel
theorem dX0_isSession_14 : decode cX0_isSession 14 = .ok (.baload, 1) := by decide +kernel
theorem dX0_isSession_15 : decode cX0_isSession 15 = .ok (.ifCond .eq 7, 3) := by decide +kernel
theorem dX0_isSession_18 : decode cX0_isSession 18 = .ok (.iconst 1, 1) := by decide +kernel
theorem dX0_isSession_19 : decode cX0_isSession 19 = .ok (.goto 4, 3) := by decide +kernel
theorem dX0_isSession_22 : decode cX0_isSession 22 = .ok (.iconst 0, 1) := by decide +kernel
theorem dX0_isSession_23 : decode cX0_isSession 23 = .ok (.ireturn, 1) := by decide +kernel
theorem dX0_isBlob_0 : decode cX0_isBlob 0 = .ok (.iload_n 1, 1) := by decide +kernel
theorem dX0_isBlob_1 : decode cX0_isBlob 1 = .ok (.ifCond .lt 15, 3) := by decide +kernel
theorem dX0_isBlob_4 : decode cX0_isBlob 4 = .ok (.iload_n 1, 1) := by decide +kernel
theorem dX0_isBlob_5 : decode cX0_isBlob 5 = .ok (.aload_n 0, 1) := by decide +kernel
theorem dX0_isBlob_6 : decode cX0_isBlob 6 = .ok (.getfield 92, 3) := by decide +kernel
theorem dX0_isBlob_9 : decode cX0_isBlob 9 = .ok (.if_icmp .ge 7, 3) := by decide +kernel
theorem dX0_isBlob_12 : decode cX0_isBlob 12 = .ok (.iconst 1, 1) := by decide +kernel
theorem dX0_isBlob_13 : decode cX0_isBlob 13 = .ok (.goto 4, 3) := by decide +kernel
theorem dX0_isBlob_16 : decode cX0_isBlob 16 = .ok (.iconst 0, 1) := by decide +kernel
theorem dX0_isBlob_17 : decode cX0_isBlob 17 = .ok (.ireturn, 1) := by decide +kernel
set_option maxRecDepth 20000 in
theorem ggX0_isBlobWord_X0_isBlob : GoodIn wsX0_isBlobWord wsX0_isBlob := goodIn_r _ [5, 6, 7, 8, 9, 10, 11, 12, 13, 14, 15, 16, 17, 18, 19, 20, 21] (by decide +kernel) (by decide +kernel)
set_option maxRecDepth 20000 in
theorem gX0_isBlobWord_X0_isBlob : GoodIn wsX0_isBlobWord (wsV RX0 78 RX0 yX0_isBlob wsX0_isBlob) := goodIn_app (goodIn_of _ (by decide +kernel)) ggX0_isBlobWord_X0_isBlob
theorem dX0_isBlobWord_0 : decode cX0_isBlobWord 0 = .ok (.aload_n 0, 1) := by decide +kernel
theorem dX0_isBlobWord_1 : decode cX0_isBlobWord 1 = .ok (.iload_n 1, 1) := by decide +kernel
theorem dX0_isBlobWord_2 : decode cX0_isBlobWord 2 = .ok (.invokevirtual 78, 3) := by decide +kernel
theorem dX0_isBlobWord_5 : decode cX0_isBlobWord 5 = .ok (.ifCond .eq 17, 3) := by decide +kernel
theorem dX0_isBlobWord_8 : decode cX0_isBlobWord 8 = .ok (.iload_n 2, 1) := by decide +kernel
theorem dX0_isBlobWord_9 : decode cX0_isBlobWord 9 = .ok (.ifCond .lt 13, 3) := by decide +kernel
theorem dX0_isBlobWord_12 : decode cX0_isBlobWord 12 = .ok (.iload_n 2, 1) := by decide +kernel
theorem dX0_isBlobWord_13 : decode cX0_isBlobWord 13 = .ok (.bipush 6, 2) := by decide +kernel
theorem dX0_isBlobWord_15 : decode cX0_isBlobWord 15 = .ok (.if_icmp .ge 7, 3) := by decide +kernel
theorem dX0_isBlobWord_18 : decode cX0_isBlobWord 18 = .ok (.iconst 1, 1) := by decide +kernel
theorem dX0_isBlobWord_19 : decode cX0_isBlobWord 19 = .ok (.goto 4, 3) := by decide +kernel
theorem dX0_isBlobWord_22 : decode cX0_isBlobWord 22 = .ok (.iconst 0, 1) := by decide +kernel
theorem dX0_isBlobWord_23 : decode cX0_isBlobWord 23 = .ok (.ireturn, 1) := by decide +kernel
theorem dX0_isLocked_0 : decode cX0_isLocked 0 = .ok (.aload_n 0, 1) := by decide +kernel
theorem dX0_isLocked_1 : decode cX0_isLocked 1 = .ok (.getfield 129, 3) := by decide +kernel
theorem dX0_isLocked_4 : decode cX0_isLocked 4 = .ok (.iconst 3, 1) := by decide +kernel
theorem dX0_isLocked_5 : decode cX0_isLocked 5 = .ok (.if_icmp .lt 7, 3) := by decide +kernel
theorem dX0_isLocked_8 : decode cX0_isLocked 8 = .ok (.iconst 1, 1) := by decide +kernel
theorem dX0_isLocked_9 : decode cX0_isLocked 9 = .ok (.goto 4, 3) := by decide +kernel
theorem dX0_isLocked_12 : decode cX0_isLocked 12 = .ok (.iconst 0, 1) := by decide +kernel
theorem dX0_isLocked_13 : decode cX0_isLocked 13 = .ok (.ireturn, 1) := by decide +kernel
set_option maxRecDepth 20000 in
theorem ggX0_isPolicyMet_X0_isMask : GoodIn wsX0_isPolicyMet wsX0_isMask := goodIn_r _ [4, 5] (by decide +kernel) (by decide +kernel)
set_option maxRecDepth 20000 in
theorem gX0_isPolicyMet_X0_isMask : GoodIn wsX0_isPolicyMet (va_wsS RX0 56 yX0_isMask wsX0_isMask) := goodIn_app (goodIn_of _ (by decide +kernel)) ggX0_isPolicyMet_X0_isMask
set_option maxRecDepth 20000 in
theorem ggX0_isPolicyMet_X0_digestNow : GoodIn wsX0_isPolicyMet wsX0_digestNow := goodIn_r _ [9, 10, 11, 12, 13, 14, 15, 16, 17, 18, 19, 3, 20, 21, 22, 23, 24, 25, 26, 27, 28, 29, 30, 31, 32, 33, 34, 35, 36] (by decide +kernel) (by decide +kernel)
set_option maxRecDepth 20000 in
theorem gX0_isPolicyMet_X0_digestNow : GoodIn wsX0_isPolicyMet (wsV RX0 60 RX0 yX0_digestNow wsX0_digestNow) := goodIn_app (goodIn_of _ (by decide +kernel)) ggX0_isPolicyMet_X0_digestNow
theorem dX0_isPolicyMet_0 : decode cX0_isPolicyMet 0 = .ok (.aload_n 1, 1) := by decide +kernel
theorem dX0_isPolicyMet_1 : decode cX0_isPolicyMet 1 = .ok (.iconst 1, 1) := by decide +kernel
theorem dX0_isPolicyMet_2 : decode cX0_isPolicyMet 2 = .ok (.laload, 1) := by decide +kernel
theorem dX0_isPolicyMet_3 : decode cX0_isPolicyMet 3 = .ok (.lstore_n 2, 1) := by decide +kernel
theorem dX0_isPolicyMet_4 : decode cX0_isPolicyMet 4 = .ok (.lload_n 2, 1) := by decide +kernel
theorem dX0_isPolicyMet_5 : decode cX0_isPolicyMet 5 = .ok (.invokestatic 56, 3) := by decide +kernel
theorem dX0_isPolicyMet_8 : decode cX0_isPolicyMet 8 = .ok (.ifCond .eq 20, 3) := by decide +kernel
theorem dX0_isPolicyMet_11 : decode cX0_isPolicyMet 11 = .ok (.aload_n 0, 1) := by decide +kernel
theorem dX0_isPolicyMet_12 : decode cX0_isPolicyMet 12 = .ok (.lload_n 2, 1) := by decide +kernel
theorem dX0_isPolicyMet_13 : decode cX0_isPolicyMet 13 = .ok (.l2i, 1) := by decide +kernel
theorem dX0_isPolicyMet_14 : decode cX0_isPolicyMet 14 = .ok (.invokevirtual 60, 3) := by decide +kernel
theorem dX0_isPolicyMet_17 : decode cX0_isPolicyMet 17 = .ok (.aload_n 1, 1) := by decide +kernel
theorem dX0_isPolicyMet_18 : decode cX0_isPolicyMet 18 = .ok (.iconst 2, 1) := by decide +kernel
theorem dX0_isPolicyMet_19 : decode cX0_isPolicyMet 19 = .ok (.laload, 1) := by decide +kernel
theorem dX0_isPolicyMet_20 : decode cX0_isPolicyMet 20 = .ok (.lcmp, 1) := by decide +kernel
theorem dX0_isPolicyMet_21 : decode cX0_isPolicyMet 21 = .ok (.ifCond .ne 7, 3) := by decide +kernel
theorem dX0_isPolicyMet_24 : decode cX0_isPolicyMet 24 = .ok (.iconst 1, 1) := by decide +kernel
theorem dX0_isPolicyMet_25 : decode cX0_isPolicyMet 25 = .ok (.goto 4, 3) := by decide +kernel
theorem dX0_isPolicyMet_28 : decode cX0_isPolicyMet 28 = .ok (.iconst 0, 1) := by decide +kernel
theorem dX0_isPolicyMet_29 : decode cX0_isPolicyMet 29 = .ok (.ireturn, 1) := by decide +kernel
theorem dX0_leastFree_0 : decode cX0_leastFree 0 = .ok (.iconst 0, 1) := by decide +kernel
theorem dX0_leastFree_1 : decode cX0_leastFree 1 = .ok (.istore_n 1, 1) := by decide +kernel
theorem dX0_leastFree_2 : decode cX0_leastFree 2 = .ok (.iload_n 1, 1) := by decide +kernel
theorem dX0_leastFree_3 : decode cX0_leastFree 3 = .ok (.aload_n 0, 1) := by decide +kernel
theorem dX0_leastFree_4 : decode cX0_leastFree 4 = .ok (.arraylength, 1) := by decide +kernel
theorem dX0_leastFree_5 : decode cX0_leastFree 5 = .ok (.if_icmp .ge 17, 3) := by decide +kernel
theorem dX0_leastFree_8 : decode cX0_leastFree 8 = .ok (.aload_n 0, 1) := by decide +kernel
theorem dX0_leastFree_9 : decode cX0_leastFree 9 = .ok (.iload_n 1, 1) := by decide +kernel
theorem dX0_leastFree_10 : decode cX0_leastFree 10 = .ok (.baload, 1) := by decide +kernel
theorem dX0_leastFree_11 : decode cX0_leastFree 11 = .ok (.ifCond .ne 5, 3) := by decide +kernel
theorem dX0_leastFree_14 : decode cX0_leastFree 14 = .ok (.iload_n 1, 1) := by decide +kernel
theorem dX0_leastFree_15 : decode cX0_leastFree 15 = .ok (.ireturn, 1) := by decide +kernel
theorem dX0_leastFree_16 : decode cX0_leastFree 16 = .ok (.iinc 1 1, 3) := by decide +kernel
theorem dX0_leastFree_19 : decode cX0_leastFree 19 = .ok (.goto (-17), 3) := by decide +kernel
theorem dX0_leastFree_22 : decode cX0_leastFree 22 = .ok (.iconst (-1), 1) := by decide +kernel
theorem dX0_leastFree_23 : decode cX0_leastFree 23 = .ok (.ireturn, 1) := by decide +kernel
theorem dX0_leastKeyNamed_0 : decode cX0_leastKeyNamed 0 = .ok (.iconst 0, 1) := by decide +kernel
theorem dX0_leastKeyNamed_1 : decode cX0_leastKeyNamed 1 = .ok (.istore_n 3, 1) := by decide +kernel
theorem dX0_leastKeyNamed_2 : decode cX0_leastKeyNamed 2 = .ok (.iload_n 3, 1) := by decide +kernel
theorem dX0_leastKeyNamed_3 : decode cX0_leastKeyNamed 3 = .ok (.bipush 6, 2) := by decide +kernel
theorem dX0_leastKeyNamed_5 : decode cX0_leastKeyNamed 5 = .ok (.if_icmp .ge 31, 3) := by decide +kernel
theorem dX0_leastKeyNamed_8 : decode cX0_leastKeyNamed 8 = .ok (.aload_n 0, 1) := by decide +kernel
theorem dX0_leastKeyNamed_9 : decode cX0_leastKeyNamed 9 = .ok (.getfield 21, 3) := by decide +kernel
theorem dX0_leastKeyNamed_12 : decode cX0_leastKeyNamed 12 = .ok (.iload_n 3, 1) := by decide +kernel
theorem dX0_leastKeyNamed_13 : decode cX0_leastKeyNamed 13 = .ok (.baload, 1) := by decide +kernel
theorem dX0_leastKeyNamed_14 : decode cX0_leastKeyNamed 14 = .ok (.ifCond .eq 16, 3) := by decide +kernel
theorem dX0_leastKeyNamed_17 : decode cX0_leastKeyNamed 17 = .ok (.aload_n 0, 1) := by decide +kernel
theorem dX0_leastKeyNamed_18 : decode cX0_leastKeyNamed 18 = .ok (.getfield 28, 3) := by decide +kernel
theorem dX0_leastKeyNamed_21 : decode cX0_leastKeyNamed 21 = .ok (.iload_n 3, 1) := by decide +kernel
theorem dX0_leastKeyNamed_22 : decode cX0_leastKeyNamed 22 = .ok (.laload, 1) := by decide +kernel
theorem dX0_leastKeyNamed_23 : decode cX0_leastKeyNamed 23 = .ok (.lload_n 1, 1) := by decide +kernel
theorem dX0_leastKeyNamed_24 : decode cX0_leastKeyNamed 24 = .ok (.lcmp, 1) := by decide +kernel
theorem dX0_leastKeyNamed_25 : decode cX0_leastKeyNamed 25 = .ok (.ifCond .ne 5, 3) := by decide +kernel
theorem dX0_leastKeyNamed_28 : decode cX0_leastKeyNamed 28 = .ok (.iload_n 3, 1) := by decide +kernel
theorem dX0_leastKeyNamed_29 : decode cX0_leastKeyNamed 29 = .ok (.ireturn, 1) := by decide +kernel
theorem dX0_leastKeyNamed_30 : decode cX0_leastKeyNamed 30 = .ok (.iinc 3 1, 3) := by decide +kernel
theorem dX0_leastKeyNamed_33 : decode cX0_leastKeyNamed 33 = .ok (.goto (-31), 3) := by decide +kernel
theorem dX0_leastKeyNamed_36 : decode cX0_leastKeyNamed 36 = .ok (.iconst (-1), 1) := by decide +kernel
theorem dX0_leastKeyNamed_37 : decode cX0_leastKeyNamed 37 = .ok (.ireturn, 1) := by decide +kernel
set_option maxRecDepth 20000 in
theorem ggX0_draw_X0_hash2 : GoodIn wsX0_draw wsX0_hash2 := goodIn_r _ [6, 7, 8, 9, 5, 10, 11] (by decide +kernel) (by decide +kernel)
set_option maxRecDepth 20000 in
theorem gX0_draw_X0_hash2 : GoodIn wsX0_draw (va_wsS RX0 7 yX0_hash2 wsX0_hash2) := goodIn_app (goodIn_of _ (by decide +kernel)) ggX0_draw_X0_hash2
theorem dX0_draw_0 : decode cX0_draw 0 = .ok (.aload_n 0, 1) := by decide +kernel
theorem dX0_draw_1 : decode cX0_draw 1 = .ok (.dup, 1) := by decide +kernel
theorem dX0_draw_2 : decode cX0_draw 2 = .ok (.getfield 134, 3) := by decide +kernel
theorem dX0_draw_5 : decode cX0_draw 5 = .ok (.lconst 1, 1) := by decide +kernel
theorem dX0_draw_6 : decode cX0_draw 6 = .ok (.ladd, 1) := by decide +kernel
theorem dX0_draw_7 : decode cX0_draw 7 = .ok (.putfield 134, 3) := by decide +kernel
theorem dX0_draw_10 : decode cX0_draw 10 = .ok (.aload_n 0, 1) := by decide +kernel
theorem dX0_draw_11 : decode cX0_draw 11 = .ok (.getfield 13, 3) := by decide +kernel
theorem dX0_draw_14 : decode cX0_draw 14 = .ok (.aload_n 0, 1) := by decide +kernel
theorem dX0_draw_15 : decode cX0_draw 15 = .ok (.getfield 134, 3) := by decide +kernel
theorem dX0_draw_18 : decode cX0_draw 18 = .ok (.invokestatic 7, 3) := by decide +kernel
theorem dX0_draw_21 : decode cX0_draw 21 = .ok (.lreturn, 1) := by decide +kernel
set_option maxRecDepth 20000 in
theorem ggX0_passesProving_X0_rightProof : GoodIn wsX0_passesProving wsX0_rightProof := goodIn_r _ [9, 2, 10, 11, 12, 8, 13, 14, 15, 16, 17, 18, 19, 20, 21, 22, 23, 24, 25, 26, 33, 34, 35, 36, 37, 38, 39, 40, 41, 42, 43, 44, 45, 46, 47] (by decide +kernel) (by decide +kernel)
set_option maxRecDepth 20000 in
theorem gX0_passesProving_X0_rightProof : GoodIn wsX0_passesProving (wsV RX0 81 RX0 yX0_rightProof wsX0_rightProof) := goodIn_app (goodIn_of _ (by decide +kernel)) ggX0_passesProving_X0_rightProof
set_option maxRecDepth 20000 in
theorem ggX0_passesProving_X0_draw : GoodIn wsX0_passesProving wsX0_draw := goodIn_r _ [30, 31, 32, 23, 24, 8, 25, 26, 15, 16, 17, 18, 33, 34, 35, 36, 37, 38, 39, 40, 41, 42, 43, 44, 45, 46, 47] (by decide +kernel) (by decide +kernel)
set_option maxRecDepth 20000 in
theorem gX0_passesProving_X0_draw : GoodIn wsX0_passesProving (wsV RX0 68 RX0 yX0_draw wsX0_draw) := goodIn_app (goodIn_of _ (by decide +kernel)) ggX0_passesProving_X0_draw
theorem dX0_passesProving_0 : decode cX0_passesProving 0 = .ok (.aload_n 0, 1) := by decide +kernel
theorem dX0_passesProving_1 : decode cX0_passesProving 1 = .ok (.getfield 85, 3) := by decide +kernel
theorem dX0_passesProving_4 : decode cX0_passesProving 4 = .ok (.aload_n 0, 1) := by decide +kernel
theorem dX0_passesProving_5 : decode cX0_passesProving 5 = .ok (.lload_n 1, 1) := by decide +kernel
theorem dX0_passesProving_6 : decode cX0_passesProving 6 = .ok (.iload_n 3, 1) := by decide +kernel
theorem dX0_passesProving_7 : decode cX0_passesProving 7 = .ok (.iload 4, 2) := by decide +kernel
theorem dX0_passesProving_9 : decode cX0_passesProving 9 = .ok (.lload 5, 2) := by decide +kernel
theorem dX0_passesProving_11 : decode cX0_passesProving 11 = .ok (.invokevirtual 81, 3) := by decide +kernel
theorem dX0_passesProving_14 : decode cX0_passesProving 14 = .ok (.lcmp, 1) := by decide +kernel
theorem dX0_passesProving_15 : decode cX0_passesProving 15 = .ok (.ifCond .ne 7, 3) := by decide +kernel
theorem dX0_passesProving_18 : decode cX0_passesProving 18 = .ok (.iconst 1, 1) := by decide +kernel
theorem dX0_passesProving_19 : decode cX0_passesProving 19 = .ok (.goto 4, 3) := by decide +kernel
theorem dX0_passesProving_22 : decode cX0_passesProving 22 = .ok (.iconst 0, 1) := by decide +kernel
theorem dX0_passesProving_23 : decode cX0_passesProving 23 = .ok (.istore 7, 2) := by decide +kernel
theorem dX0_passesProving_25 : decode cX0_passesProving 25 = .ok (.aload_n 0, 1) := by decide +kernel
theorem dX0_passesProving_26 : decode cX0_passesProving 26 = .ok (.getfield 37, 3) := by decide +kernel
theorem dX0_passesProving_29 : decode cX0_passesProving 29 = .ok (.iload_n 3, 1) := by decide +kernel
theorem dX0_passesProving_30 : decode cX0_passesProving 30 = .ok (.aload_n 0, 1) := by decide +kernel
theorem dX0_passesProving_31 : decode cX0_passesProving 31 = .ok (.invokevirtual 68, 3) := by decide +kernel
theorem dX0_passesProving_34 : decode cX0_passesProving 34 = .ok (.lastore, 1) := by decide +kernel
theorem dX0_passesProving_35 : decode cX0_passesProving 35 = .ok (.iload 7, 2) := by decide +kernel
theorem dX0_passesProving_37 : decode cX0_passesProving 37 = .ok (.ifCond .eq 11, 3) := by decide +kernel
theorem dX0_passesProving_40 : decode cX0_passesProving 40 = .ok (.aload_n 0, 1) := by decide +kernel
theorem dX0_passesProving_41 : decode cX0_passesProving 41 = .ok (.iconst 0, 1) := by decide +kernel
theorem dX0_passesProving_42 : decode cX0_passesProving 42 = .ok (.putfield 129, 3) := by decide +kernel
theorem dX0_passesProving_45 : decode cX0_passesProving 45 = .ok (.goto 18, 3) := by decide +kernel
theorem dX0_passesProving_48 : decode cX0_passesProving 48 = .ok (.aload_n 0, 1) := by decide +kernel
theorem dX0_passesProving_49 : decode cX0_passesProving 49 = .ok (.dup, 1) := by decide +kernel
theorem dX0_passesProving_50 : decode cX0_passesProving 50 = .ok (.getfield 129, 3) := by decide +kernel
theorem dX0_passesProving_53 : decode cX0_passesProving 53 = .ok (.iconst 1, 1) := by decide +kernel
theorem dX0_passesProving_54 : decode cX0_passesProving 54 = .ok (.iadd, 1) := by decide +kernel
theorem dX0_passesProving_55 : decode cX0_passesProving 55 = .ok (.putfield 129, 3) := by decide +kernel
theorem dX0_passesProving_58 : decode cX0_passesProving 58 = .ok (.aload_n 0, 1) := by decide +kernel
theorem dX0_passesProving_59 : decode cX0_passesProving 59 = .ok (.lconst 0, 1) := by decide +kernel
theorem dX0_passesProving_60 : decode cX0_passesProving 60 = .ok (.putfield 115, 3) := by decide +kernel
theorem dX0_passesProving_63 : decode cX0_passesProving 63 = .ok (.iload 7, 2) := by decide +kernel
theorem dX0_passesProving_65 : decode cX0_passesProving 65 = .ok (.ireturn, 1) := by decide +kernel
set_option maxRecDepth 20000 in
theorem ggX0_addBlob_X0_digestNow : GoodIn wsX0_addBlob wsX0_digestNow := goodIn_r _ [7, 8, 9, 10, 11, 12, 13, 14, 15, 16, 17, 6, 18, 19, 47, 48, 49, 50, 51, 52, 53, 54, 55, 56, 57, 58, 59, 60, 61] (by decide +kernel) (by decide +kernel)
set_option maxRecDepth 20000 in
theorem gX0_addBlob_X0_digestNow : GoodIn wsX0_addBlob (wsV RX0 60 RX0 yX0_digestNow wsX0_digestNow) := goodIn_app (goodIn_of _ (by decide +kernel)) ggX0_addBlob_X0_digestNow
set_option maxRecDepth 20000 in
theorem ggX0_addBlob_X0_draw : GoodIn wsX0_addBlob wsX0_draw := goodIn_r _ [23, 24, 25, 26, 27, 6, 28, 29, 16, 17, 18, 19, 47, 48, 49, 50, 51, 52, 53, 54, 55, 56, 57, 58, 59, 60, 61] (by decide +kernel) (by decide +kernel)
set_option maxRecDepth 20000 in
theorem gX0_addBlob_X0_draw : GoodIn wsX0_addBlob (wsV RX0 68 RX0 yX0_draw wsX0_draw) := goodIn_app (goodIn_of _ (by decide +kernel)) ggX0_addBlob_X0_draw
set_option maxRecDepth 20000 in
theorem ggX0_addBlob_X0_cover : GoodIn wsX0_addBlob wsX0_cover := goodIn_r _ [33, 34, 25, 16, 17, 6, 18, 19, 47, 48, 49, 50, 51, 52, 53, 54, 55, 56, 57, 58, 59, 60, 61] (by decide +kernel) (by decide +kernel)
set_option maxRecDepth 20000 in
theorem gX0_addBlob_X0_cover : GoodIn wsX0_addBlob (wsV RX0 118 RX0 yX0_cover wsX0_cover) := goodIn_app (goodIn_of _ (by decide +kernel)) ggX0_addBlob_X0_cover
set_option maxRecDepth 20000 in
theorem ggX0_addBlob_X0_sealOf : GoodIn wsX0_addBlob wsX0_sealOf := goodIn_r _ [38, 25, 39, 40, 6, 41, 42, 16, 17, 18, 19, 43, 44, 45, 46, 26, 27, 28, 29, 47, 48, 49, 50, 51, 52, 53, 54, 55, 56, 57, 58, 59, 60, 61] (by decide +kernel) (by decide +kernel)
set_option maxRecDepth 20000 in
theorem gX0_addBlob_X0_sealOf : GoodIn wsX0_addBlob (wsV RX0 103 RX0 yX0_sealOf wsX0_sealOf) := goodIn_app (goodIn_of _ (by decide +kernel)) ggX0_addBlob_X0_sealOf
theorem dX0_addBlob_0 : decode cX0_addBlob 0 = .ok (.aload_n 0, 1) := by decide +kernel
theorem dX0_addBlob_1 : decode cX0_addBlob 1 = .ok (.getfield 92, 3) := by decide +kernel
theorem dX0_addBlob_4 : decode cX0_addBlob 4 = .ok (.istore 6, 2) := by decide +kernel
theorem dX0_addBlob_6 : decode cX0_addBlob 6 = .ok (.aload_n 0, 1) := by decide +kernel
theorem dX0_addBlob_7 : decode cX0_addBlob 7 = .ok (.getfield 42, 3) := by decide +kernel
theorem dX0_addBlob_10 : decode cX0_addBlob 10 = .ok (.iload 6, 2) := by decide +kernel
theorem dX0_addBlob_12 : decode cX0_addBlob 12 = .ok (.aaload, 1) := by decide +kernel
theorem dX0_addBlob_13 : decode cX0_addBlob 13 = .ok (.astore 7, 2) := by decide +kernel
theorem dX0_addBlob_15 : decode cX0_addBlob 15 = .ok (.aload_n 0, 1) := by decide +kernel
theorem dX0_addBlob_16 : decode cX0_addBlob 16 = .ok (.iload_n 3, 1) := by decide +kernel
theorem dX0_addBlob_17 : decode cX0_addBlob 17 = .ok (.invokevirtual 60, 3) := by decide +kernel
theorem dX0_addBlob_20 : decode cX0_addBlob 20 = .ok (.lstore 8, 2) := by decide +kernel
theorem dX0_addBlob_22 : decode cX0_addBlob 22 = .ok (.aload_n 0, 1) := by decide +kernel
theorem dX0_addBlob_23 : decode cX0_addBlob 23 = .ok (.invokevirtual 68, 3) := by decide +kernel
theorem dX0_addBlob_26 : decode cX0_addBlob 26 = .ok (.lstore 10, 2) := by decide +kernel
theorem dX0_addBlob_28 : decode cX0_addBlob 28 = .ok (.aload 7, 2) := by decide +kernel
theorem dX0_addBlob_30 : decode cX0_addBlob 30 = .ok (.iconst 0, 1) := by decide +kernel
theorem dX0_addBlob_31 : decode cX0_addBlob 31 = .ok (.lload_n 1, 1) := by decide +kernel
theorem dX0_addBlob_32 : decode cX0_addBlob 32 = .ok (.lastore, 1) := by decide +kernel
theorem dX0_addBlob_33 : decode cX0_addBlob 33 = .ok (.aload 7, 2) := by decide +kernel
theorem dX0_addBlob_35 : decode cX0_addBlob 35 = .ok (.iconst 1, 1) := by decide +kernel
theorem dX0_addBlob_36 : decode cX0_addBlob 36 = .ok (.iload_n 3, 1) := by decide +kernel
theorem dX0_addBlob_37 : decode cX0_addBlob 37 = .ok (.i2l, 1) := by decide +kernel
theorem dX0_addBlob_38 : decode cX0_addBlob 38 = .ok (.lastore, 1) := by decide +kernel
theorem dX0_addBlob_39 : decode cX0_addBlob 39 = .ok (.aload 7, 2) := by decide +kernel
theorem dX0_addBlob_41 : decode cX0_addBlob 41 = .ok (.iconst 2, 1) := by decide +kernel
theorem dX0_addBlob_42 : decode cX0_addBlob 42 = .ok (.lload 8, 2) := by decide +kernel
theorem dX0_addBlob_44 : decode cX0_addBlob 44 = .ok (.lastore, 1) := by decide +kernel
theorem dX0_addBlob_45 : decode cX0_addBlob 45 = .ok (.aload 7, 2) := by decide +kernel
theorem dX0_addBlob_47 : decode cX0_addBlob 47 = .ok (.iconst 3, 1) := by decide +kernel
theorem dX0_addBlob_48 : decode cX0_addBlob 48 = .ok (.lload 10, 2) := by decide +kernel
theorem dX0_addBlob_50 : decode cX0_addBlob 50 = .ok (.lastore, 1) := by decide +kernel
theorem dX0_addBlob_51 : decode cX0_addBlob 51 = .ok (.aload 7, 2) := by decide +kernel
theorem dX0_addBlob_53 : decode cX0_addBlob 53 = .ok (.iconst 4, 1) := by decide +kernel
theorem dX0_addBlob_54 : decode cX0_addBlob 54 = .ok (.lload 4, 2) := by decide +kernel
theorem dX0_addBlob_56 : decode cX0_addBlob 56 = .ok (.aload_n 0, 1) := by decide +kernel
theorem dX0_addBlob_57 : decode cX0_addBlob 57 = .ok (.lload 10, 2) := by decide +kernel
theorem dX0_addBlob_59 : decode cX0_addBlob 59 = .ok (.lload 8, 2) := by decide +kernel
theorem dX0_addBlob_61 : decode cX0_addBlob 61 = .ok (.invokevirtual 118, 3) := by decide +kernel
theorem dX0_addBlob_64 : decode cX0_addBlob 64 = .ok (.lxor, 1) := by decide +kernel
theorem dX0_addBlob_65 : decode cX0_addBlob 65 = .ok (.lastore, 1) := by decide +kernel
theorem dX0_addBlob_66 : decode cX0_addBlob 66 = .ok (.aload 7, 2) := by decide +kernel
theorem dX0_addBlob_68 : decode cX0_addBlob 68 = .ok (.iconst 5, 1) := by decide +kernel
theorem dX0_addBlob_69 : decode cX0_addBlob 69 = .ok (.aload_n 0, 1) := by decide +kernel
theorem dX0_addBlob_70 : decode cX0_addBlob 70 = .ok (.aload 7, 2) := by decide +kernel
theorem dX0_addBlob_72 : decode cX0_addBlob 72 = .ok (.invokevirtual 103, 3) := by decide +kernel
theorem dX0_addBlob_75 : decode cX0_addBlob 75 = .ok (.lastore, 1) := by decide +kernel
theorem dX0_addBlob_76 : decode cX0_addBlob 76 = .ok (.aload_n 0, 1) := by decide +kernel
theorem dX0_addBlob_77 : decode cX0_addBlob 77 = .ok (.iload 6, 2) := by decide +kernel
theorem dX0_addBlob_79 : decode cX0_addBlob 79 = .ok (.iconst 1, 1) := by decide +kernel
theorem dX0_addBlob_80 : decode cX0_addBlob 80 = .ok (.iadd, 1) := by decide +kernel
theorem dX0_addBlob_81 : decode cX0_addBlob 81 = .ok (.putfield 92, 3) := by decide +kernel
theorem dX0_addBlob_84 : decode cX0_addBlob 84 = .ok (.iload 6, 2) := by decide +kernel
theorem dX0_addBlob_86 : decode cX0_addBlob 86 = .ok (.ireturn, 1) := by decide +kernel
set_option maxRecDepth 20000 in
theorem ggX0_digestNow_J6_bitCount_0f7a4 : GoodIn wsX0_digestNow wsJ6_bitCount_0f7a4 := goodIn_r _ [5, 6, 7, 8] (by decide +kernel) (by decide +kernel)
set_option maxRecDepth 20000 in
theorem gX0_digestNow_J6_bitCount_0f7a4 : GoodIn wsX0_digestNow (va_wsS RX0 137 yJ6_bitCount_0f7a4 wsJ6_bitCount_0f7a4) := goodIn_app (goodIn_of _ (by decide +kernel)) ggX0_digestNow_J6_bitCount_0f7a4
set_option maxRecDepth 20000 in
theorem ggX0_digestNow_X0_fold : GoodIn wsX0_digestNow wsX0_fold := goodIn_r _ [12, 13] (by decide +kernel) (by decide +kernel)
set_option maxRecDepth 20000 in
theorem gX0_digestNow_X0_fold : GoodIn wsX0_digestNow (va_wsS RX0 143 yX0_fold wsX0_fold) := goodIn_app (goodIn_of _ (by decide +kernel)) ggX0_digestNow_X0_fold
theorem dX0_digestNow_0 : decode cX0_digestNow 0 = .ok (.iconst 1, 1) := by decide +kernel
theorem dX0_digestNow_1 : decode cX0_digestNow 1 = .ok (.iload_n 1, 1) := by decide +kernel
theorem dX0_digestNow_2 : decode cX0_digestNow 2 = .ok (.invokestatic 137, 3) := by decide +kernel
theorem dX0_digestNow_5 : decode cX0_digestNow 5 = .ok (.iadd, 1) := by decide +kernel
theorem dX0_digestNow_6 : decode cX0_digestNow 6 = .ok (.i2l, 1) := by decide +kernel
theorem dX0_digestNow_7 : decode cX0_digestNow 7 = .ok (.iload_n 1, 1) := by decide +kernel
theorem dX0_digestNow_8 : decode cX0_digestNow 8 = .ok (.i2l, 1) := by decide +kernel
theorem dX0_digestNow_9 : decode cX0_digestNow 9 = .ok (.invokestatic 143, 3) := by decide +kernel
theorem dX0_digestNow_12 : decode cX0_digestNow 12 = .ok (.lstore_n 2, 1) := by decide +kernel
theorem dX0_digestNow_13 : decode cX0_digestNow 13 = .ok (.iconst 0, 1) := by decide +kernel
theorem dX0_digestNow_14 : decode cX0_digestNow 14 = .ok (.istore 4, 2) := by decide +kernel
theorem dX0_digestNow_16 : decode cX0_digestNow 16 = .ok (.iload 4, 2) := by decide +kernel
theorem dX0_digestNow_18 : decode cX0_digestNow 18 = .ok (.bipush 8, 2) := by decide +kernel
theorem dX0_digestNow_20 : decode cX0_digestNow 20 = .ok (.if_icmp .ge 30, 3) := by decide +kernel
theorem dX0_digestNow_23 : decode cX0_digestNow 23 = .ok (.iload_n 1, 1) := by decide +kernel
theorem dX0_digestNow_24 : decode cX0_digestNow 24 = .ok (.iload 4, 2) := by decide +kernel
theorem dX0_digestNow_26 : decode cX0_digestNow 26 = .ok (.ishr, 1) := by decide +kernel
theorem dX0_digestNow_27 : decode cX0_digestNow 27 = .ok (.iconst 1, 1) := by decide +kernel
theorem dX0_digestNow_28 : decode cX0_digestNow 28 = .ok (.iand, 1) := by decide +kernel
theorem dX0_digestNow_29 : decode cX0_digestNow 29 = .ok (.ifCond .eq 15, 3) := by decide +kernel
theorem dX0_digestNow_32 : decode cX0_digestNow 32 = .ok (.lload_n 2, 1) := by decide +kernel
theorem dX0_digestNow_33 : decode cX0_digestNow 33 = .ok (.aload_n 0, 1) := by decide +kernel
theorem dX0_digestNow_34 : decode cX0_digestNow 34 = .ok (.getfield 17, 3) := by decide +kernel
theorem dX0_digestNow_37 : decode cX0_digestNow 37 = .ok (.iload 4, 2) := by decide +kernel
theorem dX0_digestNow_39 : decode cX0_digestNow 39 = .ok (.laload, 1) := by decide +kernel
theorem dX0_digestNow_40 : decode cX0_digestNow 40 = .ok (.invokestatic 143, 3) := by decide +kernel
theorem dX0_digestNow_43 : decode cX0_digestNow 43 = .ok (.lstore_n 2, 1) := by decide +kernel
theorem dX0_digestNow_44 : decode cX0_digestNow 44 = .ok (.iinc 4 1, 3) := by decide +kernel
theorem dX0_digestNow_47 : decode cX0_digestNow 47 = .ok (.goto (-31), 3) := by decide +kernel
theorem dX0_digestNow_50 : decode cX0_digestNow 50 = .ok (.lload_n 2, 1) := by decide +kernel
theorem dX0_digestNow_51 : decode cX0_digestNow 51 = .ok (.lreturn, 1) := by decide +kernel
set_option maxRecDepth 20000 in
theorem ggX0_rightProof_X0_macBegin : GoodIn wsX0_rightProof wsX0_macBegin := goodIn_r _ [6, 7, 8, 9, 5, 10, 11] (by decide +kernel) (by decide +kernel)
set_option maxRecDepth 20000 in
theorem gX0_rightProof_X0_macBegin : GoodIn wsX0_rightProof (va_wsS RX0 146 yX0_macBegin wsX0_macBegin) := goodIn_app (goodIn_of _ (by decide +kernel)) ggX0_rightProof_X0_macBegin
set_option maxRecDepth 20000 in
theorem ggX0_rightProof_X0_fold : GoodIn wsX0_rightProof wsX0_fold := goodIn_r _ [10, 11] (by decide +kernel) (by decide +kernel)
set_option maxRecDepth 20000 in
theorem gX0_rightProof_X0_fold : GoodIn wsX0_rightProof (va_wsS RX0 143 yX0_fold wsX0_fold) := goodIn_app (goodIn_of _ (by decide +kernel)) ggX0_rightProof_X0_fold
set_option maxRecDepth 20000 in
theorem ggX0_rightProof_X0_macEnd : GoodIn wsX0_rightProof wsX0_macEnd := goodIn_r _ [14, 15, 16, 17, 5, 18, 19, 8, 9, 10, 11] (by decide +kernel) (by decide +kernel)
set_option maxRecDepth 20000 in
theorem gX0_rightProof_X0_macEnd : GoodIn wsX0_rightProof (va_wsS RX0 150 yX0_macEnd wsX0_macEnd) := goodIn_app (goodIn_of _ (by decide +kernel)) ggX0_rightProof_X0_macEnd
theorem dX0_rightProof_0 : decode cX0_rightProof 0 = .ok (.lload_n 1, 1) := by decide +kernel
theorem dX0_rightProof_1 : decode cX0_rightProof 1 = .ok (.iconst 4, 1) := by decide +kernel
theorem dX0_rightProof_2 : decode cX0_rightProof 2 = .ok (.invokestatic 146, 3) := by decide +kernel
theorem dX0_rightProof_5 : decode cX0_rightProof 5 = .ok (.lstore 7, 2) := by decide +kernel
theorem dX0_rightProof_7 : decode cX0_rightProof 7 = .ok (.lload 7, 2) := by decide +kernel
theorem dX0_rightProof_9 : decode cX0_rightProof 9 = .ok (.aload_n 0, 1) := by decide +kernel
theorem dX0_rightProof_10 : decode cX0_rightProof 10 = .ok (.getfield 37, 3) := by decide +kernel
theorem dX0_rightProof_13 : decode cX0_rightProof 13 = .ok (.iload_n 3, 1) := by decide +kernel
theorem dX0_rightProof_14 : decode cX0_rightProof 14 = .ok (.laload, 1) := by decide +kernel
theorem dX0_rightProof_15 : decode cX0_rightProof 15 = .ok (.invokestatic 143, 3) := by decide +kernel
theorem dX0_rightProof_18 : decode cX0_rightProof 18 = .ok (.lstore 7, 2) := by decide +kernel
theorem dX0_rightProof_20 : decode cX0_rightProof 20 = .ok (.lload 7, 2) := by decide +kernel
theorem dX0_rightProof_22 : decode cX0_rightProof 22 = .ok (.aload_n 0, 1) := by decide +kernel
theorem dX0_rightProof_23 : decode cX0_rightProof 23 = .ok (.getfield 34, 3) := by decide +kernel
theorem dX0_rightProof_26 : decode cX0_rightProof 26 = .ok (.iload_n 3, 1) := by decide +kernel
theorem dX0_rightProof_27 : decode cX0_rightProof 27 = .ok (.laload, 1) := by decide +kernel
theorem dX0_rightProof_28 : decode cX0_rightProof 28 = .ok (.invokestatic 143, 3) := by decide +kernel
theorem dX0_rightProof_31 : decode cX0_rightProof 31 = .ok (.lstore 7, 2) := by decide +kernel
theorem dX0_rightProof_33 : decode cX0_rightProof 33 = .ok (.lload 7, 2) := by decide +kernel
theorem dX0_rightProof_35 : decode cX0_rightProof 35 = .ok (.iload 4, 2) := by decide +kernel
theorem dX0_rightProof_37 : decode cX0_rightProof 37 = .ok (.i2l, 1) := by decide +kernel
theorem dX0_rightProof_38 : decode cX0_rightProof 38 = .ok (.invokestatic 143, 3) := by decide +kernel
theorem dX0_rightProof_41 : decode cX0_rightProof 41 = .ok (.lstore 7, 2) := by decide +kernel
theorem dX0_rightProof_43 : decode cX0_rightProof 43 = .ok (.lload 7, 2) := by decide +kernel
theorem dX0_rightProof_45 : decode cX0_rightProof 45 = .ok (.lload 5, 2) := by decide +kernel
theorem dX0_rightProof_47 : decode cX0_rightProof 47 = .ok (.invokestatic 143, 3) := by decide +kernel
theorem dX0_rightProof_50 : decode cX0_rightProof 50 = .ok (.lstore 7, 2) := by decide +kernel
theorem dX0_rightProof_52 : decode cX0_rightProof 52 = .ok (.lload_n 1, 1) := by decide +kernel
theorem dX0_rightProof_53 : decode cX0_rightProof 53 = .ok (.lload 7, 2) := by decide +kernel
theorem dX0_rightProof_55 : decode cX0_rightProof 55 = .ok (.invokestatic 150, 3) := by decide +kernel
theorem dX0_rightProof_58 : decode cX0_rightProof 58 = .ok (.lreturn, 1) := by decide +kernel
set_option maxRecDepth 20000 in
theorem ggX0_signature_X0_macBegin : GoodIn wsX0_signature wsX0_macBegin := goodIn_r _ [4, 5, 6, 7, 3, 8, 9] (by decide +kernel) (by decide +kernel)
set_option maxRecDepth 20000 in
theorem gX0_signature_X0_macBegin : GoodIn wsX0_signature (va_wsS RX0 146 yX0_macBegin wsX0_macBegin) := goodIn_app (goodIn_of _ (by decide +kernel)) ggX0_signature_X0_macBegin
set_option maxRecDepth 20000 in
theorem ggX0_signature_X0_fold : GoodIn wsX0_signature wsX0_fold := goodIn_r _ [8, 9] (by decide +kernel) (by decide +kernel)
set_option maxRecDepth 20000 in
theorem gX0_signature_X0_fold : GoodIn wsX0_signature (va_wsS RX0 143 yX0_fold wsX0_fold) := goodIn_app (goodIn_of _ (by decide +kernel)) ggX0_signature_X0_fold
set_option maxRecDepth 20000 in
theorem ggX0_signature_X0_digestNow : GoodIn wsX0_signature wsX0_digestNow := goodIn_r _ [13, 14, 15, 16, 17, 18, 19, 20, 21, 6, 7, 3, 8, 9, 30, 31, 32, 33, 34, 35, 36, 37, 38, 39, 40, 41, 42, 43, 44] (by decide +kernel) (by decide +kernel)
set_option maxRecDepth 20000 in
theorem gX0_signature_X0_digestNow : GoodIn wsX0_signature (wsV RX0 60 RX0 yX0_digestNow wsX0_digestNow) := goodIn_app (goodIn_of _ (by decide +kernel)) ggX0_signature_X0_digestNow
set_option maxRecDepth 20000 in
theorem ggX0_signature_X0_macEnd : GoodIn wsX0_signature wsX0_macEnd := goodIn_r _ [24, 25, 26, 27, 3, 28, 29, 6, 7, 8, 9] (by decide +kernel) (by decide +kernel)
set_option maxRecDepth 20000 in
theorem gX0_signature_X0_macEnd : GoodIn wsX0_signature (va_wsS RX0 150 yX0_macEnd wsX0_macEnd) := goodIn_app (goodIn_of _ (by decide +kernel)) ggX0_signature_X0_macEnd
theorem dX0_signature_0 : decode cX0_signature 0 = .ok (.lload_n 1, 1) := by decide +kernel
theorem dX0_signature_1 : decode cX0_signature 1 = .ok (.iconst 3, 1) := by decide +kernel
theorem dX0_signature_2 : decode cX0_signature 2 = .ok (.invokestatic 146, 3) := by decide +kernel
theorem dX0_signature_5 : decode cX0_signature 5 = .ok (.lstore 6, 2) := by decide +kernel
theorem dX0_signature_7 : decode cX0_signature 7 = .ok (.lload 6, 2) := by decide +kernel
theorem dX0_signature_9 : decode cX0_signature 9 = .ok (.iload_n 3, 1) := by decide +kernel
theorem dX0_signature_10 : decode cX0_signature 10 = .ok (.i2l, 1) := by decide +kernel
theorem dX0_signature_11 : decode cX0_signature 11 = .ok (.invokestatic 143, 3) := by decide +kernel
theorem dX0_signature_14 : decode cX0_signature 14 = .ok (.lstore 6, 2) := by decide +kernel
theorem dX0_signature_16 : decode cX0_signature 16 = .ok (.lload 6, 2) := by decide +kernel
theorem dX0_signature_18 : decode cX0_signature 18 = .ok (.aload_n 0, 1) := by decide +kernel
theorem dX0_signature_19 : decode cX0_signature 19 = .ok (.iload_n 3, 1) := by decide +kernel
theorem dX0_signature_20 : decode cX0_signature 20 = .ok (.invokevirtual 60, 3) := by decide +kernel
theorem dX0_signature_23 : decode cX0_signature 23 = .ok (.invokestatic 143, 3) := by decide +kernel
theorem dX0_signature_26 : decode cX0_signature 26 = .ok (.lstore 6, 2) := by decide +kernel
theorem dX0_signature_28 : decode cX0_signature 28 = .ok (.lload 6, 2) := by decide +kernel
theorem dX0_signature_30 : decode cX0_signature 30 = .ok (.lload 4, 2) := by decide +kernel
theorem dX0_signature_32 : decode cX0_signature 32 = .ok (.invokestatic 143, 3) := by decide +kernel
theorem dX0_signature_35 : decode cX0_signature 35 = .ok (.lstore 6, 2) := by decide +kernel
theorem dX0_signature_37 : decode cX0_signature 37 = .ok (.lload_n 1, 1) := by decide +kernel
theorem dX0_signature_38 : decode cX0_signature 38 = .ok (.lload 6, 2) := by decide +kernel
theorem dX0_signature_40 : decode cX0_signature 40 = .ok (.invokestatic 150, 3) := by decide +kernel
theorem dX0_signature_43 : decode cX0_signature 43 = .ok (.lreturn, 1) := by decide +kernel
set_option maxRecDepth 20000 in
theorem ggX0_sealOf_X0_macBegin : GoodIn wsX0_sealOf wsX0_macBegin := goodIn_r _ [5, 6, 7, 8, 4, 9, 10] (by decide +kernel) (by decide +kernel)
set_option maxRecDepth 20000 in
theorem gX0_sealOf_X0_macBegin : GoodIn wsX0_sealOf (va_wsS RX0 146 yX0_macBegin wsX0_macBegin) := goodIn_app (goodIn_of _ (by decide +kernel)) ggX0_sealOf_X0_macBegin
set_option maxRecDepth 20000 in
theorem ggX0_sealOf_X0_fold : GoodIn wsX0_sealOf wsX0_fold := goodIn_r _ [9, 10] (by decide +kernel) (by decide +kernel)
set_option maxRecDepth 20000 in
theorem gX0_sealOf_X0_fold : GoodIn wsX0_sealOf (va_wsS RX0 143 yX0_fold wsX0_fold) := goodIn_app (goodIn_of _ (by decide +kernel)) ggX0_sealOf_X0_fold
set_option maxRecDepth 20000 in
theorem ggX0_sealOf_X0_macEnd : GoodIn wsX0_sealOf wsX0_macEnd := goodIn_r _ [13, 14, 15, 16, 4, 17, 18, 7, 8, 9, 10] (by decide +kernel) (by decide +kernel)
set_option maxRecDepth 20000 in
theorem gX0_sealOf_X0_macEnd : GoodIn wsX0_sealOf (va_wsS RX0 150 yX0_macEnd wsX0_macEnd) := goodIn_app (goodIn_of _ (by decide +kernel)) ggX0_sealOf_X0_macEnd
theorem dX0_sealOf_0 : decode cX0_sealOf 0 = .ok (.aload_n 0, 1) := by decide +kernel
theorem dX0_sealOf_1 : decode cX0_sealOf 1 = .ok (.getfield 13, 3) := by decide +kernel
theorem dX0_sealOf_4 : decode cX0_sealOf 4 = .ok (.iconst 5, 1) := by decide +kernel
theorem dX0_sealOf_5 : decode cX0_sealOf 5 = .ok (.invokestatic 146, 3) := by decide +kernel
theorem dX0_sealOf_8 : decode cX0_sealOf 8 = .ok (.lstore_n 2, 1) := by decide +kernel
theorem dX0_sealOf_9 : decode cX0_sealOf 9 = .ok (.iconst 0, 1) := by decide +kernel
theorem dX0_sealOf_10 : decode cX0_sealOf 10 = .ok (.istore 4, 2) := by decide +kernel
theorem dX0_sealOf_12 : decode cX0_sealOf 12 = .ok (.iload 4, 2) := by decide +kernel
theorem dX0_sealOf_14 : decode cX0_sealOf 14 = .ok (.iconst 5, 1) := by decide +kernel
theorem dX0_sealOf_15 : decode cX0_sealOf 15 = .ok (.if_icmp .ge 18, 3) := by decide +kernel
theorem dX0_sealOf_18 : decode cX0_sealOf 18 = .ok (.lload_n 2, 1) := by decide +kernel
theorem dX0_sealOf_19 : decode cX0_sealOf 19 = .ok (.aload_n 1, 1) := by decide +kernel
theorem dX0_sealOf_20 : decode cX0_sealOf 20 = .ok (.iload 4, 2) := by decide +kernel
theorem dX0_sealOf_22 : decode cX0_sealOf 22 = .ok (.laload, 1) := by decide +kernel
theorem dX0_sealOf_23 : decode cX0_sealOf 23 = .ok (.invokestatic 143, 3) := by decide +kernel
theorem dX0_sealOf_26 : decode cX0_sealOf 26 = .ok (.lstore_n 2, 1) := by decide +kernel
theorem dX0_sealOf_27 : decode cX0_sealOf 27 = .ok (.iinc 4 1, 3) := by decide +kernel
theorem dX0_sealOf_30 : decode cX0_sealOf 30 = .ok (.goto (-18), 3) := by decide +kernel
theorem dX0_sealOf_33 : decode cX0_sealOf 33 = .ok (.aload_n 0, 1) := by decide +kernel
theorem dX0_sealOf_34 : decode cX0_sealOf 34 = .ok (.getfield 13, 3) := by decide +kernel
theorem dX0_sealOf_37 : decode cX0_sealOf 37 = .ok (.lload_n 2, 1) := by decide +kernel
theorem dX0_sealOf_38 : decode cX0_sealOf 38 = .ok (.invokestatic 150, 3) := by decide +kernel
theorem dX0_sealOf_41 : decode cX0_sealOf 41 = .ok (.lreturn, 1) := by decide +kernel
set_option maxRecDepth 20000 in
theorem ggX0_cover_X0_fold : GoodIn wsX0_cover wsX0_fold := goodIn_r _ [6, 7] (by decide +kernel) (by decide +kernel)
set_option maxRecDepth 20000 in
theorem gX0_cover_X0_fold : GoodIn wsX0_cover (va_wsS RX0 143 yX0_fold wsX0_fold) := goodIn_app (goodIn_of _ (by decide +kernel)) ggX0_cover_X0_fold
theorem dX0_cover_0 : decode cX0_cover 0 = .ok (.ldc2_w 153, 3) := by decide +kernel
theorem dX0_cover_3 : decode cX0_cover 3 = .ok (.aload_n 0, 1) := by decide +kernel
theorem dX0_cover_4 : decode cX0_cover 4 = .ok (.getfield 13, 3) := by decide +kernel
theorem dX0_cover_7 : decode cX0_cover 7 = .ok (.invokestatic 143, 3) := by decide +kernel
theorem dX0_cover_10 : decode cX0_cover 10 = .ok (.lload_n 1, 1) := by decide +kernel
theorem dX0_cover_11 : decode cX0_cover 11 = .ok (.invokestatic 143, 3) := by decide +kernel
theorem dX0_cover_14 : decode cX0_cover 14 = .ok (.lload_n 3, 1) := by decide +kernel
theorem dX0_cover_15 : decode cX0_cover 15 = .ok (.invokestatic 143, 3) := by decide +kernel
theorem dX0_cover_18 : decode cX0_cover 18 = .ok (.lreturn, 1) := by decide +kernel
set_option maxRecDepth 20000 in
theorem ggX0_macBegin_X0_fold : GoodIn wsX0_macBegin wsX0_fold := goodIn_r _ [5, 6] (by decide +kernel) (by decide +kernel)
set_option maxRecDepth 20000 in
theorem gX0_macBegin_X0_fold : GoodIn wsX0_macBegin (va_wsS RX0 143 yX0_fold wsX0_fold) := goodIn_app (goodIn_of _ (by decide +kernel)) ggX0_macBegin_X0_fold
theorem dX0_macBegin_0 : decode cX0_macBegin 0 = .ok (.iload_n 2, 1) := by decide +kernel
theorem dX0_macBegin_1 : decode cX0_macBegin 1 = .ok (.iconst 1, 1) := by decide +kernel
theorem dX0_macBegin_2 : decode cX0_macBegin 2 = .ok (.iadd, 1) := by decide +kernel
theorem dX0_macBegin_3 : decode cX0_macBegin 3 = .ok (.i2l, 1) := by decide +kernel
theorem dX0_macBegin_4 : decode cX0_macBegin 4 = .ok (.lload_n 0, 1) := by decide +kernel
theorem dX0_macBegin_5 : decode cX0_macBegin 5 = .ok (.ldc2_w 155, 3) := by decide +kernel
theorem dX0_macBegin_8 : decode cX0_macBegin 8 = .ok (.lxor, 1) := by decide +kernel
theorem dX0_macBegin_9 : decode cX0_macBegin 9 = .ok (.invokestatic 143, 3) := by decide +kernel
theorem dX0_macBegin_12 : decode cX0_macBegin 12 = .ok (.lreturn, 1) := by decide +kernel
set_option maxRecDepth 20000 in
theorem ggX0_macEnd_X0_hash2 : GoodIn wsX0_macEnd wsX0_hash2 := goodIn_r _ [5, 6, 7, 8, 4, 9, 10] (by decide +kernel) (by decide +kernel)
set_option maxRecDepth 20000 in
theorem gX0_macEnd_X0_hash2 : GoodIn wsX0_macEnd (va_wsS RX0 7 yX0_hash2 wsX0_hash2) := goodIn_app (goodIn_of _ (by decide +kernel)) ggX0_macEnd_X0_hash2
theorem dX0_macEnd_0 : decode cX0_macEnd 0 = .ok (.lload_n 0, 1) := by decide +kernel
theorem dX0_macEnd_1 : decode cX0_macEnd 1 = .ok (.ldc2_w 157, 3) := by decide +kernel
theorem dX0_macEnd_4 : decode cX0_macEnd 4 = .ok (.lxor, 1) := by decide +kernel
theorem dX0_macEnd_5 : decode cX0_macEnd 5 = .ok (.lload_n 2, 1) := by decide +kernel
theorem dX0_macEnd_6 : decode cX0_macEnd 6 = .ok (.invokestatic 7, 3) := by decide +kernel
theorem dX0_macEnd_9 : decode cX0_macEnd 9 = .ok (.lreturn, 1) := by decide +kernel
set_option maxRecDepth 20000 in
theorem ggX0_hash2_X0_fold : GoodIn wsX0_hash2 wsX0_fold := goodIn_r _ [5, 6] (by decide +kernel) (by decide +kernel)
set_option maxRecDepth 20000 in
theorem gX0_hash2_X0_fold : GoodIn wsX0_hash2 (va_wsS RX0 143 yX0_fold wsX0_fold) := goodIn_app (goodIn_of _ (by decide +kernel)) ggX0_hash2_X0_fold
theorem dX0_hash2_0 : decode cX0_hash2 0 = .ok (.ldc2_w 159, 3) := by decide +kernel
theorem dX0_hash2_3 : decode cX0_hash2 3 = .ok (.lload_n 0, 1) := by decide +kernel
theorem dX0_hash2_4 : decode cX0_hash2 4 = .ok (.invokestatic 143, 3) := by decide +kernel
theorem dX0_hash2_7 : decode cX0_hash2 7 = .ok (.lload_n 2, 1) := by decide +kernel
theorem dX0_hash2_8 : decode cX0_hash2 8 = .ok (.invokestatic 143, 3) := by decide +kernel
theorem dX0_hash2_11 : decode cX0_hash2 11 = .ok (.lreturn, 1) := by decide +kernel
theorem dX0_fold_0 : decode cX0_fold 0 = .ok (.lload_n 0, 1) := by decide +kernel
theorem dX0_fold_1 : decode cX0_fold 1 = .ok (.lload_n 2, 1) := by decide +kernel
theorem dX0_fold_2 : decode cX0_fold 2 = .ok (.lxor, 1) := by decide +kernel
theorem dX0_fold_3 : decode cX0_fold 3 = .ok (.ldc2_w 161, 3) := by decide +kernel
theorem dX0_fold_6 : decode cX0_fold 6 = .ok (.lmul, 1) := by decide +kernel
theorem dX0_fold_7 : decode cX0_fold 7 = .ok (.lstore 4, 2) := by decide +kernel
theorem dX0_fold_9 : decode cX0_fold 9 = .ok (.lload 4, 2) := by decide +kernel
theorem dX0_fold_11 : decode cX0_fold 11 = .ok (.lload 4, 2) := by decide +kernel
theorem dX0_fold_13 : decode cX0_fold 13 = .ok (.bipush 29, 2) := by decide +kernel
theorem dX0_fold_15 : decode cX0_fold 15 = .ok (.lushr, 1) := by decide +kernel
theorem dX0_fold_16 : decode cX0_fold 16 = .ok (.lxor, 1) := by decide +kernel
theorem dX0_fold_17 : decode cX0_fold 17 = .ok (.lreturn, 1) := by decide +kernel
set_option maxRecDepth 20000 in
theorem ggX1_init_X1_hash : GoodIn wsX1_init wsX1_hash := goodIn_r _ [23, 16, 24, 25, 26, 27, 28, 29, 30, 31, 32, 33, 34, 35, 36, 37, 38, 39, 40, 41, 42, 43] (by decide +kernel) (by decide +kernel)
set_option maxRecDepth 20000 in
theorem gX1_init_X1_hash : GoodIn wsX1_init (wsV RX1 45 RX1 yX1_hash wsX1_hash) := goodIn_app (goodIn_of _ (by decide +kernel)) ggX1_init_X1_hash
theorem dX1_init_0 : decode cX1_init 0 = .ok (.aload_n 0, 1) := by decide +kernel
theorem dX1_init_1 : decode cX1_init 1 = .ok (.invokespecial 1, 3) := by decide +kernel
theorem dX1_init_4 : decode cX1_init 4 = .ok (.aload_n 0, 1) := by decide +kernel
theorem dX1_init_5 : decode cX1_init 5 = .ok (.sipush 512, 3) := by decide +kernel
theorem dX1_init_8 : decode cX1_init 8 = .ok (.newarray .int, 2) := by decide +kernel
theorem dX1_init_10 : decode cX1_init 10 = .ok (.putfield 7, 3) := by decide +kernel
theorem dX1_init_13 : decode cX1_init 13 = .ok (.aload_n 0, 1) := by decide +kernel
theorem dX1_init_14 : decode cX1_init 14 = .ok (.sipush 512, 3) := by decide +kernel
theorem dX1_init_17 : decode cX1_init 17 = .ok (.newarray .long, 2) := by decide +kernel
theorem dX1_init_19 : decode cX1_init 19 = .ok (.putfield 13, 3) := by decide +kernel
theorem dX1_init_22 : decode cX1_init 22 = .ok (.aload_n 0, 1) := by decide +kernel
theorem dX1_init_23 : decode cX1_init 23 = .ok (.bipush 6, 2) := by decide +kernel
theorem dX1_init_25 : decode cX1_init 25 = .ok (.newarray .boolean, 2) := by decide +kernel
theorem dX1_init_27 : decode cX1_init 27 = .ok (.putfield 17, 3) := by decide +kernel
theorem dX1_init_30 : decode cX1_init 30 = .ok (.aload_n 0, 1) := by decide +kernel
theorem dX1_init_31 : decode cX1_init 31 = .ok (.bipush 6, 2) := by decide +kernel
theorem dX1_init_33 : decode cX1_init 33 = .ok (.newarray .long, 2) := by decide +kernel
theorem dX1_init_35 : decode cX1_init 35 = .ok (.putfield 21, 3) := by decide +kernel
theorem dX1_init_38 : decode cX1_init 38 = .ok (.aload_n 0, 1) := by decide +kernel
theorem dX1_init_39 : decode cX1_init 39 = .ok (.bipush 6, 2) := by decide +kernel
theorem dX1_init_41 : decode cX1_init 41 = .ok (.newarray .long, 2) := by decide +kernel
theorem dX1_init_43 : decode cX1_init 43 = .ok (.putfield 24, 3) := by decide +kernel
theorem dX1_init_46 : decode cX1_init 46 = .ok (.aload_n 0, 1) := by decide +kernel
theorem dX1_init_47 : decode cX1_init 47 = .ok (.iconst 4, 1) := by decide +kernel
theorem dX1_init_48 : decode cX1_init 48 = .ok (.newarray .boolean, 2) := by decide +kernel
theorem dX1_init_50 : decode cX1_init 50 = .ok (.putfield 27, 3) := by decide +kernel
theorem dX1_init_53 : decode cX1_init 53 = .ok (.aload_n 0, 1) := by decide +kernel
theorem dX1_init_54 : decode cX1_init 54 = .ok (.iconst 4, 1) := by decide +kernel
theorem dX1_init_55 : decode cX1_init 55 = .ok (.newarray .long, 2) := by decide +kernel
theorem dX1_init_57 : decode cX1_init 57 = .ok (.putfield 30, 3) := by decide +kernel
theorem dX1_init_60 : decode cX1_init 60 = .ok (.aload_n 0, 1) := by decide +kernel
theorem dX1_init_61 : decode cX1_init 61 = .ok (.iconst 4, 1) := by decide +kernel
theorem dX1_init_62 : decode cX1_init 62 = .ok (.newarray .long, 2) := by decide +kernel
theorem dX1_init_64 : decode cX1_init 64 = .ok (.putfield 33, 3) := by decide +kernel
theorem dX1_init_67 : decode cX1_init 67 = .ok (.aload_n 0, 1) := by decide +kernel
theorem dX1_init_68 : decode cX1_init 68 = .ok (.bipush 60, 2) := by decide +kernel
theorem dX1_init_70 : decode cX1_init 70 = .ok (.newarray .long, 2) := by decide +kernel
theorem dX1_init_72 : decode cX1_init 72 = .ok (.putfield 36, 3) := by decide +kernel
theorem dX1_init_75 : decode cX1_init 75 = .ok (.aload_n 0, 1) := by decide +kernel
theorem dX1_init_76 : decode cX1_init 76 = .ok (.bipush 9, 2) := by decide +kernel
theorem dX1_init_78 : decode cX1_init 78 = .ok (.newarray .long, 2) := by decide +kernel
theorem dX1_init_80 : decode cX1_init 80 = .ok (.putfield 39, 3) := by decide +kernel
theorem dX1_init_83 : decode cX1_init 83 = .ok (.aload_n 0, 1) := by decide +kernel
theorem dX1_init_84 : decode cX1_init 84 = .ok (.bipush 8, 2) := by decide +kernel
theorem dX1_init_86 : decode cX1_init 86 = .ok (.newarray .long, 2) := by decide +kernel
theorem dX1_init_88 : decode cX1_init 88 = .ok (.putfield 42, 3) := by decide +kernel
theorem dX1_init_91 : decode cX1_init 91 = .ok (.aload_n 0, 1) := by decide +kernel
theorem dX1_init_92 : decode cX1_init 92 = .ok (.getfield 39, 3) := by decide +kernel
theorem dX1_init_95 : decode cX1_init 95 = .ok (.iconst 0, 1) := by decide +kernel
theorem dX1_init_96 : decode cX1_init 96 = .ok (.iload_n 1, 1) := by decide +kernel
theorem dX1_init_97 : decode cX1_init 97 = .ok (.i2l, 1) := by decide +kernel
theorem dX1_init_98 : decode cX1_init 98 = .ok (.lastore, 1) := by decide +kernel
theorem dX1_init_99 : decode cX1_init 99 = .ok (.aload_n 0, 1) := by decide +kernel
theorem dX1_init_100 : decode cX1_init 100 = .ok (.getfield 39, 3) := by decide +kernel
theorem dX1_init_103 : decode cX1_init 103 = .ok (.iconst 1, 1) := by decide +kernel
theorem dX1_init_104 : decode cX1_init 104 = .ok (.iload_n 2, 1) := by decide +kernel
theorem dX1_init_105 : decode cX1_init 105 = .ok (.i2l, 1) := by decide +kernel
theorem dX1_init_106 : decode cX1_init 106 = .ok (.lastore, 1) := by decide +kernel
theorem dX1_init_107 : decode cX1_init 107 = .ok (.aload_n 0, 1) := by decide +kernel
theorem dX1_init_108 : decode cX1_init 108 = .ok (.aload_n 0, 1) := by decide +kernel
theorem dX1_init_109 : decode cX1_init 109 = .ok (.iconst 2, 1) := by decide +kernel
theorem dX1_init_110 : decode cX1_init 110 = .ok (.invokevirtual 45, 3) := by decide +kernel
theorem dX1_init_113 : decode cX1_init 113 = .ok (.putfield 49, 3) := by decide +kernel
theorem dX1_init_116 : decode cX1_init 116 = .ok (.return_, 1) := by decide +kernel
theorem dX1_hash_0 : decode cX1_hash 0 = .ok (.iload_n 1, 1) := by decide +kernel
theorem dX1_hash_1 : decode cX1_hash 1 = .ok (.i2l, 1) := by decide +kernel
theorem dX1_hash_2 : decode cX1_hash 2 = .ok (.lstore_n 2, 1) := by decide +kernel
theorem dX1_hash_3 : decode cX1_hash 3 = .ok (.iconst 0, 1) := by decide +kernel
theorem dX1_hash_4 : decode cX1_hash 4 = .ok (.istore 4, 2) := by decide +kernel
theorem dX1_hash_6 : decode cX1_hash 6 = .ok (.iload 4, 2) := by decide +kernel
theorem dX1_hash_8 : decode cX1_hash 8 = .ok (.iload_n 1, 1) := by decide +kernel
theorem dX1_hash_9 : decode cX1_hash 9 = .ok (.if_icmp .ge 33, 3) := by decide +kernel
theorem dX1_hash_12 : decode cX1_hash 12 = .ok (.lload_n 2, 1) := by decide +kernel
theorem dX1_hash_13 : decode cX1_hash 13 = .ok (.aload_n 0, 1) := by decide +kernel
theorem dX1_hash_14 : decode cX1_hash 14 = .ok (.getfield 39, 3) := by decide +kernel
theorem dX1_hash_17 : decode cX1_hash 17 = .ok (.iload 4, 2) := by decide +kernel
theorem dX1_hash_19 : decode cX1_hash 19 = .ok (.laload, 1) := by decide +kernel
theorem dX1_hash_20 : decode cX1_hash 20 = .ok (.lxor, 1) := by decide +kernel
theorem dX1_hash_21 : decode cX1_hash 21 = .ok (.ldc2_w 53, 3) := by decide +kernel
theorem dX1_hash_24 : decode cX1_hash 24 = .ok (.lmul, 1) := by decide +kernel
theorem dX1_hash_25 : decode cX1_hash 25 = .ok (.lstore 5, 2) := by decide +kernel
theorem dX1_hash_27 : decode cX1_hash 27 = .ok (.lload 5, 2) := by decide +kernel
theorem dX1_hash_29 : decode cX1_hash 29 = .ok (.lload 5, 2) := by decide +kernel
theorem dX1_hash_31 : decode cX1_hash 31 = .ok (.bipush 29, 2) := by decide +kernel
theorem dX1_hash_33 : decode cX1_hash 33 = .ok (.lushr, 1) := by decide +kernel
theorem dX1_hash_34 : decode cX1_hash 34 = .ok (.lxor, 1) := by decide +kernel
theorem dX1_hash_35 : decode cX1_hash 35 = .ok (.lstore_n 2, 1) := by decide +kernel
theorem dX1_hash_36 : decode cX1_hash 36 = .ok (.iinc 4 1, 3) := by decide +kernel
theorem dX1_hash_39 : decode cX1_hash 39 = .ok (.goto (-33), 3) := by decide +kernel
theorem dX1_hash_42 : decode cX1_hash 42 = .ok (.lload_n 2, 1) := by decide +kernel
theorem dX1_hash_43 : decode cX1_hash 43 = .ok (.lreturn, 1) := by decide +kernel
set_option maxRecDepth 20000 in
theorem ggX1_code_X1_hash : GoodIn wsX1_code wsX1_hash := goodIn_r _ [8, 1, 9, 10, 11, 12, 13, 14, 15, 16, 17, 18, 19, 20, 21, 22, 23, 24, 25, 26, 27, 28] (by decide +kernel) (by decide +kernel)
set_option maxRecDepth 20000 in
theorem gX1_code_X1_hash : GoodIn wsX1_code (wsV RX1 45 RX1 yX1_hash wsX1_hash) := goodIn_app (goodIn_of _ (by decide +kernel)) ggX1_code_X1_hash
theorem dX1_code_0 : decode cX1_code 0 = .ok (.aload_n 0, 1) := by decide +kernel
theorem dX1_code_1 : decode cX1_code 1 = .ok (.getfield 39, 3) := by decide +kernel
theorem dX1_code_4 : decode cX1_code 4 = .ok (.iconst 0, 1) := by decide +kernel
theorem dX1_code_5 : decode cX1_code 5 = .ok (.lload_n 1, 1) := by decide +kernel
theorem dX1_code_6 : decode cX1_code 6 = .ok (.ldc2_w 55, 3) := by decide +kernel
theorem dX1_code_9 : decode cX1_code 9 = .ok (.lxor, 1) := by decide +kernel
theorem dX1_code_10 : decode cX1_code 10 = .ok (.lastore, 1) := by decide +kernel
theorem dX1_code_11 : decode cX1_code 11 = .ok (.aload_n 0, 1) := by decide +kernel
theorem dX1_code_12 : decode cX1_code 12 = .ok (.iload_n 3, 1) := by decide +kernel
theorem dX1_code_13 : decode cX1_code 13 = .ok (.iconst 1, 1) := by decide +kernel
theorem dX1_code_14 : decode cX1_code 14 = .ok (.iadd, 1) := by decide +kernel
theorem dX1_code_15 : decode cX1_code 15 = .ok (.invokevirtual 45, 3) := by decide +kernel
theorem dX1_code_18 : decode cX1_code 18 = .ok (.lstore 4, 2) := by decide +kernel
theorem dX1_code_20 : decode cX1_code 20 = .ok (.aload_n 0, 1) := by decide +kernel
theorem dX1_code_21 : decode cX1_code 21 = .ok (.getfield 39, 3) := by decide +kernel
theorem dX1_code_24 : decode cX1_code 24 = .ok (.iconst 0, 1) := by decide +kernel
theorem dX1_code_25 : decode cX1_code 25 = .ok (.lload_n 1, 1) := by decide +kernel
theorem dX1_code_26 : decode cX1_code 26 = .ok (.ldc2_w 57, 3) := by decide +kernel
theorem dX1_code_29 : decode cX1_code 29 = .ok (.lxor, 1) := by decide +kernel
theorem dX1_code_30 : decode cX1_code 30 = .ok (.lastore, 1) := by decide +kernel
theorem dX1_code_31 : decode cX1_code 31 = .ok (.aload_n 0, 1) := by decide +kernel
theorem dX1_code_32 : decode cX1_code 32 = .ok (.getfield 39, 3) := by decide +kernel
theorem dX1_code_35 : decode cX1_code 35 = .ok (.iconst 1, 1) := by decide +kernel
theorem dX1_code_36 : decode cX1_code 36 = .ok (.lload 4, 2) := by decide +kernel
theorem dX1_code_38 : decode cX1_code 38 = .ok (.lastore, 1) := by decide +kernel
theorem dX1_code_39 : decode cX1_code 39 = .ok (.aload_n 0, 1) := by decide +kernel
theorem dX1_code_40 : decode cX1_code 40 = .ok (.iconst 2, 1) := by decide +kernel
theorem dX1_code_41 : decode cX1_code 41 = .ok (.invokevirtual 45, 3) := by decide +kernel
theorem dX1_code_44 : decode cX1_code 44 = .ok (.lreturn, 1) := by decide +kernel
set_option maxRecDepth 20000 in
theorem ggX1_two_X1_hash : GoodIn wsX1_two wsX1_hash := goodIn_r _ [6, 1, 7, 8, 9, 10, 11, 12, 13, 14, 15, 16, 17, 18, 19, 20, 21, 22, 23, 24, 25, 26] (by decide +kernel) (by decide +kernel)
set_option maxRecDepth 20000 in
theorem gX1_two_X1_hash : GoodIn wsX1_two (wsV RX1 45 RX1 yX1_hash wsX1_hash) := goodIn_app (goodIn_of _ (by decide +kernel)) ggX1_two_X1_hash
theorem dX1_two_0 : decode cX1_two 0 = .ok (.aload_n 0, 1) := by decide +kernel
theorem dX1_two_1 : decode cX1_two 1 = .ok (.getfield 39, 3) := by decide +kernel
theorem dX1_two_4 : decode cX1_two 4 = .ok (.iconst 0, 1) := by decide +kernel
theorem dX1_two_5 : decode cX1_two 5 = .ok (.lload_n 1, 1) := by decide +kernel
theorem dX1_two_6 : decode cX1_two 6 = .ok (.lastore, 1) := by decide +kernel
theorem dX1_two_7 : decode cX1_two 7 = .ok (.aload_n 0, 1) := by decide +kernel
theorem dX1_two_8 : decode cX1_two 8 = .ok (.getfield 39, 3) := by decide +kernel
theorem dX1_two_11 : decode cX1_two 11 = .ok (.iconst 1, 1) := by decide +kernel
theorem dX1_two_12 : decode cX1_two 12 = .ok (.lload_n 3, 1) := by decide +kernel
theorem dX1_two_13 : decode cX1_two 13 = .ok (.lastore, 1) := by decide +kernel
theorem dX1_two_14 : decode cX1_two 14 = .ok (.aload_n 0, 1) := by decide +kernel
theorem dX1_two_15 : decode cX1_two 15 = .ok (.iconst 2, 1) := by decide +kernel
theorem dX1_two_16 : decode cX1_two 16 = .ok (.invokevirtual 45, 3) := by decide +kernel
theorem dX1_two_19 : decode cX1_two 19 = .ok (.lreturn, 1) := by decide +kernel
set_option maxRecDepth 20000 in
theorem ggX1_word_X1_two : GoodIn wsX1_word wsX1_two := goodIn_r _ [6, 7, 8, 9, 10, 5, 11, 12, 13, 14, 15, 16, 17, 18, 19, 20, 21, 22, 23, 24, 25, 26, 27, 28, 29, 30, 31] (by decide +kernel) (by decide +kernel)
set_option maxRecDepth 20000 in
theorem gX1_word_X1_two : GoodIn wsX1_word (wsV RX1 59 RX1 yX1_two wsX1_two) := goodIn_app (goodIn_of _ (by decide +kernel)) ggX1_word_X1_two
theorem dX1_word_0 : decode cX1_word 0 = .ok (.aload_n 0, 1) := by decide +kernel
theorem dX1_word_1 : decode cX1_word 1 = .ok (.aload_n 0, 1) := by decide +kernel
theorem dX1_word_2 : decode cX1_word 2 = .ok (.getfield 49, 3) := by decide +kernel
theorem dX1_word_5 : decode cX1_word 5 = .ok (.lload_n 1, 1) := by decide +kernel
theorem dX1_word_6 : decode cX1_word 6 = .ok (.invokevirtual 59, 3) := by decide +kernel
theorem dX1_word_9 : decode cX1_word 9 = .ok (.lreturn, 1) := by decide +kernel
set_option maxRecDepth 20000 in
theorem ggX1_folded_X1_two : GoodIn wsX1_folded wsX1_two := goodIn_r _ [8, 9, 10, 11, 12, 7, 13, 14, 15, 16, 17, 18, 19, 20, 21, 22, 23, 24, 25, 26, 27, 28, 29, 30, 31, 32, 33] (by decide +kernel) (by decide +kernel)
set_option maxRecDepth 20000 in
theorem gX1_folded_X1_two : GoodIn wsX1_folded (wsV RX1 59 RX1 yX1_two wsX1_two) := goodIn_app (goodIn_of _ (by decide +kernel)) ggX1_folded_X1_two
theorem dX1_folded_0 : decode cX1_folded 0 = .ok (.lconst 0, 1) := by decide +kernel
theorem dX1_folded_1 : decode cX1_folded 1 = .ok (.lstore_n 2, 1) := by decide +kernel
theorem dX1_folded_2 : decode cX1_folded 2 = .ok (.iconst 0, 1) := by decide +kernel
theorem dX1_folded_3 : decode cX1_folded 3 = .ok (.istore 4, 2) := by decide +kernel
theorem dX1_folded_5 : decode cX1_folded 5 = .ok (.iload 4, 2) := by decide +kernel
theorem dX1_folded_7 : decode cX1_folded 7 = .ok (.aload_n 0, 1) := by decide +kernel
theorem dX1_folded_8 : decode cX1_folded 8 = .ok (.getfield 63, 3) := by decide +kernel
theorem dX1_folded_11 : decode cX1_folded 11 = .ok (.if_icmp .ge 49, 3) := by decide +kernel
theorem dX1_folded_14 : decode cX1_folded 14 = .ok (.aload_n 0, 1) := by decide +kernel
theorem dX1_folded_15 : decode cX1_folded 15 = .ok (.getfield 7, 3) := by decide +kernel
theorem dX1_folded_18 : decode cX1_folded 18 = .ok (.iload 4, 2) := by decide +kernel
theorem dX1_folded_20 : decode cX1_folded 20 = .ok (.iaload, 1) := by decide +kernel
theorem dX1_folded_21 : decode cX1_folded 21 = .ok (.iload_n 1, 1) := by decide +kernel
theorem dX1_folded_22 : decode cX1_folded 22 = .ok (.if_icmp .ne 16, 3) := by decide +kernel
theorem dX1_folded_25 : decode cX1_folded 25 = .ok (.aload_n 0, 1) := by decide +kernel
theorem dX1_folded_26 : decode cX1_folded 26 = .ok (.lload_n 2, 1) := by decide +kernel
theorem dX1_folded_27 : decode cX1_folded 27 = .ok (.aload_n 0, 1) := by decide +kernel
theorem dX1_folded_28 : decode cX1_folded 28 = .ok (.getfield 13, 3) := by decide +kernel
theorem dX1_folded_31 : decode cX1_folded 31 = .ok (.iload 4, 2) := by decide +kernel
theorem dX1_folded_33 : decode cX1_folded 33 = .ok (.laload, 1) := by decide +kernel
theorem dX1_folded_34 : decode cX1_folded 34 = .ok (.invokevirtual 59, 3) := by decide +kernel
theorem dX1_folded_37 : decode cX1_folded 37 = .ok (.lstore_n 2, 1) := by decide +kernel
theorem dX1_folded_38 : decode cX1_folded 38 = .ok (.aload_n 0, 1) := by decide +kernel
theorem dX1_folded_39 : decode cX1_folded 39 = .ok (.getfield 7, 3) := by decide +kernel
theorem dX1_folded_42 : decode cX1_folded 42 = .ok (.iload 4, 2) := by decide +kernel
theorem dX1_folded_44 : decode cX1_folded 44 = .ok (.iaload, 1) := by decide +kernel
theorem dX1_folded_45 : decode cX1_folded 45 = .ok (.iload_n 1, 1) := by decide +kernel
theorem dX1_folded_46 : decode cX1_folded 46 = .ok (.bipush 8, 2) := by decide +kernel
theorem dX1_folded_48 : decode cX1_folded 48 = .ok (.iadd, 1) := by decide +kernel
theorem dX1_folded_49 : decode cX1_folded 49 = .ok (.if_icmp .ne 5, 3) := by decide +kernel
theorem dX1_folded_52 : decode cX1_folded 52 = .ok (.lconst 0, 1) := by decide +kernel
theorem dX1_folded_53 : decode cX1_folded 53 = .ok (.lstore_n 2, 1) := by decide +kernel
theorem dX1_folded_54 : decode cX1_folded 54 = .ok (.iinc 4 1, 3) := by decide +kernel
theorem dX1_folded_57 : decode cX1_folded 57 = .ok (.goto (-52), 3) := by decide +kernel
theorem dX1_folded_60 : decode cX1_folded 60 = .ok (.lload_n 2, 1) := by decide +kernel
theorem dX1_folded_61 : decode cX1_folded 61 = .ok (.lreturn, 1) := by decide +kernel
set_option maxRecDepth 20000 in
theorem ggX1_digestOf_X1_folded : GoodIn wsX1_digestOf wsX1_folded := goodIn_r _ [7, 8, 9, 10, 11, 12, 13, 6, 14, 2, 15, 16, 17, 18, 19, 20, 21, 22, 23, 24, 25, 26, 27, 28, 29, 30, 31, 32, 33, 34, 35, 36, 37, 38] (by decide +kernel) (by decide +kernel)
set_option maxRecDepth 20000 in
theorem gX1_digestOf_X1_folded : GoodIn wsX1_digestOf (wsV RX1 67 RX1 yX1_folded wsX1_folded) := goodIn_app (goodIn_of _ (by decide +kernel)) ggX1_digestOf_X1_folded
set_option maxRecDepth 20000 in
theorem ggX1_digestOf_X1_hash : GoodIn wsX1_digestOf wsX1_hash := goodIn_r _ [18, 2, 19, 20, 21, 22, 23, 24, 25, 26, 27, 28, 29, 30, 31, 32, 33, 34, 35, 36, 37, 38] (by decide +kernel) (by decide +kernel)
set_option maxRecDepth 20000 in
theorem gX1_digestOf_X1_hash : GoodIn wsX1_digestOf (wsV RX1 45 RX1 yX1_hash wsX1_hash) := goodIn_app (goodIn_of _ (by decide +kernel)) ggX1_digestOf_X1_hash
theorem dX1_digestOf_0 : decode cX1_digestOf 0 = .ok (.iconst 0, 1) := by decide +kernel
theorem dX1_digestOf_1 : decode cX1_digestOf 1 = .ok (.istore_n 2, 1) := by decide +kernel
theorem dX1_digestOf_2 : decode cX1_digestOf 2 = .ok (.iload_n 2, 1) := by decide +kernel
theorem dX1_digestOf_3 : decode cX1_digestOf 3 = .ok (.bipush 8, 2) := by decide +kernel
theorem dX1_digestOf_5 : decode cX1_digestOf 5 = .ok (.if_icmp .ge 20, 3) := by decide +kernel
theorem dX1_digestOf_8 : decode cX1_digestOf 8 = .ok (.aload_n 0, 1) := by decide +kernel
theorem dX1_digestOf_9 : decode cX1_digestOf 9 = .ok (.getfield 42, 3) := by decide +kernel
theorem dX1_digestOf_12 : decode cX1_digestOf 12 = .ok (.iload_n 2, 1) := by decide +kernel
theorem dX1_digestOf_13 : decode cX1_digestOf 13 = .ok (.aload_n 0, 1) := by decide +kernel
theorem dX1_digestOf_14 : decode cX1_digestOf 14 = .ok (.iload_n 2, 1) := by decide +kernel
theorem dX1_digestOf_15 : decode cX1_digestOf 15 = .ok (.invokevirtual 67, 3) := by decide +kernel
theorem dX1_digestOf_18 : decode cX1_digestOf 18 = .ok (.lastore, 1) := by decide +kernel
theorem dX1_digestOf_19 : decode cX1_digestOf 19 = .ok (.iinc 2 1, 3) := by decide +kernel
theorem dX1_digestOf_22 : decode cX1_digestOf 22 = .ok (.goto (-20), 3) := by decide +kernel
theorem dX1_digestOf_25 : decode cX1_digestOf 25 = .ok (.aload_n 0, 1) := by decide +kernel
theorem dX1_digestOf_26 : decode cX1_digestOf 26 = .ok (.getfield 39, 3) := by decide +kernel
theorem dX1_digestOf_29 : decode cX1_digestOf 29 = .ok (.iconst 0, 1) := by decide +kernel
theorem dX1_digestOf_30 : decode cX1_digestOf 30 = .ok (.iload_n 1, 1) := by decide +kernel
theorem dX1_digestOf_31 : decode cX1_digestOf 31 = .ok (.i2l, 1) := by decide +kernel
theorem dX1_digestOf_32 : decode cX1_digestOf 32 = .ok (.lastore, 1) := by decide +kernel
theorem dX1_digestOf_33 : decode cX1_digestOf 33 = .ok (.iconst 1, 1) := by decide +kernel
theorem dX1_digestOf_34 : decode cX1_digestOf 34 = .ok (.istore_n 2, 1) := by decide +kernel
theorem dX1_digestOf_35 : decode cX1_digestOf 35 = .ok (.iconst 0, 1) := by decide +kernel
theorem dX1_digestOf_36 : decode cX1_digestOf 36 = .ok (.istore_n 3, 1) := by decide +kernel
theorem dX1_digestOf_37 : decode cX1_digestOf 37 = .ok (.iload_n 3, 1) := by decide +kernel
theorem dX1_digestOf_38 : decode cX1_digestOf 38 = .ok (.bipush 8, 2) := by decide +kernel
theorem dX1_digestOf_40 : decode cX1_digestOf 40 = .ok (.if_icmp .ge 33, 3) := by decide +kernel
theorem dX1_digestOf_43 : decode cX1_digestOf 43 = .ok (.iload_n 1, 1) := by decide +kernel
theorem dX1_digestOf_44 : decode cX1_digestOf 44 = .ok (.iload_n 3, 1) := by decide +kernel
theorem dX1_digestOf_45 : decode cX1_digestOf 45 = .ok (.ishr, 1) := by decide +kernel
theorem dX1_digestOf_46 : decode cX1_digestOf 46 = .ok (.iconst 1, 1) := by decide +kernel
theorem dX1_digestOf_47 : decode cX1_digestOf 47 = .ok (.iand, 1) := by decide +kernel
theorem dX1_digestOf_48 : decode cX1_digestOf 48 = .ok (.iconst 1, 1) := by decide +kernel
theorem dX1_digestOf_49 : decode cX1_digestOf 49 = .ok (.if_icmp .ne 18, 3) := by decide +kernel
theorem dX1_digestOf_52 : decode cX1_digestOf 52 = .ok (.aload_n 0, 1) := by decide +kernel
theorem dX1_digestOf_53 : decode cX1_digestOf 53 = .ok (.getfield 39, 3) := by decide +kernel
theorem dX1_digestOf_56 : decode cX1_digestOf 56 = .ok (.iload_n 2, 1) := by decide +kernel
theorem dX1_digestOf_57 : decode cX1_digestOf 57 = .ok (.aload_n 0, 1) := by decide +kernel
theorem dX1_digestOf_58 : decode cX1_digestOf 58 = .ok (.getfield 42, 3) := by decide +kernel
theorem dX1_digestOf_61 : decode cX1_digestOf 61 = .ok (.iload_n 3, 1) := by decide +kernel
theorem dX1_digestOf_62 : decode cX1_digestOf 62 = .ok (.laload, 1) := by decide +kernel
theorem dX1_digestOf_63 : decode cX1_digestOf 63 = .ok (.lastore, 1) := by decide +kernel
theorem dX1_digestOf_64 : decode cX1_digestOf 64 = .ok (.iinc 2 1, 3) := by decide +kernel
theorem dX1_digestOf_67 : decode cX1_digestOf 67 = .ok (.iinc 3 1, 3) := by decide +kernel
theorem dX1_digestOf_70 : decode cX1_digestOf 70 = .ok (.goto (-33), 3) := by decide +kernel
theorem dX1_digestOf_73 : decode cX1_digestOf 73 = .ok (.aload_n 0, 1) := by decide +kernel
theorem dX1_digestOf_74 : decode cX1_digestOf 74 = .ok (.iload_n 2, 1) := by decide +kernel
theorem dX1_digestOf_75 : decode cX1_digestOf 75 = .ok (.invokevirtual 45, 3) := by decide +kernel
theorem dX1_digestOf_78 : decode cX1_digestOf 78 = .ok (.lreturn, 1) := by decide +kernel
set_option maxRecDepth 20000 in
theorem ggX1_veil_X1_hash : GoodIn wsX1_veil wsX1_hash := goodIn_r _ [7, 1, 8, 9, 10, 11, 12, 13, 14, 15, 16, 17, 18, 19, 20, 21, 22, 23, 24, 25, 26, 27] (by decide +kernel) (by decide +kernel)
set_option maxRecDepth 20000 in
theorem gX1_veil_X1_hash : GoodIn wsX1_veil (wsV RX1 45 RX1 yX1_hash wsX1_hash) := goodIn_app (goodIn_of _ (by decide +kernel)) ggX1_veil_X1_hash
theorem dX1_veil_0 : decode cX1_veil 0 = .ok (.aload_n 0, 1) := by decide +kernel
theorem dX1_veil_1 : decode cX1_veil 1 = .ok (.getfield 39, 3) := by decide +kernel
theorem dX1_veil_4 : decode cX1_veil 4 = .ok (.iconst 0, 1) := by decide +kernel
theorem dX1_veil_5 : decode cX1_veil 5 = .ok (.aload_n 0, 1) := by decide +kernel
theorem dX1_veil_6 : decode cX1_veil 6 = .ok (.getfield 49, 3) := by decide +kernel
theorem dX1_veil_9 : decode cX1_veil 9 = .ok (.lastore, 1) := by decide +kernel
theorem dX1_veil_10 : decode cX1_veil 10 = .ok (.aload_n 0, 1) := by decide +kernel
theorem dX1_veil_11 : decode cX1_veil 11 = .ok (.getfield 39, 3) := by decide +kernel
theorem dX1_veil_14 : decode cX1_veil 14 = .ok (.iconst 1, 1) := by decide +kernel
theorem dX1_veil_15 : decode cX1_veil 15 = .ok (.lload_n 1, 1) := by decide +kernel
theorem dX1_veil_16 : decode cX1_veil 16 = .ok (.lastore, 1) := by decide +kernel
theorem dX1_veil_17 : decode cX1_veil 17 = .ok (.aload_n 0, 1) := by decide +kernel
theorem dX1_veil_18 : decode cX1_veil 18 = .ok (.getfield 39, 3) := by decide +kernel
theorem dX1_veil_21 : decode cX1_veil 21 = .ok (.iconst 2, 1) := by decide +kernel
theorem dX1_veil_22 : decode cX1_veil 22 = .ok (.lload_n 3, 1) := by decide +kernel
theorem dX1_veil_23 : decode cX1_veil 23 = .ok (.lastore, 1) := by decide +kernel
theorem dX1_veil_24 : decode cX1_veil 24 = .ok (.aload_n 0, 1) := by decide +kernel
theorem dX1_veil_25 : decode cX1_veil 25 = .ok (.iconst 3, 1) := by decide +kernel
theorem dX1_veil_26 : decode cX1_veil 26 = .ok (.invokevirtual 45, 3) := by decide +kernel
theorem dX1_veil_29 : decode cX1_veil 29 = .ok (.lreturn, 1) := by decide +kernel
set_option maxRecDepth 20000 in
theorem ggX1_sealOf_X1_code : GoodIn wsX1_sealOf wsX1_code := goodIn_r _ [8, 1, 9, 10, 11, 12, 13, 7, 14, 15, 16, 17, 18, 19, 20, 21, 22, 23, 24, 25, 26, 27, 28, 29, 30, 31, 32, 33, 34] (by decide +kernel) (by decide +kernel)
set_option maxRecDepth 20000 in
theorem gX1_sealOf_X1_code : GoodIn wsX1_sealOf (wsV RX1 70 RX1 yX1_code wsX1_code) := goodIn_app (goodIn_of _ (by decide +kernel)) ggX1_sealOf_X1_code
theorem dX1_sealOf_0 : decode cX1_sealOf 0 = .ok (.iconst 0, 1) := by decide +kernel
theorem dX1_sealOf_1 : decode cX1_sealOf 1 = .ok (.istore_n 2, 1) := by decide +kernel
theorem dX1_sealOf_2 : decode cX1_sealOf 2 = .ok (.iload_n 2, 1) := by decide +kernel
theorem dX1_sealOf_3 : decode cX1_sealOf 3 = .ok (.iconst 5, 1) := by decide +kernel
theorem dX1_sealOf_4 : decode cX1_sealOf 4 = .ok (.if_icmp .ge 28, 3) := by decide +kernel
theorem dX1_sealOf_7 : decode cX1_sealOf 7 = .ok (.aload_n 0, 1) := by decide +kernel
theorem dX1_sealOf_8 : decode cX1_sealOf 8 = .ok (.getfield 39, 3) := by decide +kernel
theorem dX1_sealOf_11 : decode cX1_sealOf 11 = .ok (.iconst 1, 1) := by decide +kernel
theorem dX1_sealOf_12 : decode cX1_sealOf 12 = .ok (.iload_n 2, 1) := by decide +kernel
theorem dX1_sealOf_13 : decode cX1_sealOf 13 = .ok (.iadd, 1) := by decide +kernel
theorem dX1_sealOf_14 : decode cX1_sealOf 14 = .ok (.aload_n 0, 1) := by decide +kernel
theorem dX1_sealOf_15 : decode cX1_sealOf 15 = .ok (.getfield 36, 3) := by decide +kernel
theorem dX1_sealOf_18 : decode cX1_sealOf 18 = .ok (.bipush 6, 2) := by decide +kernel
theorem dX1_sealOf_20 : decode cX1_sealOf 20 = .ok (.iload_n 1, 1) := by decide +kernel
theorem dX1_sealOf_21 : decode cX1_sealOf 21 = .ok (.imul, 1) := by decide +kernel
theorem dX1_sealOf_22 : decode cX1_sealOf 22 = .ok (.iload_n 2, 1) := by decide +kernel
theorem dX1_sealOf_23 : decode cX1_sealOf 23 = .ok (.iadd, 1) := by decide +kernel
theorem dX1_sealOf_24 : decode cX1_sealOf 24 = .ok (.laload, 1) := by decide +kernel
theorem dX1_sealOf_25 : decode cX1_sealOf 25 = .ok (.lastore, 1) := by decide +kernel
theorem dX1_sealOf_26 : decode cX1_sealOf 26 = .ok (.iinc 2 1, 3) := by decide +kernel
theorem dX1_sealOf_29 : decode cX1_sealOf 29 = .ok (.goto (-27), 3) := by decide +kernel
theorem dX1_sealOf_32 : decode cX1_sealOf 32 = .ok (.aload_n 0, 1) := by decide +kernel
theorem dX1_sealOf_33 : decode cX1_sealOf 33 = .ok (.aload_n 0, 1) := by decide +kernel
theorem dX1_sealOf_34 : decode cX1_sealOf 34 = .ok (.getfield 49, 3) := by decide +kernel
theorem dX1_sealOf_37 : decode cX1_sealOf 37 = .ok (.iconst 5, 1) := by decide +kernel
theorem dX1_sealOf_38 : decode cX1_sealOf 38 = .ok (.invokevirtual 70, 3) := by decide +kernel
theorem dX1_sealOf_41 : decode cX1_sealOf 41 = .ok (.lreturn, 1) := by decide +kernel
theorem dX1_locality_0 : decode cX1_locality 0 = .ok (.iload_n 1, 1) := by decide +kernel
theorem dX1_locality_1 : decode cX1_locality 1 = .ok (.ifCond .lt 8, 3) := by decide +kernel
theorem dX1_locality_4 : decode cX1_locality 4 = .ok (.iload_n 1, 1) := by decide +kernel
theorem dX1_locality_5 : decode cX1_locality 5 = .ok (.iconst 3, 1) := by decide +kernel
theorem dX1_locality_6 : decode cX1_locality 6 = .ok (.if_icmp .le 5, 3) := by decide +kernel
theorem dX1_locality_9 : decode cX1_locality 9 = .ok (.iconst 0, 1) := by decide +kernel
theorem dX1_locality_10 : decode cX1_locality 10 = .ok (.ireturn, 1) := by decide +kernel
theorem dX1_locality_11 : decode cX1_locality 11 = .ok (.aload_n 0, 1) := by decide +kernel
theorem dX1_locality_12 : decode cX1_locality 12 = .ok (.iload_n 1, 1) := by decide +kernel
theorem dX1_locality_13 : decode cX1_locality 13 = .ok (.putfield 74, 3) := by decide +kernel
theorem dX1_locality_16 : decode cX1_locality 16 = .ok (.iconst 1, 1) := by decide +kernel
theorem dX1_locality_17 : decode cX1_locality 17 = .ok (.ireturn, 1) := by decide +kernel
theorem dX1_note_0 : decode cX1_note 0 = .ok (.iload_n 1, 1) := by decide +kernel
theorem dX1_note_1 : decode cX1_note 1 = .ok (.ifCond .lt 19, 3) := by decide +kernel
theorem dX1_note_4 : decode cX1_note 4 = .ok (.iload_n 1, 1) := by decide +kernel
theorem dX1_note_5 : decode cX1_note 5 = .ok (.bipush 7, 2) := by decide +kernel
theorem dX1_note_7 : decode cX1_note 7 = .ok (.if_icmp .gt 13, 3) := by decide +kernel
theorem dX1_note_10 : decode cX1_note 10 = .ok (.iload_n 1, 1) := by decide +kernel
theorem dX1_note_11 : decode cX1_note 11 = .ok (.iconst 2, 1) := by decide +kernel
theorem dX1_note_12 : decode cX1_note 12 = .ok (.idiv, 1) := by decide +kernel
theorem dX1_note_13 : decode cX1_note 13 = .ok (.aload_n 0, 1) := by decide +kernel
theorem dX1_note_14 : decode cX1_note 14 = .ok (.getfield 74, 3) := by decide +kernel
theorem dX1_note_17 : decode cX1_note 17 = .ok (.if_icmp .le 5, 3) := by decide +kernel
theorem dX1_note_20 : decode cX1_note 20 = .ok (.iconst 0, 1) := by decide +kernel
theorem dX1_note_21 : decode cX1_note 21 = .ok (.ireturn, 1) := by decide +kernel
theorem dX1_note_22 : decode cX1_note 22 = .ok (.aload_n 0, 1) := by decide +kernel
theorem dX1_note_23 : decode cX1_note 23 = .ok (.getfield 7, 3) := by decide +kernel
theorem dX1_note_26 : decode cX1_note 26 = .ok (.aload_n 0, 1) := by decide +kernel
theorem dX1_note_27 : decode cX1_note 27 = .ok (.getfield 63, 3) := by decide +kernel
theorem dX1_note_30 : decode cX1_note 30 = .ok (.iload_n 2, 1) := by decide +kernel
theorem dX1_note_31 : decode cX1_note 31 = .ok (.iastore, 1) := by decide +kernel
theorem dX1_note_32 : decode cX1_note 32 = .ok (.aload_n 0, 1) := by decide +kernel
theorem dX1_note_33 : decode cX1_note 33 = .ok (.getfield 13, 3) := by decide +kernel
theorem dX1_note_36 : decode cX1_note 36 = .ok (.aload_n 0, 1) := by decide +kernel
theorem dX1_note_37 : decode cX1_note 37 = .ok (.getfield 63, 3) := by decide +kernel
theorem dX1_note_40 : decode cX1_note 40 = .ok (.lload_n 3, 1) := by decide +kernel
theorem dX1_note_41 : decode cX1_note 41 = .ok (.lastore, 1) := by decide +kernel
theorem dX1_note_42 : decode cX1_note 42 = .ok (.aload_n 0, 1) := by decide +kernel
theorem dX1_note_43 : decode cX1_note 43 = .ok (.dup, 1) := by decide +kernel
theorem dX1_note_44 : decode cX1_note 44 = .ok (.getfield 63, 3) := by decide +kernel
theorem dX1_note_47 : decode cX1_note 47 = .ok (.iconst 1, 1) := by decide +kernel
theorem dX1_note_48 : decode cX1_note 48 = .ok (.iadd, 1) := by decide +kernel
theorem dX1_note_49 : decode cX1_note 49 = .ok (.putfield 63, 3) := by decide +kernel
theorem dX1_note_52 : decode cX1_note 52 = .ok (.iconst 1, 1) := by decide +kernel
theorem dX1_note_53 : decode cX1_note 53 = .ok (.ireturn, 1) := by decide +kernel
set_option maxRecDepth 20000 in
theorem ggX1_extend_X1_note : GoodIn wsX1_extend wsX1_note := goodIn_r _ [5, 6, 7, 8, 9, 10, 11, 12, 13, 14, 15, 16, 17, 18, 19, 20, 21, 22, 23, 24, 25, 26, 27, 28] (by decide +kernel) (by decide +kernel)
set_option maxRecDepth 20000 in
theorem gX1_extend_X1_note : GoodIn wsX1_extend (wsV RX1 77 RX1 yX1_note wsX1_note) := goodIn_app (goodIn_of _ (by decide +kernel)) ggX1_extend_X1_note
theorem dX1_extend_0 : decode cX1_extend 0 = .ok (.aload_n 0, 1) := by decide +kernel
theorem dX1_extend_1 : decode cX1_extend 1 = .ok (.iload_n 1, 1) := by decide +kernel
theorem dX1_extend_2 : decode cX1_extend 2 = .ok (.iload_n 1, 1) := by decide +kernel
theorem dX1_extend_3 : decode cX1_extend 3 = .ok (.lload_n 2, 1) := by decide +kernel
theorem dX1_extend_4 : decode cX1_extend 4 = .ok (.invokevirtual 77, 3) := by decide +kernel
theorem dX1_extend_7 : decode cX1_extend 7 = .ok (.ireturn, 1) := by decide +kernel
set_option maxRecDepth 20000 in
theorem ggX1_reset_X1_note : GoodIn wsX1_reset wsX1_note := goodIn_r _ [5, 6, 7, 8, 9, 10, 11, 12, 13, 14, 15, 16, 17, 18, 19, 20, 21, 22, 23, 24, 25, 26, 27, 28] (by decide +kernel) (by decide +kernel)
set_option maxRecDepth 20000 in
theorem gX1_reset_X1_note : GoodIn wsX1_reset (wsV RX1 77 RX1 yX1_note wsX1_note) := goodIn_app (goodIn_of _ (by decide +kernel)) ggX1_reset_X1_note
theorem dX1_reset_0 : decode cX1_reset 0 = .ok (.iload_n 1, 1) := by decide +kernel
theorem dX1_reset_1 : decode cX1_reset 1 = .ok (.iconst 4, 1) := by decide +kernel
theorem dX1_reset_2 : decode cX1_reset 2 = .ok (.if_icmp .lt 26, 3) := by decide +kernel
theorem dX1_reset_5 : decode cX1_reset 5 = .ok (.iload_n 1, 1) := by decide +kernel
theorem dX1_reset_6 : decode cX1_reset 6 = .ok (.bipush 7, 2) := by decide +kernel
theorem dX1_reset_8 : decode cX1_reset 8 = .ok (.if_icmp .gt 20, 3) := by decide +kernel
theorem dX1_reset_11 : decode cX1_reset 11 = .ok (.aload_n 0, 1) := by decide +kernel
theorem dX1_reset_12 : decode cX1_reset 12 = .ok (.iload_n 1, 1) := by decide +kernel
theorem dX1_reset_13 : decode cX1_reset 13 = .ok (.iload_n 1, 1) := by decide +kernel
theorem dX1_reset_14 : decode cX1_reset 14 = .ok (.bipush 8, 2) := by decide +kernel
theorem dX1_reset_16 : decode cX1_reset 16 = .ok (.iadd, 1) := by decide +kernel
theorem dX1_reset_17 : decode cX1_reset 17 = .ok (.lconst 0, 1) := by decide +kernel
theorem dX1_reset_18 : decode cX1_reset 18 = .ok (.invokevirtual 77, 3) := by decide +kernel
theorem dX1_reset_21 : decode cX1_reset 21 = .ok (.ifCond .eq 7, 3) := by decide +kernel
theorem dX1_reset_24 : decode cX1_reset 24 = .ok (.iconst 1, 1) := by decide +kernel
theorem dX1_reset_25 : decode cX1_reset 25 = .ok (.goto 4, 3) := by decide +kernel
theorem dX1_reset_28 : decode cX1_reset 28 = .ok (.iconst 0, 1) := by decide +kernel
theorem dX1_reset_29 : decode cX1_reset 29 = .ok (.ireturn, 1) := by decide +kernel
set_option maxRecDepth 20000 in
theorem ggX1_register_X1_folded : GoodIn wsX1_register wsX1_folded := goodIn_r _ [5, 6, 7, 8, 9, 10, 11, 4, 12, 13, 14, 15, 16, 17, 18, 19, 20, 21, 22, 23, 24, 25, 26, 27, 28, 29, 30, 31, 32, 33, 34, 35, 36, 37] (by decide +kernel) (by decide +kernel)
set_option maxRecDepth 20000 in
theorem gX1_register_X1_folded : GoodIn wsX1_register (wsV RX1 67 RX1 yX1_folded wsX1_folded) := goodIn_app (goodIn_of _ (by decide +kernel)) ggX1_register_X1_folded
theorem dX1_register_0 : decode cX1_register 0 = .ok (.iload_n 1, 1) := by decide +kernel
theorem dX1_register_1 : decode cX1_register 1 = .ok (.ifCond .lt 9, 3) := by decide +kernel
theorem dX1_register_4 : decode cX1_register 4 = .ok (.iload_n 1, 1) := by decide +kernel
theorem dX1_register_5 : decode cX1_register 5 = .ok (.bipush 7, 2) := by decide +kernel
theorem dX1_register_7 : decode cX1_register 7 = .ok (.if_icmp .le 7, 3) := by decide +kernel
theorem dX1_register_10 : decode cX1_register 10 = .ok (.lconst 0, 1) := by decide +kernel
theorem dX1_register_11 : decode cX1_register 11 = .ok (.goto 8, 3) := by decide +kernel
theorem dX1_register_14 : decode cX1_register 14 = .ok (.aload_n 0, 1) := by decide +kernel
theorem dX1_register_15 : decode cX1_register 15 = .ok (.iload_n 1, 1) := by decide +kernel
theorem dX1_register_16 : decode cX1_register 16 = .ok (.invokevirtual 67, 3) := by decide +kernel
theorem dX1_register_19 : decode cX1_register 19 = .ok (.lreturn, 1) := by decide +kernel
theorem dX1_isMask_0 : decode cX1_isMask 0 = .ok (.lload_n 0, 1) := by decide +kernel
theorem dX1_isMask_1 : decode cX1_isMask 1 = .ok (.lconst 0, 1) := by decide +kernel
theorem dX1_isMask_2 : decode cX1_isMask 2 = .ok (.lcmp, 1) := by decide +kernel
theorem dX1_isMask_3 : decode cX1_isMask 3 = .ok (.ifCond .lt 15, 3) := by decide +kernel
theorem dX1_isMask_6 : decode cX1_isMask 6 = .ok (.lload_n 0, 1) := by decide +kernel
theorem dX1_isMask_7 : decode cX1_isMask 7 = .ok (.ldc2_w 81, 3) := by decide +kernel
theorem dX1_isMask_10 : decode cX1_isMask 10 = .ok (.lcmp, 1) := by decide +kernel
theorem dX1_isMask_11 : decode cX1_isMask 11 = .ok (.ifCond .gt 7, 3) := by decide +kernel
theorem dX1_isMask_14 : decode cX1_isMask 14 = .ok (.iconst 1, 1) := by decide +kernel
theorem dX1_isMask_15 : decode cX1_isMask 15 = .ok (.goto 4, 3) := by decide +kernel
theorem dX1_isMask_18 : decode cX1_isMask 18 = .ok (.iconst 0, 1) := by decide +kernel
theorem dX1_isMask_19 : decode cX1_isMask 19 = .ok (.ireturn, 1) := by decide +kernel
set_option maxRecDepth 20000 in
theorem ggX1_digest_X1_isMask : GoodIn wsX1_digest wsX1_isMask := goodIn_r _ [4, 5] (by decide +kernel) (by decide +kernel)
set_option maxRecDepth 20000 in
theorem gX1_digest_X1_isMask : GoodIn wsX1_digest (va_wsS RX1 83 yX1_isMask wsX1_isMask) := goodIn_app (goodIn_of _ (by decide +kernel)) ggX1_digest_X1_isMask
set_option maxRecDepth 20000 in
theorem ggX1_digest_X1_digestOf : GoodIn wsX1_digest wsX1_digestOf := goodIn_r _ [9, 10, 11, 12, 13, 14, 3, 15, 16, 17, 18, 19, 20, 21, 22, 23, 24, 25, 26, 27, 28, 29, 30, 31, 32, 33, 34, 35, 36, 37, 38, 39, 40, 41, 42, 43, 44, 45, 46] (by decide +kernel) (by decide +kernel)
set_option maxRecDepth 20000 in
theorem gX1_digest_X1_digestOf : GoodIn wsX1_digest (wsV RX1 87 RX1 yX1_digestOf wsX1_digestOf) := goodIn_app (goodIn_of _ (by decide +kernel)) ggX1_digest_X1_digestOf
theorem dX1_digest_0 : decode cX1_digest 0 = .ok (.iload_n 1, 1) := by decide +kernel
theorem dX1_digest_1 : decode cX1_digest 1 = .ok (.i2l, 1) := by decide +kernel
theorem dX1_digest_2 : decode cX1_digest 2 = .ok (.invokestatic 83, 3) := by decide +kernel
theorem dX1_digest_5 : decode cX1_digest 5 = .ok (.ifCond .eq 11, 3) := by decide +kernel
theorem dX1_digest_8 : decode cX1_digest 8 = .ok (.aload_n 0, 1) := by decide +kernel
theorem dX1_digest_9 : decode cX1_digest 9 = .ok (.iload_n 1, 1) := by decide +kernel
theorem dX1_digest_10 : decode cX1_digest 10 = .ok (.invokevirtual 87, 3) := by decide +kernel
theorem dX1_digest_13 : decode cX1_digest 13 = .ok (.goto 4, 3) := by decide +kernel
theorem dX1_digest_16 : decode cX1_digest 16 = .ok (.lconst 0, 1) := by decide +kernel
theorem dX1_digest_17 : decode cX1_digest 17 = .ok (.lreturn, 1) := by decide +kernel
theorem dX1_hasKey_0 : decode cX1_hasKey 0 = .ok (.iload_n 1, 1) := by decide +kernel
theorem dX1_hasKey_1 : decode cX1_hasKey 1 = .ok (.ifCond .lt 22, 3) := by decide +kernel
theorem dX1_hasKey_4 : decode cX1_hasKey 4 = .ok (.iload_n 1, 1) := by decide +kernel
theorem dX1_hasKey_5 : decode cX1_hasKey 5 = .ok (.bipush 6, 2) := by decide +kernel
theorem dX1_hasKey_7 : decode cX1_hasKey 7 = .ok (.if_icmp .ge 16, 3) := by decide +kernel
theorem dX1_hasKey_10 : decode cX1_hasKey 10 = .ok (.aload_n 0, 1) := by decide +kernel
theorem dX1_hasKey_11 : decode cX1_hasKey 11 = .ok (.getfield 17, 3) := by decide +kernel
theorem dX1_hasKey_14 : decode cX1_hasKey 14 = .ok (.iload_n 1, 1) := by decide +kernel
theorem dX1_hasKey_15 : decode cX1_hasKey 15 = .ok (.baload, 1) := by decide +kernel
theorem dX1_hasKey_16 : decode cX1_hasKey 16 = .ok (.ifCond .eq 7, 3) := by decide +kernel
theorem dX1_hasKey_19 : decode cX1_hasKey 19 = .ok (.iconst 1, 1) := by decide +kernel
theorem dX1_hasKey_20 : decode cX1_hasKey 20 = .ok (.goto 4, 3) := by decide +kernel
theorem dX1_hasKey_23 : decode cX1_hasKey 23 = .ok (.iconst 0, 1) := by decide +kernel
theorem dX1_hasKey_24 : decode cX1_hasKey 24 = .ok (.ireturn, 1) := by decide +kernel
theorem dX1_hasSession_0 : decode cX1_hasSession 0 = .ok (.iload_n 1, 1) := by decide +kernel
theorem dX1_hasSession_1 : decode cX1_hasSession 1 = .ok (.ifCond .lt 21, 3) := by decide +kernel
theorem dX1_hasSession_4 : decode cX1_hasSession 4 = .ok (.iload_n 1, 1) := by decide +kernel
theorem dX1_hasSession_5 : decode cX1_hasSession 5 = .ok (.iconst 4, 1) := by decide +kernel
theorem dX1_hasSession_6 : decode cX1_hasSession 6 = .ok (.if_icmp .ge 16, 3) := by decide +kernel
theorem dX1_hasSession_9 : decode cX1_hasSession 9 = .ok (.aload_n 0, 1) := by decide +kernel
theorem dX1_hasSession_10 : decode cX1_hasSession 10 = .ok (.getfield 27, 3) := by decide +kernel
theorem dX1_hasSession_13 : decode cX1_hasSession 13 = .ok (.iload_n 1, 1) := by decide +kernel
theorem dX1_hasSession_14 : decode cX1_hasSession 14 = .ok (.baload, 1) := by decide +kernel
theorem dX1_hasSession_15 : decode cX1_hasSession 15 = .ok (.ifCond .eq 7, 3) := by decide +kernel
theorem dX1_hasSession_18 : decode cX1_hasSession 18 = .ok (.iconst 1, 1) := by decide +kernel
theorem dX1_hasSession_19 : decode cX1_hasSession 19 = .ok (.goto 4, 3) := by decide +kernel
theorem dX1_hasSession_22 : decode cX1_hasSession 22 = .ok (.iconst 0, 1) := by decide +kernel
theorem dX1_hasSession_23 : decode cX1_hasSession 23 = .ok (.ireturn, 1) := by decide +kernel
theorem dX1_hasBlob_0 : decode cX1_hasBlob 0 = .ok (.iload_n 1, 1) := by decide +kernel
theorem dX1_hasBlob_1 : decode cX1_hasBlob 1 = .ok (.ifCond .lt 15, 3) := by decide +kernel
theorem dX1_hasBlob_4 : decode cX1_hasBlob 4 = .ok (.iload_n 1, 1) := by decide +kernel
theorem dX1_hasBlob_5 : decode cX1_hasBlob 5 = .ok (.aload_n 0, 1) := by decide +kernel
theorem dX1_hasBlob_6 : decode cX1_hasBlob 6 = .ok (.getfield 90, 3) := by decide +kernel
theorem dX1_hasBlob_9 : decode cX1_hasBlob 9 = .ok (.if_icmp .ge 7, 3) := by decide +kernel
theorem dX1_hasBlob_12 : decode cX1_hasBlob 12 = .ok (.iconst 1, 1) := by decide +kernel
theorem dX1_hasBlob_13 : decode cX1_hasBlob 13 = .ok (.goto 4, 3) := by decide +kernel
theorem dX1_hasBlob_16 : decode cX1_hasBlob 16 = .ok (.iconst 0, 1) := by decide +kernel
theorem dX1_hasBlob_17 : decode cX1_hasBlob 17 = .ok (.ireturn, 1) := by decide +kernel
theorem dX1_create_0 : decode cX1_create 0 = .ok (.iconst 0, 1) := by decide +kernel
theorem dX1_create_1 : decode cX1_create 1 = .ok (.istore_n 3, 1) := by decide +kernel
theorem dX1_create_2 : decode cX1_create 2 = .ok (.iload_n 3, 1) := by decide +kernel
theorem dX1_create_3 : decode cX1_create 3 = .ok (.bipush 6, 2) := by decide +kernel
theorem dX1_create_5 : decode cX1_create 5 = .ok (.if_icmp .ge 18, 3) := by decide +kernel
theorem dX1_create_8 : decode cX1_create 8 = .ok (.aload_n 0, 1) := by decide +kernel
theorem dX1_create_9 : decode cX1_create 9 = .ok (.getfield 17, 3) := by decide +kernel
theorem dX1_create_12 : decode cX1_create 12 = .ok (.iload_n 3, 1) := by decide +kernel
theorem dX1_create_13 : decode cX1_create 13 = .ok (.baload, 1) := by decide +kernel
theorem dX1_create_14 : decode cX1_create 14 = .ok (.ifCond .eq 9, 3) := by decide +kernel
theorem dX1_create_17 : decode cX1_create 17 = .ok (.iinc 3 1, 3) := by decide +kernel
theorem dX1_create_20 : decode cX1_create 20 = .ok (.goto (-18), 3) := by decide +kernel
theorem dX1_create_23 : decode cX1_create 23 = .ok (.iload_n 3, 1) := by decide +kernel
theorem dX1_create_24 : decode cX1_create 24 = .ok (.bipush 6, 2) := by decide +kernel
theorem dX1_create_26 : decode cX1_create 26 = .ok (.if_icmp .ne 6, 3) := by decide +kernel
theorem dX1_create_29 : decode cX1_create 29 = .ok (.bipush (-5), 2) := by decide +kernel
theorem dX1_create_31 : decode cX1_create 31 = .ok (.ireturn, 1) := by decide +kernel
theorem dX1_create_32 : decode cX1_create 32 = .ok (.aload_n 0, 1) := by decide +kernel
theorem dX1_create_33 : decode cX1_create 33 = .ok (.dup, 1) := by decide +kernel
theorem dX1_create_34 : decode cX1_create 34 = .ok (.getfield 93, 3) := by decide +kernel
theorem dX1_create_37 : decode cX1_create 37 = .ok (.lconst 1, 1) := by decide +kernel
theorem dX1_create_38 : decode cX1_create 38 = .ok (.ladd, 1) := by decide +kernel
theorem dX1_create_39 : decode cX1_create 39 = .ok (.putfield 93, 3) := by decide +kernel
theorem dX1_create_42 : decode cX1_create 42 = .ok (.aload_n 0, 1) := by decide +kernel
theorem dX1_create_43 : decode cX1_create 43 = .ok (.getfield 17, 3) := by decide +kernel
theorem dX1_create_46 : decode cX1_create 46 = .ok (.iload_n 3, 1) := by decide +kernel
theorem dX1_create_47 : decode cX1_create 47 = .ok (.iconst 1, 1) := by decide +kernel
theorem dX1_create_48 : decode cX1_create 48 = .ok (.bastore, 1) := by decide +kernel
theorem dX1_create_49 : decode cX1_create 49 = .ok (.aload_n 0, 1) := by decide +kernel
theorem dX1_create_50 : decode cX1_create 50 = .ok (.getfield 21, 3) := by decide +kernel
theorem dX1_create_53 : decode cX1_create 53 = .ok (.iload_n 3, 1) := by decide +kernel
theorem dX1_create_54 : decode cX1_create 54 = .ok (.lload_n 1, 1) := by decide +kernel
theorem dX1_create_55 : decode cX1_create 55 = .ok (.lastore, 1) := by decide +kernel
theorem dX1_create_56 : decode cX1_create 56 = .ok (.aload_n 0, 1) := by decide +kernel
theorem dX1_create_57 : decode cX1_create 57 = .ok (.getfield 24, 3) := by decide +kernel
theorem dX1_create_60 : decode cX1_create 60 = .ok (.iload_n 3, 1) := by decide +kernel
theorem dX1_create_61 : decode cX1_create 61 = .ok (.aload_n 0, 1) := by decide +kernel
theorem dX1_create_62 : decode cX1_create 62 = .ok (.getfield 93, 3) := by decide +kernel
theorem dX1_create_65 : decode cX1_create 65 = .ok (.lastore, 1) := by decide +kernel
theorem dX1_create_66 : decode cX1_create 66 = .ok (.iload_n 3, 1) := by decide +kernel
theorem dX1_create_67 : decode cX1_create 67 = .ok (.ireturn, 1) := by decide +kernel
set_option maxRecDepth 20000 in
theorem ggX1_destroy_X1_hasKey : GoodIn wsX1_destroy wsX1_hasKey := goodIn_r _ [6, 1, 7, 8, 9, 10, 11, 12, 13, 14, 15, 16, 17, 18, 19, 20, 21, 22, 23, 24, 25] (by decide +kernel) (by decide +kernel)
set_option maxRecDepth 20000 in
theorem gX1_destroy_X1_hasKey : GoodIn wsX1_destroy (wsV RX1 96 RX1 yX1_hasKey wsX1_hasKey) := goodIn_app (goodIn_of _ (by decide +kernel)) ggX1_destroy_X1_hasKey
theorem dX1_destroy_0 : decode cX1_destroy 0 = .ok (.aload_n 0, 1) := by decide +kernel
theorem dX1_destroy_1 : decode cX1_destroy 1 = .ok (.iload_n 1, 1) := by decide +kernel
theorem dX1_destroy_2 : decode cX1_destroy 2 = .ok (.invokevirtual 96, 3) := by decide +kernel
theorem dX1_destroy_5 : decode cX1_destroy 5 = .ok (.ifCond .ne 5, 3) := by decide +kernel
theorem dX1_destroy_8 : decode cX1_destroy 8 = .ok (.iconst 0, 1) := by decide +kernel
theorem dX1_destroy_9 : decode cX1_destroy 9 = .ok (.ireturn, 1) := by decide +kernel
theorem dX1_destroy_10 : decode cX1_destroy 10 = .ok (.aload_n 0, 1) := by decide +kernel
theorem dX1_destroy_11 : decode cX1_destroy 11 = .ok (.getfield 17, 3) := by decide +kernel
theorem dX1_destroy_14 : decode cX1_destroy 14 = .ok (.iload_n 1, 1) := by decide +kernel
theorem dX1_destroy_15 : decode cX1_destroy 15 = .ok (.iconst 0, 1) := by decide +kernel
theorem dX1_destroy_16 : decode cX1_destroy 16 = .ok (.bastore, 1) := by decide +kernel
theorem dX1_destroy_17 : decode cX1_destroy 17 = .ok (.iconst 1, 1) := by decide +kernel
theorem dX1_destroy_18 : decode cX1_destroy 18 = .ok (.ireturn, 1) := by decide +kernel
set_option maxRecDepth 20000 in
theorem ggX1_nameOf_X1_word : GoodIn wsX1_nameOf wsX1_word := goodIn_r _ [7, 8, 9, 10, 11, 6, 12, 13, 14, 15, 16, 17, 18, 19, 20, 21, 22, 23, 24, 25, 26, 27, 28, 29, 30, 31, 32, 33, 34, 35, 36, 37] (by decide +kernel) (by decide +kernel)
set_option maxRecDepth 20000 in
theorem gX1_nameOf_X1_word : GoodIn wsX1_nameOf (wsV RX1 100 RX1 yX1_word wsX1_word) := goodIn_app (goodIn_of _ (by decide +kernel)) ggX1_nameOf_X1_word
set_option maxRecDepth 20000 in
theorem ggX1_nameOf_X1_two : GoodIn wsX1_nameOf wsX1_two := goodIn_r _ [12, 13, 14, 15, 16, 6, 17, 18, 19, 20, 21, 22, 23, 24, 25, 26, 27, 28, 29, 30, 31, 32, 33, 34, 35, 36, 37] (by decide +kernel) (by decide +kernel)
set_option maxRecDepth 20000 in
theorem gX1_nameOf_X1_two : GoodIn wsX1_nameOf (wsV RX1 59 RX1 yX1_two wsX1_two) := goodIn_app (goodIn_of _ (by decide +kernel)) ggX1_nameOf_X1_two
theorem dX1_nameOf_0 : decode cX1_nameOf 0 = .ok (.aload_n 0, 1) := by decide +kernel
theorem dX1_nameOf_1 : decode cX1_nameOf 1 = .ok (.aload_n 0, 1) := by decide +kernel
theorem dX1_nameOf_2 : decode cX1_nameOf 2 = .ok (.getfield 24, 3) := by decide +kernel
theorem dX1_nameOf_5 : decode cX1_nameOf 5 = .ok (.iload_n 1, 1) := by decide +kernel
theorem dX1_nameOf_6 : decode cX1_nameOf 6 = .ok (.laload, 1) := by decide +kernel
theorem dX1_nameOf_7 : decode cX1_nameOf 7 = .ok (.invokevirtual 100, 3) := by decide +kernel
theorem dX1_nameOf_10 : decode cX1_nameOf 10 = .ok (.lstore_n 2, 1) := by decide +kernel
theorem dX1_nameOf_11 : decode cX1_nameOf 11 = .ok (.aload_n 0, 1) := by decide +kernel
theorem dX1_nameOf_12 : decode cX1_nameOf 12 = .ok (.aload_n 0, 1) := by decide +kernel
theorem dX1_nameOf_13 : decode cX1_nameOf 13 = .ok (.getfield 21, 3) := by decide +kernel
theorem dX1_nameOf_16 : decode cX1_nameOf 16 = .ok (.iload_n 1, 1) := by decide +kernel
theorem dX1_nameOf_17 : decode cX1_nameOf 17 = .ok (.laload, 1) := by decide +kernel
theorem dX1_nameOf_18 : decode cX1_nameOf 18 = .ok (.lload_n 2, 1) := by decide +kernel
theorem dX1_nameOf_19 : decode cX1_nameOf 19 = .ok (.invokevirtual 59, 3) := by decide +kernel
theorem dX1_nameOf_22 : decode cX1_nameOf 22 = .ok (.lreturn, 1) := by decide +kernel
set_option maxRecDepth 20000 in
theorem ggX1_name_X1_hasKey : GoodIn wsX1_name wsX1_hasKey := goodIn_r _ [5, 6, 28, 29, 30, 31, 32, 33, 34, 35, 36, 37, 38, 39, 40, 41, 42, 43, 44, 45, 46] (by decide +kernel) (by decide +kernel)
set_option maxRecDepth 20000 in
theorem gX1_name_X1_hasKey : GoodIn wsX1_name (wsV RX1 96 RX1 yX1_hasKey wsX1_hasKey) := goodIn_app (goodIn_of _ (by decide +kernel)) ggX1_name_X1_hasKey
set_option maxRecDepth 20000 in
theorem ggX1_name_X1_nameOf : GoodIn wsX1_name wsX1_nameOf := goodIn_r _ [10, 11, 12, 13, 14, 15, 4, 16, 17, 18, 19, 20, 21, 22, 23, 24, 25, 26, 27, 28, 29, 30, 31, 32, 33, 34, 35, 36, 37, 38, 39, 40, 41, 42, 43, 44, 45, 46] (by decide +kernel) (by decide +kernel)
set_option maxRecDepth 20000 in
theorem gX1_name_X1_nameOf : GoodIn wsX1_name (wsV RX1 104 RX1 yX1_nameOf wsX1_nameOf) := goodIn_app (goodIn_of _ (by decide +kernel)) ggX1_name_X1_nameOf
theorem dX1_name_0 : decode cX1_name 0 = .ok (.aload_n 0, 1) := by decide +kernel
theorem dX1_name_1 : decode cX1_name 1 = .ok (.iload_n 1, 1) := by decide +kernel
theorem dX1_name_2 : decode cX1_name 2 = .ok (.invokevirtual 96, 3) := by decide +kernel
theorem dX1_name_5 : decode cX1_name 5 = .ok (.ifCond .eq 11, 3) := by decide +kernel
theorem dX1_name_8 : decode cX1_name 8 = .ok (.aload_n 0, 1) := by decide +kernel
theorem dX1_name_9 : decode cX1_name 9 = .ok (.iload_n 1, 1) := by decide +kernel
theorem dX1_name_10 : decode cX1_name 10 = .ok (.invokevirtual 104, 3) := by decide +kernel
theorem dX1_name_13 : decode cX1_name 13 = .ok (.goto 4, 3) := by decide +kernel
theorem dX1_name_16 : decode cX1_name 16 = .ok (.lconst 0, 1) := by decide +kernel
theorem dX1_name_17 : decode cX1_name 17 = .ok (.lreturn, 1) := by decide +kernel
theorem dX1_begin_0 : decode cX1_begin 0 = .ok (.iconst 0, 1) := by decide +kernel
theorem dX1_begin_1 : decode cX1_begin 1 = .ok (.istore_n 3, 1) := by decide +kernel
theorem dX1_begin_2 : decode cX1_begin 2 = .ok (.iload_n 3, 1) := by decide +kernel
theorem dX1_begin_3 : decode cX1_begin 3 = .ok (.iconst 4, 1) := by decide +kernel
theorem dX1_begin_4 : decode cX1_begin 4 = .ok (.if_icmp .ge 18, 3) := by decide +kernel
theorem dX1_begin_7 : decode cX1_begin 7 = .ok (.aload_n 0, 1) := by decide +kernel
theorem dX1_begin_8 : decode cX1_begin 8 = .ok (.getfield 27, 3) := by decide +kernel
theorem dX1_begin_11 : decode cX1_begin 11 = .ok (.iload_n 3, 1) := by decide +kernel
theorem dX1_begin_12 : decode cX1_begin 12 = .ok (.baload, 1) := by decide +kernel
theorem dX1_begin_13 : decode cX1_begin 13 = .ok (.ifCond .eq 9, 3) := by decide +kernel
theorem dX1_begin_16 : decode cX1_begin 16 = .ok (.iinc 3 1, 3) := by decide +kernel
theorem dX1_begin_19 : decode cX1_begin 19 = .ok (.goto (-17), 3) := by decide +kernel
theorem dX1_begin_22 : decode cX1_begin 22 = .ok (.iload_n 3, 1) := by decide +kernel
theorem dX1_begin_23 : decode cX1_begin 23 = .ok (.iconst 4, 1) := by decide +kernel
theorem dX1_begin_24 : decode cX1_begin 24 = .ok (.if_icmp .ne 6, 3) := by decide +kernel
theorem dX1_begin_27 : decode cX1_begin 27 = .ok (.bipush (-5), 2) := by decide +kernel
theorem dX1_begin_29 : decode cX1_begin 29 = .ok (.ireturn, 1) := by decide +kernel
theorem dX1_begin_30 : decode cX1_begin 30 = .ok (.aload_n 0, 1) := by decide +kernel
theorem dX1_begin_31 : decode cX1_begin 31 = .ok (.dup, 1) := by decide +kernel
theorem dX1_begin_32 : decode cX1_begin 32 = .ok (.getfield 93, 3) := by decide +kernel
theorem dX1_begin_35 : decode cX1_begin 35 = .ok (.lconst 1, 1) := by decide +kernel
theorem dX1_begin_36 : decode cX1_begin 36 = .ok (.ladd, 1) := by decide +kernel
theorem dX1_begin_37 : decode cX1_begin 37 = .ok (.putfield 93, 3) := by decide +kernel
theorem dX1_begin_40 : decode cX1_begin 40 = .ok (.aload_n 0, 1) := by decide +kernel
theorem dX1_begin_41 : decode cX1_begin 41 = .ok (.getfield 27, 3) := by decide +kernel
theorem dX1_begin_44 : decode cX1_begin 44 = .ok (.iload_n 3, 1) := by decide +kernel
theorem dX1_begin_45 : decode cX1_begin 45 = .ok (.iconst 1, 1) := by decide +kernel
theorem dX1_begin_46 : decode cX1_begin 46 = .ok (.bastore, 1) := by decide +kernel
theorem dX1_begin_47 : decode cX1_begin 47 = .ok (.aload_n 0, 1) := by decide +kernel
theorem dX1_begin_48 : decode cX1_begin 48 = .ok (.getfield 30, 3) := by decide +kernel
theorem dX1_begin_51 : decode cX1_begin 51 = .ok (.iload_n 3, 1) := by decide +kernel
theorem dX1_begin_52 : decode cX1_begin 52 = .ok (.lload_n 1, 1) := by decide +kernel
theorem dX1_begin_53 : decode cX1_begin 53 = .ok (.lastore, 1) := by decide +kernel
theorem dX1_begin_54 : decode cX1_begin 54 = .ok (.aload_n 0, 1) := by decide +kernel
theorem dX1_begin_55 : decode cX1_begin 55 = .ok (.getfield 33, 3) := by decide +kernel
theorem dX1_begin_58 : decode cX1_begin 58 = .ok (.iload_n 3, 1) := by decide +kernel
theorem dX1_begin_59 : decode cX1_begin 59 = .ok (.aload_n 0, 1) := by decide +kernel
theorem dX1_begin_60 : decode cX1_begin 60 = .ok (.getfield 93, 3) := by decide +kernel
theorem dX1_begin_63 : decode cX1_begin 63 = .ok (.lastore, 1) := by decide +kernel
theorem dX1_begin_64 : decode cX1_begin 64 = .ok (.iload_n 3, 1) := by decide +kernel
theorem dX1_begin_65 : decode cX1_begin 65 = .ok (.ireturn, 1) := by decide +kernel
set_option maxRecDepth 20000 in
theorem ggX1_end_X1_hasSession : GoodIn wsX1_end wsX1_hasSession := goodIn_r _ [6, 1, 7, 8, 9, 10, 11, 12, 13, 14, 15, 16, 17, 18, 19, 20, 21, 22, 23, 24, 25] (by decide +kernel) (by decide +kernel)
set_option maxRecDepth 20000 in
theorem gX1_end_X1_hasSession : GoodIn wsX1_end (wsV RX1 107 RX1 yX1_hasSession wsX1_hasSession) := goodIn_app (goodIn_of _ (by decide +kernel)) ggX1_end_X1_hasSession
theorem dX1_end_0 : decode cX1_end 0 = .ok (.aload_n 0, 1) := by decide +kernel
theorem dX1_end_1 : decode cX1_end 1 = .ok (.iload_n 1, 1) := by decide +kernel
theorem dX1_end_2 : decode cX1_end 2 = .ok (.invokevirtual 107, 3) := by decide +kernel
theorem dX1_end_5 : decode cX1_end 5 = .ok (.ifCond .ne 5, 3) := by decide +kernel
theorem dX1_end_8 : decode cX1_end 8 = .ok (.iconst 0, 1) := by decide +kernel
theorem dX1_end_9 : decode cX1_end 9 = .ok (.ireturn, 1) := by decide +kernel
theorem dX1_end_10 : decode cX1_end 10 = .ok (.aload_n 0, 1) := by decide +kernel
theorem dX1_end_11 : decode cX1_end 11 = .ok (.getfield 27, 3) := by decide +kernel
theorem dX1_end_14 : decode cX1_end 14 = .ok (.iload_n 1, 1) := by decide +kernel
theorem dX1_end_15 : decode cX1_end 15 = .ok (.iconst 0, 1) := by decide +kernel
theorem dX1_end_16 : decode cX1_end 16 = .ok (.bastore, 1) := by decide +kernel
theorem dX1_end_17 : decode cX1_end 17 = .ok (.iconst 1, 1) := by decide +kernel
theorem dX1_end_18 : decode cX1_end 18 = .ok (.ireturn, 1) := by decide +kernel
set_option maxRecDepth 20000 in
theorem ggX1_nonce_X1_hasSession : GoodIn wsX1_nonce wsX1_hasSession := goodIn_r _ [6, 7, 23, 24, 25, 26, 27, 28, 29, 30, 31, 32, 33, 34, 35, 36, 37, 38, 39, 40, 41] (by decide +kernel) (by decide +kernel)
set_option maxRecDepth 20000 in
theorem gX1_nonce_X1_hasSession : GoodIn wsX1_nonce (wsV RX1 107 RX1 yX1_hasSession wsX1_hasSession) := goodIn_app (goodIn_of _ (by decide +kernel)) ggX1_nonce_X1_hasSession
set_option maxRecDepth 20000 in
theorem ggX1_nonce_X1_word : GoodIn wsX1_nonce wsX1_word := goodIn_r _ [11, 12, 13, 14, 15, 5, 16, 17, 18, 19, 20, 21, 22, 23, 24, 25, 26, 27, 28, 29, 30, 31, 32, 33, 34, 35, 36, 37, 38, 39, 40, 41] (by decide +kernel) (by decide +kernel)
set_option maxRecDepth 20000 in
theorem gX1_nonce_X1_word : GoodIn wsX1_nonce (wsV RX1 100 RX1 yX1_word wsX1_word) := goodIn_app (goodIn_of _ (by decide +kernel)) ggX1_nonce_X1_word
theorem dX1_nonce_0 : decode cX1_nonce 0 = .ok (.aload_n 0, 1) := by decide +kernel
theorem dX1_nonce_1 : decode cX1_nonce 1 = .ok (.iload_n 1, 1) := by decide +kernel
theorem dX1_nonce_2 : decode cX1_nonce 2 = .ok (.invokevirtual 107, 3) := by decide +kernel
theorem dX1_nonce_5 : decode cX1_nonce 5 = .ok (.ifCond .eq 16, 3) := by decide +kernel
theorem dX1_nonce_8 : decode cX1_nonce 8 = .ok (.aload_n 0, 1) := by decide +kernel
theorem dX1_nonce_9 : decode cX1_nonce 9 = .ok (.aload_n 0, 1) := by decide +kernel
theorem dX1_nonce_10 : decode cX1_nonce 10 = .ok (.getfield 33, 3) := by decide +kernel
theorem dX1_nonce_13 : decode cX1_nonce 13 = .ok (.iload_n 1, 1) := by decide +kernel
theorem dX1_nonce_14 : decode cX1_nonce 14 = .ok (.laload, 1) := by decide +kernel
theorem dX1_nonce_15 : decode cX1_nonce 15 = .ok (.invokevirtual 100, 3) := by decide +kernel
theorem dX1_nonce_18 : decode cX1_nonce 18 = .ok (.goto 4, 3) := by decide +kernel
theorem dX1_nonce_21 : decode cX1_nonce 21 = .ok (.lconst 0, 1) := by decide +kernel
theorem dX1_nonce_22 : decode cX1_nonce 22 = .ok (.lreturn, 1) := by decide +kernel
set_option maxRecDepth 20000 in
theorem ggX1_rightFor_X1_word : GoodIn wsX1_rightFor wsX1_word := goodIn_r _ [8, 9, 10, 11, 12, 7, 13, 2, 14, 15, 16, 17, 18, 25, 26, 27, 28, 29, 30, 31, 32, 33, 34, 35, 36, 37, 38, 39, 40, 41, 42, 43] (by decide +kernel) (by decide +kernel)
set_option maxRecDepth 20000 in
theorem gX1_rightFor_X1_word : GoodIn wsX1_rightFor (wsV RX1 100 RX1 yX1_word wsX1_word) := goodIn_app (goodIn_of _ (by decide +kernel)) ggX1_rightFor_X1_word
set_option maxRecDepth 20000 in
theorem ggX1_rightFor_X1_code : GoodIn wsX1_rightFor wsX1_code := goodIn_r _ [22, 2, 23, 24, 14, 15, 16, 7, 17, 18, 25, 26, 27, 28, 29, 30, 31, 32, 33, 34, 35, 36, 37, 38, 39, 40, 41, 42, 43] (by decide +kernel) (by decide +kernel)
set_option maxRecDepth 20000 in
theorem gX1_rightFor_X1_code : GoodIn wsX1_rightFor (wsV RX1 70 RX1 yX1_code wsX1_code) := goodIn_app (goodIn_of _ (by decide +kernel)) ggX1_rightFor_X1_code
theorem dX1_rightFor_0 : decode cX1_rightFor 0 = .ok (.aload_n 0, 1) := by decide +kernel
theorem dX1_rightFor_1 : decode cX1_rightFor 1 = .ok (.aload_n 0, 1) := by decide +kernel
theorem dX1_rightFor_2 : decode cX1_rightFor 2 = .ok (.getfield 33, 3) := by decide +kernel
theorem dX1_rightFor_5 : decode cX1_rightFor 5 = .ok (.iload_n 3, 1) := by decide +kernel
theorem dX1_rightFor_6 : decode cX1_rightFor 6 = .ok (.laload, 1) := by decide +kernel
theorem dX1_rightFor_7 : decode cX1_rightFor 7 = .ok (.invokevirtual 100, 3) := by decide +kernel
theorem dX1_rightFor_10 : decode cX1_rightFor 10 = .ok (.lstore 7, 2) := by decide +kernel
theorem dX1_rightFor_12 : decode cX1_rightFor 12 = .ok (.aload_n 0, 1) := by decide +kernel
theorem dX1_rightFor_13 : decode cX1_rightFor 13 = .ok (.getfield 39, 3) := by decide +kernel
theorem dX1_rightFor_16 : decode cX1_rightFor 16 = .ok (.iconst 1, 1) := by decide +kernel
theorem dX1_rightFor_17 : decode cX1_rightFor 17 = .ok (.lload 7, 2) := by decide +kernel
theorem dX1_rightFor_19 : decode cX1_rightFor 19 = .ok (.lastore, 1) := by decide +kernel
theorem dX1_rightFor_20 : decode cX1_rightFor 20 = .ok (.aload_n 0, 1) := by decide +kernel
theorem dX1_rightFor_21 : decode cX1_rightFor 21 = .ok (.getfield 39, 3) := by decide +kernel
theorem dX1_rightFor_24 : decode cX1_rightFor 24 = .ok (.iconst 2, 1) := by decide +kernel
theorem dX1_rightFor_25 : decode cX1_rightFor 25 = .ok (.aload_n 0, 1) := by decide +kernel
theorem dX1_rightFor_26 : decode cX1_rightFor 26 = .ok (.getfield 30, 3) := by decide +kernel
theorem dX1_rightFor_29 : decode cX1_rightFor 29 = .ok (.iload_n 3, 1) := by decide +kernel
theorem dX1_rightFor_30 : decode cX1_rightFor 30 = .ok (.laload, 1) := by decide +kernel
theorem dX1_rightFor_31 : decode cX1_rightFor 31 = .ok (.lastore, 1) := by decide +kernel
theorem dX1_rightFor_32 : decode cX1_rightFor 32 = .ok (.aload_n 0, 1) := by decide +kernel
theorem dX1_rightFor_33 : decode cX1_rightFor 33 = .ok (.getfield 39, 3) := by decide +kernel
theorem dX1_rightFor_36 : decode cX1_rightFor 36 = .ok (.iconst 3, 1) := by decide +kernel
theorem dX1_rightFor_37 : decode cX1_rightFor 37 = .ok (.iload 4, 2) := by decide +kernel
theorem dX1_rightFor_39 : decode cX1_rightFor 39 = .ok (.i2l, 1) := by decide +kernel
theorem dX1_rightFor_40 : decode cX1_rightFor 40 = .ok (.lastore, 1) := by decide +kernel
theorem dX1_rightFor_41 : decode cX1_rightFor 41 = .ok (.aload_n 0, 1) := by decide +kernel
theorem dX1_rightFor_42 : decode cX1_rightFor 42 = .ok (.getfield 39, 3) := by decide +kernel
theorem dX1_rightFor_45 : decode cX1_rightFor 45 = .ok (.iconst 4, 1) := by decide +kernel
theorem dX1_rightFor_46 : decode cX1_rightFor 46 = .ok (.lload 5, 2) := by decide +kernel
theorem dX1_rightFor_48 : decode cX1_rightFor 48 = .ok (.lastore, 1) := by decide +kernel
theorem dX1_rightFor_49 : decode cX1_rightFor 49 = .ok (.aload_n 0, 1) := by decide +kernel
theorem dX1_rightFor_50 : decode cX1_rightFor 50 = .ok (.lload_n 1, 1) := by decide +kernel
theorem dX1_rightFor_51 : decode cX1_rightFor 51 = .ok (.iconst 4, 1) := by decide +kernel
theorem dX1_rightFor_52 : decode cX1_rightFor 52 = .ok (.invokevirtual 70, 3) := by decide +kernel
theorem dX1_rightFor_55 : decode cX1_rightFor 55 = .ok (.lreturn, 1) := by decide +kernel
set_option maxRecDepth 20000 in
theorem ggX1_prove_X1_hasSession : GoodIn wsX1_prove wsX1_hasSession := goodIn_r _ [7, 8, 41, 42, 43, 44, 45, 46, 47, 48, 49, 50, 51, 52, 53, 54, 55, 56, 57, 58, 59] (by decide +kernel) (by decide +kernel)
set_option maxRecDepth 20000 in
theorem gX1_prove_X1_hasSession : GoodIn wsX1_prove (wsV RX1 107 RX1 yX1_hasSession wsX1_hasSession) := goodIn_app (goodIn_of _ (by decide +kernel)) ggX1_prove_X1_hasSession
set_option maxRecDepth 20000 in
theorem ggX1_prove_X1_hasBlob : GoodIn wsX1_prove wsX1_hasBlob := goodIn_r _ [12, 13, 41, 42, 43, 44, 45, 46, 47, 48, 49, 50, 51, 52, 53, 54, 55, 56, 57, 58, 59] (by decide +kernel) (by decide +kernel)
set_option maxRecDepth 20000 in
theorem gX1_prove_X1_hasBlob : GoodIn wsX1_prove (wsV RX1 110 RX1 yX1_hasBlob wsX1_hasBlob) := goodIn_app (goodIn_of _ (by decide +kernel)) ggX1_prove_X1_hasBlob
set_option maxRecDepth 20000 in
theorem ggX1_prove_X1_two : GoodIn wsX1_prove wsX1_two := goodIn_r _ [17, 18, 19, 20, 21, 6, 22, 23, 41, 42, 43, 44, 45, 46, 47, 48, 49, 50, 51, 52, 53, 54, 55, 56, 57, 58, 59] (by decide +kernel) (by decide +kernel)
set_option maxRecDepth 20000 in
theorem gX1_prove_X1_two : GoodIn wsX1_prove (wsV RX1 59 RX1 yX1_two wsX1_two) := goodIn_app (goodIn_of _ (by decide +kernel)) ggX1_prove_X1_two
set_option maxRecDepth 20000 in
theorem ggX1_prove_X1_rightFor : GoodIn wsX1_prove wsX1_rightFor := goodIn_r _ [27, 28, 18, 29, 30, 31, 32, 6, 33, 34, 14, 15, 16, 17, 19, 20, 21, 22, 23, 35, 36, 37, 38, 39, 40, 41, 42, 43, 44, 45, 46, 47, 48, 49, 50, 51, 52, 53, 54, 55, 56, 57, 58, 59] (by decide +kernel) (by decide +kernel)
set_option maxRecDepth 20000 in
theorem gX1_prove_X1_rightFor : GoodIn wsX1_prove (wsV RX1 113 RX1 yX1_rightFor wsX1_rightFor) := goodIn_app (goodIn_of _ (by decide +kernel)) ggX1_prove_X1_rightFor
theorem dX1_prove_0 : decode cX1_prove 0 = .ok (.aload_n 0, 1) := by decide +kernel
theorem dX1_prove_1 : decode cX1_prove 1 = .ok (.iload_n 3, 1) := by decide +kernel
theorem dX1_prove_2 : decode cX1_prove 2 = .ok (.invokevirtual 107, 3) := by decide +kernel
theorem dX1_prove_5 : decode cX1_prove 5 = .ok (.ifCond .eq 30, 3) := by decide +kernel
theorem dX1_prove_8 : decode cX1_prove 8 = .ok (.iload 4, 2) := by decide +kernel
theorem dX1_prove_10 : decode cX1_prove 10 = .ok (.iconst 1, 1) := by decide +kernel
theorem dX1_prove_11 : decode cX1_prove 11 = .ok (.if_icmp .lt 24, 3) := by decide +kernel
theorem dX1_prove_14 : decode cX1_prove 14 = .ok (.iload 4, 2) := by decide +kernel
theorem dX1_prove_16 : decode cX1_prove 16 = .ok (.iconst 3, 1) := by decide +kernel
theorem dX1_prove_17 : decode cX1_prove 17 = .ok (.if_icmp .gt 18, 3) := by decide +kernel
theorem dX1_prove_20 : decode cX1_prove 20 = .ok (.iload 4, 2) := by decide +kernel
theorem dX1_prove_22 : decode cX1_prove 22 = .ok (.iconst 2, 1) := by decide +kernel
theorem dX1_prove_23 : decode cX1_prove 23 = .ok (.if_icmp .ne 14, 3) := by decide +kernel
theorem dX1_prove_26 : decode cX1_prove 26 = .ok (.aload_n 0, 1) := by decide +kernel
theorem dX1_prove_27 : decode cX1_prove 27 = .ok (.iload 5, 2) := by decide +kernel
theorem dX1_prove_29 : decode cX1_prove 29 = .ok (.invokevirtual 110, 3) := by decide +kernel
theorem dX1_prove_32 : decode cX1_prove 32 = .ok (.ifCond .ne 5, 3) := by decide +kernel
theorem dX1_prove_35 : decode cX1_prove 35 = .ok (.iconst 0, 1) := by decide +kernel
theorem dX1_prove_36 : decode cX1_prove 36 = .ok (.ireturn, 1) := by decide +kernel
theorem dX1_prove_37 : decode cX1_prove 37 = .ok (.iload 4, 2) := by decide +kernel
theorem dX1_prove_39 : decode cX1_prove 39 = .ok (.iconst 2, 1) := by decide +kernel
theorem dX1_prove_40 : decode cX1_prove 40 = .ok (.if_icmp .ne 18, 3) := by decide +kernel
theorem dX1_prove_43 : decode cX1_prove 43 = .ok (.aload_n 0, 1) := by decide +kernel
theorem dX1_prove_44 : decode cX1_prove 44 = .ok (.getfield 36, 3) := by decide +kernel
theorem dX1_prove_47 : decode cX1_prove 47 = .ok (.bipush 6, 2) := by decide +kernel
theorem dX1_prove_49 : decode cX1_prove 49 = .ok (.iload 5, 2) := by decide +kernel
theorem dX1_prove_51 : decode cX1_prove 51 = .ok (.imul, 1) := by decide +kernel
theorem dX1_prove_52 : decode cX1_prove 52 = .ok (.iconst 5, 1) := by decide +kernel
theorem dX1_prove_53 : decode cX1_prove 53 = .ok (.iadd, 1) := by decide +kernel
theorem dX1_prove_54 : decode cX1_prove 54 = .ok (.laload, 1) := by decide +kernel
theorem dX1_prove_55 : decode cX1_prove 55 = .ok (.goto 12, 3) := by decide +kernel
theorem dX1_prove_58 : decode cX1_prove 58 = .ok (.aload_n 0, 1) := by decide +kernel
theorem dX1_prove_59 : decode cX1_prove 59 = .ok (.iload 5, 2) := by decide +kernel
theorem dX1_prove_61 : decode cX1_prove 61 = .ok (.i2l, 1) := by decide +kernel
theorem dX1_prove_62 : decode cX1_prove 62 = .ok (.lload 6, 2) := by decide +kernel
theorem dX1_prove_64 : decode cX1_prove 64 = .ok (.invokevirtual 59, 3) := by decide +kernel
theorem dX1_prove_67 : decode cX1_prove 67 = .ok (.lstore 8, 2) := by decide +kernel
theorem dX1_prove_69 : decode cX1_prove 69 = .ok (.aload_n 0, 1) := by decide +kernel
theorem dX1_prove_70 : decode cX1_prove 70 = .ok (.aload_n 0, 1) := by decide +kernel
theorem dX1_prove_71 : decode cX1_prove 71 = .ok (.lload_n 1, 1) := by decide +kernel
theorem dX1_prove_72 : decode cX1_prove 72 = .ok (.iload_n 3, 1) := by decide +kernel
theorem dX1_prove_73 : decode cX1_prove 73 = .ok (.iload 4, 2) := by decide +kernel
theorem dX1_prove_75 : decode cX1_prove 75 = .ok (.lload 8, 2) := by decide +kernel
theorem dX1_prove_77 : decode cX1_prove 77 = .ok (.invokevirtual 113, 3) := by decide +kernel
theorem dX1_prove_80 : decode cX1_prove 80 = .ok (.putfield 117, 3) := by decide +kernel
theorem dX1_prove_83 : decode cX1_prove 83 = .ok (.iconst 1, 1) := by decide +kernel
theorem dX1_prove_84 : decode cX1_prove 84 = .ok (.ireturn, 1) := by decide +kernel
theorem dX1_present_0 : decode cX1_present 0 = .ok (.aload_n 0, 1) := by decide +kernel
theorem dX1_present_1 : decode cX1_present 1 = .ok (.lload_n 1, 1) := by decide +kernel
theorem dX1_present_2 : decode cX1_present 2 = .ok (.putfield 117, 3) := by decide +kernel
theorem dX1_present_5 : decode cX1_present 5 = .ok (.return_, 1) := by decide +kernel
set_option maxRecDepth 20000 in
theorem ggX1_proved_X1_rightFor : GoodIn wsX1_proved wsX1_rightFor := goodIn_r _ [11, 4, 12, 13, 14, 15, 16, 10, 17, 18, 19, 20, 21, 22, 23, 24, 25, 26, 27, 28, 29, 30, 31, 32, 33, 34, 35, 36, 37, 38, 39, 40, 41, 42, 43, 44, 45, 46, 47, 48, 49, 50, 51, 52] (by decide +kernel) (by decide +kernel)
set_option maxRecDepth 20000 in
theorem gX1_proved_X1_rightFor : GoodIn wsX1_proved (wsV RX1 113 RX1 yX1_rightFor wsX1_rightFor) := goodIn_app (goodIn_of _ (by decide +kernel)) ggX1_proved_X1_rightFor
theorem dX1_proved_0 : decode cX1_proved 0 = .ok (.aload_n 0, 1) := by decide +kernel
theorem dX1_proved_1 : decode cX1_proved 1 = .ok (.getfield 117, 3) := by decide +kernel
theorem dX1_proved_4 : decode cX1_proved 4 = .ok (.aload_n 0, 1) := by decide +kernel
theorem dX1_proved_5 : decode cX1_proved 5 = .ok (.aload_n 0, 1) := by decide +kernel
theorem dX1_proved_6 : decode cX1_proved 6 = .ok (.getfield 21, 3) := by decide +kernel
theorem dX1_proved_9 : decode cX1_proved 9 = .ok (.iload_n 2, 1) := by decide +kernel
theorem dX1_proved_10 : decode cX1_proved 10 = .ok (.laload, 1) := by decide +kernel
theorem dX1_proved_11 : decode cX1_proved 11 = .ok (.iload_n 1, 1) := by decide +kernel
theorem dX1_proved_12 : decode cX1_proved 12 = .ok (.iload_n 3, 1) := by decide +kernel
theorem dX1_proved_13 : decode cX1_proved 13 = .ok (.lload 4, 2) := by decide +kernel
theorem dX1_proved_15 : decode cX1_proved 15 = .ok (.invokevirtual 113, 3) := by decide +kernel
theorem dX1_proved_18 : decode cX1_proved 18 = .ok (.lcmp, 1) := by decide +kernel
theorem dX1_proved_19 : decode cX1_proved 19 = .ok (.ifCond .ne 7, 3) := by decide +kernel
theorem dX1_proved_22 : decode cX1_proved 22 = .ok (.iconst 1, 1) := by decide +kernel
theorem dX1_proved_23 : decode cX1_proved 23 = .ok (.goto 4, 3) := by decide +kernel
theorem dX1_proved_26 : decode cX1_proved 26 = .ok (.iconst 0, 1) := by decide +kernel
theorem dX1_proved_27 : decode cX1_proved 27 = .ok (.istore 6, 2) := by decide +kernel
theorem dX1_proved_29 : decode cX1_proved 29 = .ok (.aload_n 0, 1) := by decide +kernel
theorem dX1_proved_30 : decode cX1_proved 30 = .ok (.dup, 1) := by decide +kernel
theorem dX1_proved_31 : decode cX1_proved 31 = .ok (.getfield 93, 3) := by decide +kernel
theorem dX1_proved_34 : decode cX1_proved 34 = .ok (.lconst 1, 1) := by decide +kernel
theorem dX1_proved_35 : decode cX1_proved 35 = .ok (.ladd, 1) := by decide +kernel
theorem dX1_proved_36 : decode cX1_proved 36 = .ok (.putfield 93, 3) := by decide +kernel
theorem dX1_proved_39 : decode cX1_proved 39 = .ok (.aload_n 0, 1) := by decide +kernel
theorem dX1_proved_40 : decode cX1_proved 40 = .ok (.getfield 33, 3) := by decide +kernel
theorem dX1_proved_43 : decode cX1_proved 43 = .ok (.iload_n 1, 1) := by decide +kernel
theorem dX1_proved_44 : decode cX1_proved 44 = .ok (.aload_n 0, 1) := by decide +kernel
theorem dX1_proved_45 : decode cX1_proved 45 = .ok (.getfield 93, 3) := by decide +kernel
theorem dX1_proved_48 : decode cX1_proved 48 = .ok (.lastore, 1) := by decide +kernel
theorem dX1_proved_49 : decode cX1_proved 49 = .ok (.aload_n 0, 1) := by decide +kernel
theorem dX1_proved_50 : decode cX1_proved 50 = .ok (.iload 6, 2) := by decide +kernel
theorem dX1_proved_52 : decode cX1_proved 52 = .ok (.ifCond .eq 7, 3) := by decide +kernel
theorem dX1_proved_55 : decode cX1_proved 55 = .ok (.iconst 0, 1) := by decide +kernel
theorem dX1_proved_56 : decode cX1_proved 56 = .ok (.goto 9, 3) := by decide +kernel
theorem dX1_proved_59 : decode cX1_proved 59 = .ok (.aload_n 0, 1) := by decide +kernel
theorem dX1_proved_60 : decode cX1_proved 60 = .ok (.getfield 120, 3) := by decide +kernel
theorem dX1_proved_63 : decode cX1_proved 63 = .ok (.iconst 1, 1) := by decide +kernel
theorem dX1_proved_64 : decode cX1_proved 64 = .ok (.iadd, 1) := by decide +kernel
theorem dX1_proved_65 : decode cX1_proved 65 = .ok (.putfield 120, 3) := by decide +kernel
theorem dX1_proved_68 : decode cX1_proved 68 = .ok (.aload_n 0, 1) := by decide +kernel
theorem dX1_proved_69 : decode cX1_proved 69 = .ok (.iload 6, 2) := by decide +kernel
theorem dX1_proved_71 : decode cX1_proved 71 = .ok (.ifCond .eq 10, 3) := by decide +kernel
theorem dX1_proved_74 : decode cX1_proved 74 = .ok (.aload_n 0, 1) := by decide +kernel
theorem dX1_proved_75 : decode cX1_proved 75 = .ok (.getfield 123, 3) := by decide +kernel
theorem dX1_proved_78 : decode cX1_proved 78 = .ok (.goto 4, 3) := by decide +kernel
theorem dX1_proved_81 : decode cX1_proved 81 = .ok (.lconst 0, 1) := by decide +kernel
theorem dX1_proved_82 : decode cX1_proved 82 = .ok (.putfield 123, 3) := by decide +kernel
theorem dX1_proved_85 : decode cX1_proved 85 = .ok (.iload 6, 2) := by decide +kernel
theorem dX1_proved_87 : decode cX1_proved 87 = .ok (.ireturn, 1) := by decide +kernel
set_option maxRecDepth 20000 in
theorem ggX1_seal_X1_hasSession : GoodIn wsX1_seal wsX1_hasSession := goodIn_r _ [9, 10, 79, 80, 81, 82, 83, 84, 85, 86, 87, 88, 89, 90, 91, 92, 93, 94, 95, 96, 97] (by decide +kernel) (by decide +kernel)
set_option maxRecDepth 20000 in
theorem gX1_seal_X1_hasSession : GoodIn wsX1_seal (wsV RX1 107 RX1 yX1_hasSession wsX1_hasSession) := goodIn_app (goodIn_of _ (by decide +kernel)) ggX1_seal_X1_hasSession
set_option maxRecDepth 20000 in
theorem ggX1_seal_X1_hasKey : GoodIn wsX1_seal wsX1_hasKey := goodIn_r _ [14, 15, 79, 80, 81, 82, 83, 84, 85, 86, 87, 88, 89, 90, 91, 92, 93, 94, 95, 96, 97] (by decide +kernel) (by decide +kernel)
set_option maxRecDepth 20000 in
theorem gX1_seal_X1_hasKey : GoodIn wsX1_seal (wsV RX1 96 RX1 yX1_hasKey wsX1_hasKey) := goodIn_app (goodIn_of _ (by decide +kernel)) ggX1_seal_X1_hasKey
set_option maxRecDepth 20000 in
theorem ggX1_seal_X1_isMask : GoodIn wsX1_seal wsX1_isMask := goodIn_r _ [18, 19] (by decide +kernel) (by decide +kernel)
set_option maxRecDepth 20000 in
theorem gX1_seal_X1_isMask : GoodIn wsX1_seal (va_wsS RX1 83 yX1_isMask wsX1_isMask) := goodIn_app (goodIn_of _ (by decide +kernel)) ggX1_seal_X1_isMask
set_option maxRecDepth 20000 in
theorem ggX1_seal_X1_two : GoodIn wsX1_seal wsX1_two := goodIn_r _ [23, 24, 25, 26, 27, 8, 28, 29, 79, 80, 81, 82, 83, 84, 85, 86, 87, 88, 89, 90, 91, 92, 93, 94, 95, 96, 97] (by decide +kernel) (by decide +kernel)
set_option maxRecDepth 20000 in
theorem gX1_seal_X1_two : GoodIn wsX1_seal (wsV RX1 59 RX1 yX1_two wsX1_two) := goodIn_app (goodIn_of _ (by decide +kernel)) ggX1_seal_X1_two
set_option maxRecDepth 20000 in
theorem ggX1_seal_X1_proved : GoodIn wsX1_seal wsX1_proved := goodIn_r _ [33, 34, 35, 3, 36, 1, 37, 38, 39, 40, 8, 41, 24, 42, 43, 44, 45, 46, 47, 20, 21, 22, 23, 25, 26, 27, 28, 29, 48, 49, 50, 51, 52, 53, 79, 80, 81, 82, 83, 84, 85, 86, 87, 88, 89, 90, 91, 92, 93, 94, 95, 96, 97] (by decide +kernel) (by decide +kernel)
set_option maxRecDepth 20000 in
theorem gX1_seal_X1_proved : GoodIn wsX1_seal (wsV RX1 126 RX1 yX1_proved wsX1_proved) := goodIn_app (goodIn_of _ (by decide +kernel)) ggX1_seal_X1_proved
set_option maxRecDepth 20000 in
theorem ggX1_seal_X1_word : GoodIn wsX1_seal wsX1_word := goodIn_r _ [46, 47, 20, 21, 22, 8, 23, 24, 25, 26, 27, 28, 29, 79, 80, 81, 82, 83, 84, 85, 86, 87, 88, 89, 90, 91, 92, 93, 94, 95, 96, 97] (by decide +kernel) (by decide +kernel)
set_option maxRecDepth 20000 in
theorem gX1_seal_X1_word : GoodIn wsX1_seal (wsV RX1 100 RX1 yX1_word wsX1_word) := goodIn_app (goodIn_of _ (by decide +kernel)) ggX1_seal_X1_word
set_option maxRecDepth 20000 in
theorem ggX1_seal_X1_digestOf : GoodIn wsX1_seal wsX1_digestOf := goodIn_r _ [57, 58, 24, 59, 60, 61, 8, 62, 63, 64, 65, 20, 21, 22, 23, 25, 26, 27, 28, 29, 79, 80, 81, 82, 83, 84, 85, 86, 87, 88, 89, 90, 91, 92, 93, 94, 95, 96, 97] (by decide +kernel) (by decide +kernel)
set_option maxRecDepth 20000 in
theorem gX1_seal_X1_digestOf : GoodIn wsX1_seal (wsV RX1 87 RX1 yX1_digestOf wsX1_digestOf) := goodIn_app (goodIn_of _ (by decide +kernel)) ggX1_seal_X1_digestOf
set_option maxRecDepth 20000 in
theorem ggX1_seal_X1_nameOf : GoodIn wsX1_seal wsX1_nameOf := goodIn_r _ [69, 70, 35, 43, 44, 45, 8, 46, 47, 20, 21, 22, 23, 24, 25, 26, 27, 28, 29, 79, 80, 81, 82, 83, 84, 85, 86, 87, 88, 89, 90, 91, 92, 93, 94, 95, 96, 97] (by decide +kernel) (by decide +kernel)
set_option maxRecDepth 20000 in
theorem gX1_seal_X1_nameOf : GoodIn wsX1_seal (wsV RX1 104 RX1 yX1_nameOf wsX1_nameOf) := goodIn_app (goodIn_of _ (by decide +kernel)) ggX1_seal_X1_nameOf
set_option maxRecDepth 20000 in
theorem ggX1_seal_X1_veil : GoodIn wsX1_seal wsX1_veil := goodIn_r _ [74, 24, 47, 25, 26, 27, 8, 28, 29, 79, 80, 81, 82, 83, 84, 85, 86, 87, 88, 89, 90, 91, 92, 93, 94, 95, 96, 97] (by decide +kernel) (by decide +kernel)
set_option maxRecDepth 20000 in
theorem gX1_seal_X1_veil : GoodIn wsX1_seal (wsV RX1 130 RX1 yX1_veil wsX1_veil) := goodIn_app (goodIn_of _ (by decide +kernel)) ggX1_seal_X1_veil
set_option maxRecDepth 20000 in
theorem ggX1_seal_X1_sealOf : GoodIn wsX1_seal wsX1_sealOf := goodIn_r _ [78, 24, 4, 47, 48, 49, 50, 8, 51, 52, 53, 25, 26, 27, 28, 29, 79, 80, 81, 82, 83, 84, 85, 86, 87, 88, 89, 90, 91, 92, 93, 94, 95, 96, 97] (by decide +kernel) (by decide +kernel)
set_option maxRecDepth 20000 in
theorem gX1_seal_X1_sealOf : GoodIn wsX1_seal (wsV RX1 133 RX1 yX1_sealOf wsX1_sealOf) := goodIn_app (goodIn_of _ (by decide +kernel)) ggX1_seal_X1_sealOf
theorem dX1_seal_0 : decode cX1_seal 0 = .ok (.aload_n 0, 1) := by decide +kernel
theorem dX1_seal_1 : decode cX1_seal 1 = .ok (.iload_n 1, 1) := by decide +kernel
theorem dX1_seal_2 : decode cX1_seal 2 = .ok (.invokevirtual 107, 3) := by decide +kernel
theorem dX1_seal_5 : decode cX1_seal 5 = .ok (.ifCond .eq 19, 3) := by decide +kernel
theorem dX1_seal_8 : decode cX1_seal 8 = .ok (.aload_n 0, 1) := by decide +kernel
theorem dX1_seal_9 : decode cX1_seal 9 = .ok (.iload_n 2, 1) := by decide +kernel
theorem dX1_seal_10 : decode cX1_seal 10 = .ok (.invokevirtual 96, 3) := by decide +kernel
theorem dX1_seal_13 : decode cX1_seal 13 = .ok (.ifCond .eq 11, 3) := by decide +kernel
theorem dX1_seal_16 : decode cX1_seal 16 = .ok (.iload_n 3, 1) := by decide +kernel
theorem dX1_seal_17 : decode cX1_seal 17 = .ok (.i2l, 1) := by decide +kernel
theorem dX1_seal_18 : decode cX1_seal 18 = .ok (.invokestatic 83, 3) := by decide +kernel
theorem dX1_seal_21 : decode cX1_seal 21 = .ok (.ifCond .ne 5, 3) := by decide +kernel
theorem dX1_seal_24 : decode cX1_seal 24 = .ok (.iconst (-1), 1) := by decide +kernel
theorem dX1_seal_25 : decode cX1_seal 25 = .ok (.ireturn, 1) := by decide +kernel
theorem dX1_seal_26 : decode cX1_seal 26 = .ok (.aload_n 0, 1) := by decide +kernel
theorem dX1_seal_27 : decode cX1_seal 27 = .ok (.getfield 120, 3) := by decide +kernel
theorem dX1_seal_30 : decode cX1_seal 30 = .ok (.iconst 3, 1) := by decide +kernel
theorem dX1_seal_31 : decode cX1_seal 31 = .ok (.if_icmp .ge 12, 3) := by decide +kernel
theorem dX1_seal_34 : decode cX1_seal 34 = .ok (.aload_n 0, 1) := by decide +kernel
theorem dX1_seal_35 : decode cX1_seal 35 = .ok (.getfield 90, 3) := by decide +kernel
theorem dX1_seal_38 : decode cX1_seal 38 = .ok (.bipush 10, 2) := by decide +kernel
theorem dX1_seal_40 : decode cX1_seal 40 = .ok (.if_icmp .lt 19, 3) := by decide +kernel
theorem dX1_seal_43 : decode cX1_seal 43 = .ok (.aload_n 0, 1) := by decide +kernel
theorem dX1_seal_44 : decode cX1_seal 44 = .ok (.getfield 120, 3) := by decide +kernel
theorem dX1_seal_47 : decode cX1_seal 47 = .ok (.iconst 3, 1) := by decide +kernel
theorem dX1_seal_48 : decode cX1_seal 48 = .ok (.if_icmp .lt 8, 3) := by decide +kernel
theorem dX1_seal_51 : decode cX1_seal 51 = .ok (.bipush (-2), 2) := by decide +kernel
theorem dX1_seal_53 : decode cX1_seal 53 = .ok (.goto 5, 3) := by decide +kernel
theorem dX1_seal_56 : decode cX1_seal 56 = .ok (.bipush (-5), 2) := by decide +kernel
theorem dX1_seal_58 : decode cX1_seal 58 = .ok (.ireturn, 1) := by decide +kernel
theorem dX1_seal_59 : decode cX1_seal 59 = .ok (.aload_n 0, 1) := by decide +kernel
theorem dX1_seal_60 : decode cX1_seal 60 = .ok (.iload_n 3, 1) := by decide +kernel
theorem dX1_seal_61 : decode cX1_seal 61 = .ok (.i2l, 1) := by decide +kernel
theorem dX1_seal_62 : decode cX1_seal 62 = .ok (.lload 4, 2) := by decide +kernel
theorem dX1_seal_64 : decode cX1_seal 64 = .ok (.invokevirtual 59, 3) := by decide +kernel
theorem dX1_seal_67 : decode cX1_seal 67 = .ok (.lstore 6, 2) := by decide +kernel
theorem dX1_seal_69 : decode cX1_seal 69 = .ok (.aload_n 0, 1) := by decide +kernel
theorem dX1_seal_70 : decode cX1_seal 70 = .ok (.iload_n 1, 1) := by decide +kernel
theorem dX1_seal_71 : decode cX1_seal 71 = .ok (.iload_n 2, 1) := by decide +kernel
theorem dX1_seal_72 : decode cX1_seal 72 = .ok (.iconst 1, 1) := by decide +kernel
theorem dX1_seal_73 : decode cX1_seal 73 = .ok (.lload 6, 2) := by decide +kernel
theorem dX1_seal_75 : decode cX1_seal 75 = .ok (.invokevirtual 126, 3) := by decide +kernel
theorem dX1_seal_78 : decode cX1_seal 78 = .ok (.ifCond .ne 6, 3) := by decide +kernel
theorem dX1_seal_81 : decode cX1_seal 81 = .ok (.bipush (-6), 2) := by decide +kernel
theorem dX1_seal_83 : decode cX1_seal 83 = .ok (.ireturn, 1) := by decide +kernel
theorem dX1_seal_84 : decode cX1_seal 84 = .ok (.aload_n 0, 1) := by decide +kernel
theorem dX1_seal_85 : decode cX1_seal 85 = .ok (.dup, 1) := by decide +kernel
theorem dX1_seal_86 : decode cX1_seal 86 = .ok (.getfield 93, 3) := by decide +kernel
theorem dX1_seal_89 : decode cX1_seal 89 = .ok (.lconst 1, 1) := by decide +kernel
theorem dX1_seal_90 : decode cX1_seal 90 = .ok (.ladd, 1) := by decide +kernel
theorem dX1_seal_91 : decode cX1_seal 91 = .ok (.putfield 93, 3) := by decide +kernel
theorem dX1_seal_94 : decode cX1_seal 94 = .ok (.aload_n 0, 1) := by decide +kernel
theorem dX1_seal_95 : decode cX1_seal 95 = .ok (.aload_n 0, 1) := by decide +kernel
theorem dX1_seal_96 : decode cX1_seal 96 = .ok (.getfield 93, 3) := by decide +kernel
theorem dX1_seal_99 : decode cX1_seal 99 = .ok (.invokevirtual 100, 3) := by decide +kernel
theorem dX1_seal_102 : decode cX1_seal 102 = .ok (.lstore 8, 2) := by decide +kernel
theorem dX1_seal_104 : decode cX1_seal 104 = .ok (.aload_n 0, 1) := by decide +kernel
theorem dX1_seal_105 : decode cX1_seal 105 = .ok (.iload_n 3, 1) := by decide +kernel
theorem dX1_seal_106 : decode cX1_seal 106 = .ok (.invokevirtual 87, 3) := by decide +kernel
theorem dX1_seal_109 : decode cX1_seal 109 = .ok (.lstore 10, 2) := by decide +kernel
theorem dX1_seal_111 : decode cX1_seal 111 = .ok (.bipush 6, 2) := by decide +kernel
theorem dX1_seal_113 : decode cX1_seal 113 = .ok (.aload_n 0, 1) := by decide +kernel
theorem dX1_seal_114 : decode cX1_seal 114 = .ok (.getfield 90, 3) := by decide +kernel
theorem dX1_seal_117 : decode cX1_seal 117 = .ok (.imul, 1) := by decide +kernel
theorem dX1_seal_118 : decode cX1_seal 118 = .ok (.istore 12, 2) := by decide +kernel
theorem dX1_seal_120 : decode cX1_seal 120 = .ok (.aload_n 0, 1) := by decide +kernel
theorem dX1_seal_121 : decode cX1_seal 121 = .ok (.getfield 36, 3) := by decide +kernel
theorem dX1_seal_124 : decode cX1_seal 124 = .ok (.iload 12, 2) := by decide +kernel
theorem dX1_seal_126 : decode cX1_seal 126 = .ok (.aload_n 0, 1) := by decide +kernel
theorem dX1_seal_127 : decode cX1_seal 127 = .ok (.iload_n 2, 1) := by decide +kernel
theorem dX1_seal_128 : decode cX1_seal 128 = .ok (.invokevirtual 104, 3) := by decide +kernel
theorem dX1_seal_131 : decode cX1_seal 131 = .ok (.lastore, 1) := by decide +kernel
theorem dX1_seal_132 : decode cX1_seal 132 = .ok (.aload_n 0, 1) := by decide +kernel
theorem dX1_seal_133 : decode cX1_seal 133 = .ok (.getfield 36, 3) := by decide +kernel
theorem dX1_seal_136 : decode cX1_seal 136 = .ok (.iload 12, 2) := by decide +kernel
theorem dX1_seal_138 : decode cX1_seal 138 = .ok (.iconst 1, 1) := by decide +kernel
theorem dX1_seal_139 : decode cX1_seal 139 = .ok (.iadd, 1) := by decide +kernel
theorem dX1_seal_140 : decode cX1_seal 140 = .ok (.iload_n 3, 1) := by decide +kernel
theorem dX1_seal_141 : decode cX1_seal 141 = .ok (.i2l, 1) := by decide +kernel
theorem dX1_seal_142 : decode cX1_seal 142 = .ok (.lastore, 1) := by decide +kernel
theorem dX1_seal_143 : decode cX1_seal 143 = .ok (.aload_n 0, 1) := by decide +kernel
theorem dX1_seal_144 : decode cX1_seal 144 = .ok (.getfield 36, 3) := by decide +kernel
theorem dX1_seal_147 : decode cX1_seal 147 = .ok (.iload 12, 2) := by decide +kernel
theorem dX1_seal_149 : decode cX1_seal 149 = .ok (.iconst 2, 1) := by decide +kernel
theorem dX1_seal_150 : decode cX1_seal 150 = .ok (.iadd, 1) := by decide +kernel
theorem dX1_seal_151 : decode cX1_seal 151 = .ok (.lload 10, 2) := by decide +kernel
theorem dX1_seal_153 : decode cX1_seal 153 = .ok (.lastore, 1) := by decide +kernel
theorem dX1_seal_154 : decode cX1_seal 154 = .ok (.aload_n 0, 1) := by decide +kernel
theorem dX1_seal_155 : decode cX1_seal 155 = .ok (.getfield 36, 3) := by decide +kernel
theorem dX1_seal_158 : decode cX1_seal 158 = .ok (.iload 12, 2) := by decide +kernel
theorem dX1_seal_160 : decode cX1_seal 160 = .ok (.iconst 3, 1) := by decide +kernel
theorem dX1_seal_161 : decode cX1_seal 161 = .ok (.iadd, 1) := by decide +kernel
theorem dX1_seal_162 : decode cX1_seal 162 = .ok (.lload 8, 2) := by decide +kernel
theorem dX1_seal_164 : decode cX1_seal 164 = .ok (.lastore, 1) := by decide +kernel
theorem dX1_seal_165 : decode cX1_seal 165 = .ok (.aload_n 0, 1) := by decide +kernel
theorem dX1_seal_166 : decode cX1_seal 166 = .ok (.getfield 36, 3) := by decide +kernel
theorem dX1_seal_169 : decode cX1_seal 169 = .ok (.iload 12, 2) := by decide +kernel
theorem dX1_seal_171 : decode cX1_seal 171 = .ok (.iconst 4, 1) := by decide +kernel
theorem dX1_seal_172 : decode cX1_seal 172 = .ok (.iadd, 1) := by decide +kernel
theorem dX1_seal_173 : decode cX1_seal 173 = .ok (.lload 4, 2) := by decide +kernel
theorem dX1_seal_175 : decode cX1_seal 175 = .ok (.aload_n 0, 1) := by decide +kernel
theorem dX1_seal_176 : decode cX1_seal 176 = .ok (.lload 8, 2) := by decide +kernel
theorem dX1_seal_178 : decode cX1_seal 178 = .ok (.lload 10, 2) := by decide +kernel
theorem dX1_seal_180 : decode cX1_seal 180 = .ok (.invokevirtual 130, 3) := by decide +kernel
theorem dX1_seal_183 : decode cX1_seal 183 = .ok (.lxor, 1) := by decide +kernel
theorem dX1_seal_184 : decode cX1_seal 184 = .ok (.lastore, 1) := by decide +kernel
theorem dX1_seal_185 : decode cX1_seal 185 = .ok (.aload_n 0, 1) := by decide +kernel
theorem dX1_seal_186 : decode cX1_seal 186 = .ok (.getfield 36, 3) := by decide +kernel
theorem dX1_seal_189 : decode cX1_seal 189 = .ok (.iload 12, 2) := by decide +kernel
theorem dX1_seal_191 : decode cX1_seal 191 = .ok (.iconst 5, 1) := by decide +kernel
theorem dX1_seal_192 : decode cX1_seal 192 = .ok (.iadd, 1) := by decide +kernel
theorem dX1_seal_193 : decode cX1_seal 193 = .ok (.aload_n 0, 1) := by decide +kernel
theorem dX1_seal_194 : decode cX1_seal 194 = .ok (.aload_n 0, 1) := by decide +kernel
theorem dX1_seal_195 : decode cX1_seal 195 = .ok (.getfield 90, 3) := by decide +kernel
theorem dX1_seal_198 : decode cX1_seal 198 = .ok (.invokevirtual 133, 3) := by decide +kernel
theorem dX1_seal_201 : decode cX1_seal 201 = .ok (.lastore, 1) := by decide +kernel
theorem dX1_seal_202 : decode cX1_seal 202 = .ok (.aload_n 0, 1) := by decide +kernel
theorem dX1_seal_203 : decode cX1_seal 203 = .ok (.dup, 1) := by decide +kernel
theorem dX1_seal_204 : decode cX1_seal 204 = .ok (.getfield 90, 3) := by decide +kernel
theorem dX1_seal_207 : decode cX1_seal 207 = .ok (.iconst 1, 1) := by decide +kernel
theorem dX1_seal_208 : decode cX1_seal 208 = .ok (.iadd, 1) := by decide +kernel
theorem dX1_seal_209 : decode cX1_seal 209 = .ok (.putfield 90, 3) := by decide +kernel
theorem dX1_seal_212 : decode cX1_seal 212 = .ok (.aload_n 0, 1) := by decide +kernel
theorem dX1_seal_213 : decode cX1_seal 213 = .ok (.getfield 90, 3) := by decide +kernel
theorem dX1_seal_216 : decode cX1_seal 216 = .ok (.iconst 1, 1) := by decide +kernel
theorem dX1_seal_217 : decode cX1_seal 217 = .ok (.isub, 1) := by decide +kernel
theorem dX1_seal_218 : decode cX1_seal 218 = .ok (.ireturn, 1) := by decide +kernel
set_option maxRecDepth 20000 in
theorem ggX1_unseal_X1_hasSession : GoodIn wsX1_unseal wsX1_hasSession := goodIn_r _ [9, 10, 79, 80, 81, 82, 83, 84, 85, 86, 87, 88, 89, 90, 91, 92, 93, 94, 95, 96, 97] (by decide +kernel) (by decide +kernel)
set_option maxRecDepth 20000 in
theorem gX1_unseal_X1_hasSession : GoodIn wsX1_unseal (wsV RX1 107 RX1 yX1_hasSession wsX1_hasSession) := goodIn_app (goodIn_of _ (by decide +kernel)) ggX1_unseal_X1_hasSession
set_option maxRecDepth 20000 in
theorem ggX1_unseal_X1_hasBlob : GoodIn wsX1_unseal wsX1_hasBlob := goodIn_r _ [14, 15, 79, 80, 81, 82, 83, 84, 85, 86, 87, 88, 89, 90, 91, 92, 93, 94, 95, 96, 97] (by decide +kernel) (by decide +kernel)
set_option maxRecDepth 20000 in
theorem gX1_unseal_X1_hasBlob : GoodIn wsX1_unseal (wsV RX1 110 RX1 yX1_hasBlob wsX1_hasBlob) := goodIn_app (goodIn_of _ (by decide +kernel)) ggX1_unseal_X1_hasBlob
set_option maxRecDepth 20000 in
theorem ggX1_unseal_X1_sealOf : GoodIn wsX1_unseal wsX1_sealOf := goodIn_r _ [19, 20, 2, 21, 22, 23, 24, 8, 25, 26, 27, 28, 29, 30, 31, 32, 79, 80, 81, 82, 83, 84, 85, 86, 87, 88, 89, 90, 91, 92, 93, 94, 95, 96, 97] (by decide +kernel) (by decide +kernel)
set_option maxRecDepth 20000 in
theorem gX1_unseal_X1_sealOf : GoodIn wsX1_unseal (wsV RX1 133 RX1 yX1_sealOf wsX1_sealOf) := goodIn_app (goodIn_of _ (by decide +kernel)) ggX1_unseal_X1_sealOf
set_option maxRecDepth 20000 in
theorem ggX1_unseal_X1_nameOf : GoodIn wsX1_unseal wsX1_nameOf := goodIn_r _ [36, 37, 38, 39, 40, 41, 8, 42, 21, 43, 44, 45, 46, 20, 28, 29, 30, 31, 32, 79, 80, 81, 82, 83, 84, 85, 86, 87, 88, 89, 90, 91, 92, 93, 94, 95, 96, 97] (by decide +kernel) (by decide +kernel)
set_option maxRecDepth 20000 in
theorem gX1_unseal_X1_nameOf : GoodIn wsX1_unseal (wsV RX1 104 RX1 yX1_nameOf wsX1_nameOf) := goodIn_app (goodIn_of _ (by decide +kernel)) ggX1_unseal_X1_nameOf
set_option maxRecDepth 20000 in
theorem ggX1_unseal_X1_proved : GoodIn wsX1_unseal wsX1_proved := goodIn_r _ [50, 51, 38, 52, 53, 1, 4, 54, 55, 56, 8, 57, 20, 58, 39, 40, 41, 42, 21, 43, 44, 45, 46, 28, 29, 30, 31, 32, 22, 23, 24, 25, 26, 27, 79, 80, 81, 82, 83, 84, 85, 86, 87, 88, 89, 90, 91, 92, 93, 94, 95, 96, 97] (by decide +kernel) (by decide +kernel)
set_option maxRecDepth 20000 in
theorem gX1_unseal_X1_proved : GoodIn wsX1_unseal (wsV RX1 126 RX1 yX1_proved wsX1_proved) := goodIn_app (goodIn_of _ (by decide +kernel)) ggX1_unseal_X1_proved
set_option maxRecDepth 20000 in
theorem ggX1_unseal_X1_isMask : GoodIn wsX1_unseal wsX1_isMask := goodIn_r _ [61, 62] (by decide +kernel) (by decide +kernel)
set_option maxRecDepth 20000 in
theorem gX1_unseal_X1_isMask : GoodIn wsX1_unseal (va_wsS RX1 83 yX1_isMask wsX1_isMask) := goodIn_app (goodIn_of _ (by decide +kernel)) ggX1_unseal_X1_isMask
set_option maxRecDepth 20000 in
theorem ggX1_unseal_X1_digestOf : GoodIn wsX1_unseal wsX1_digestOf := goodIn_r _ [66, 67, 20, 68, 69, 70, 8, 71, 72, 73, 74, 43, 44, 45, 46, 28, 29, 30, 31, 32, 79, 80, 81, 82, 83, 84, 85, 86, 87, 88, 89, 90, 91, 92, 93, 94, 95, 96, 97] (by decide +kernel) (by decide +kernel)
set_option maxRecDepth 20000 in
theorem gX1_unseal_X1_digestOf : GoodIn wsX1_unseal (wsV RX1 87 RX1 yX1_digestOf wsX1_digestOf) := goodIn_app (goodIn_of _ (by decide +kernel)) ggX1_unseal_X1_digestOf
set_option maxRecDepth 20000 in
theorem ggX1_unseal_X1_veil : GoodIn wsX1_unseal wsX1_veil := goodIn_r _ [78, 20, 21, 28, 29, 30, 8, 31, 32, 79, 80, 81, 82, 83, 84, 85, 86, 87, 88, 89, 90, 91, 92, 93, 94, 95, 96, 97] (by decide +kernel) (by decide +kernel)
set_option maxRecDepth 20000 in
theorem gX1_unseal_X1_veil : GoodIn wsX1_unseal (wsV RX1 130 RX1 yX1_veil wsX1_veil) := goodIn_app (goodIn_of _ (by decide +kernel)) ggX1_unseal_X1_veil
theorem dX1_unseal_0 : decode cX1_unseal 0 = .ok (.aload_n 0, 1) := by decide +kernel
theorem dX1_unseal_1 : decode cX1_unseal 1 = .ok (.iload_n 1, 1) := by decide +kernel
theorem dX1_unseal_2 : decode cX1_unseal 2 = .ok (.invokevirtual 107, 3) := by decide +kernel
theorem dX1_unseal_5 : decode cX1_unseal 5 = .ok (.ifCond .eq 11, 3) := by decide +kernel
theorem dX1_unseal_8 : decode cX1_unseal 8 = .ok (.aload_n 0, 1) := by decide +kernel
theorem dX1_unseal_9 : decode cX1_unseal 9 = .ok (.iload_n 2, 1) := by decide +kernel
theorem dX1_unseal_10 : decode cX1_unseal 10 = .ok (.invokevirtual 110, 3) := by decide +kernel
theorem dX1_unseal_13 : decode cX1_unseal 13 = .ok (.ifCond .ne 5, 3) := by decide +kernel
theorem dX1_unseal_16 : decode cX1_unseal 16 = .ok (.iconst (-1), 1) := by decide +kernel
theorem dX1_unseal_17 : decode cX1_unseal 17 = .ok (.ireturn, 1) := by decide +kernel
theorem dX1_unseal_18 : decode cX1_unseal 18 = .ok (.aload_n 0, 1) := by decide +kernel
theorem dX1_unseal_19 : decode cX1_unseal 19 = .ok (.getfield 120, 3) := by decide +kernel
theorem dX1_unseal_22 : decode cX1_unseal 22 = .ok (.iconst 3, 1) := by decide +kernel
theorem dX1_unseal_23 : decode cX1_unseal 23 = .ok (.if_icmp .lt 6, 3) := by decide +kernel
theorem dX1_unseal_26 : decode cX1_unseal 26 = .ok (.bipush (-2), 2) := by decide +kernel
theorem dX1_unseal_28 : decode cX1_unseal 28 = .ok (.ireturn, 1) := by decide +kernel
theorem dX1_unseal_29 : decode cX1_unseal 29 = .ok (.bipush 6, 2) := by decide +kernel
theorem dX1_unseal_31 : decode cX1_unseal 31 = .ok (.iload_n 2, 1) := by decide +kernel
theorem dX1_unseal_32 : decode cX1_unseal 32 = .ok (.imul, 1) := by decide +kernel
theorem dX1_unseal_33 : decode cX1_unseal 33 = .ok (.istore_n 3, 1) := by decide +kernel
theorem dX1_unseal_34 : decode cX1_unseal 34 = .ok (.aload_n 0, 1) := by decide +kernel
theorem dX1_unseal_35 : decode cX1_unseal 35 = .ok (.getfield 36, 3) := by decide +kernel
theorem dX1_unseal_38 : decode cX1_unseal 38 = .ok (.iload_n 3, 1) := by decide +kernel
theorem dX1_unseal_39 : decode cX1_unseal 39 = .ok (.iconst 5, 1) := by decide +kernel
theorem dX1_unseal_40 : decode cX1_unseal 40 = .ok (.iadd, 1) := by decide +kernel
theorem dX1_unseal_41 : decode cX1_unseal 41 = .ok (.laload, 1) := by decide +kernel
theorem dX1_unseal_42 : decode cX1_unseal 42 = .ok (.aload_n 0, 1) := by decide +kernel
theorem dX1_unseal_43 : decode cX1_unseal 43 = .ok (.iload_n 2, 1) := by decide +kernel
theorem dX1_unseal_44 : decode cX1_unseal 44 = .ok (.invokevirtual 133, 3) := by decide +kernel
theorem dX1_unseal_47 : decode cX1_unseal 47 = .ok (.lcmp, 1) := by decide +kernel
theorem dX1_unseal_48 : decode cX1_unseal 48 = .ok (.ifCond .eq 6, 3) := by decide +kernel
theorem dX1_unseal_51 : decode cX1_unseal 51 = .ok (.bipush (-3), 2) := by decide +kernel
theorem dX1_unseal_53 : decode cX1_unseal 53 = .ok (.ireturn, 1) := by decide +kernel
theorem dX1_unseal_54 : decode cX1_unseal 54 = .ok (.iconst (-1), 1) := by decide +kernel
theorem dX1_unseal_55 : decode cX1_unseal 55 = .ok (.istore 4, 2) := by decide +kernel
theorem dX1_unseal_57 : decode cX1_unseal 57 = .ok (.iconst 5, 1) := by decide +kernel
theorem dX1_unseal_58 : decode cX1_unseal 58 = .ok (.istore 5, 2) := by decide +kernel
theorem dX1_unseal_60 : decode cX1_unseal 60 = .ok (.iload 5, 2) := by decide +kernel
theorem dX1_unseal_62 : decode cX1_unseal 62 = .ok (.ifCond .lt 44, 3) := by decide +kernel
theorem dX1_unseal_65 : decode cX1_unseal 65 = .ok (.aload_n 0, 1) := by decide +kernel
theorem dX1_unseal_66 : decode cX1_unseal 66 = .ok (.getfield 17, 3) := by decide +kernel
theorem dX1_unseal_69 : decode cX1_unseal 69 = .ok (.iload 5, 2) := by decide +kernel
theorem dX1_unseal_71 : decode cX1_unseal 71 = .ok (.baload, 1) := by decide +kernel
theorem dX1_unseal_72 : decode cX1_unseal 72 = .ok (.ifCond .eq 24, 3) := by decide +kernel
theorem dX1_unseal_75 : decode cX1_unseal 75 = .ok (.aload_n 0, 1) := by decide +kernel
theorem dX1_unseal_76 : decode cX1_unseal 76 = .ok (.iload 5, 2) := by decide +kernel
theorem dX1_unseal_78 : decode cX1_unseal 78 = .ok (.invokevirtual 104, 3) := by decide +kernel
theorem dX1_unseal_81 : decode cX1_unseal 81 = .ok (.aload_n 0, 1) := by decide +kernel
theorem dX1_unseal_82 : decode cX1_unseal 82 = .ok (.getfield 36, 3) := by decide +kernel
theorem dX1_unseal_85 : decode cX1_unseal 85 = .ok (.iload_n 3, 1) := by decide +kernel
theorem dX1_unseal_86 : decode cX1_unseal 86 = .ok (.laload, 1) := by decide +kernel
theorem dX1_unseal_87 : decode cX1_unseal 87 = .ok (.lcmp, 1) := by decide +kernel
theorem dX1_unseal_88 : decode cX1_unseal 88 = .ok (.ifCond .ne 8, 3) := by decide +kernel
theorem dX1_unseal_91 : decode cX1_unseal 91 = .ok (.iload 5, 2) := by decide +kernel
theorem dX1_unseal_93 : decode cX1_unseal 93 = .ok (.goto 5, 3) := by decide +kernel
theorem dX1_unseal_96 : decode cX1_unseal 96 = .ok (.iload 4, 2) := by decide +kernel
theorem dX1_unseal_98 : decode cX1_unseal 98 = .ok (.istore 4, 2) := by decide +kernel
theorem dX1_unseal_100 : decode cX1_unseal 100 = .ok (.iinc 5 (-1), 3) := by decide +kernel
theorem dX1_unseal_103 : decode cX1_unseal 103 = .ok (.goto (-43), 3) := by decide +kernel
theorem dX1_unseal_106 : decode cX1_unseal 106 = .ok (.iload 4, 2) := by decide +kernel
theorem dX1_unseal_108 : decode cX1_unseal 108 = .ok (.ifCond .ge 6, 3) := by decide +kernel
theorem dX1_unseal_111 : decode cX1_unseal 111 = .ok (.bipush (-4), 2) := by decide +kernel
theorem dX1_unseal_113 : decode cX1_unseal 113 = .ok (.ireturn, 1) := by decide +kernel
theorem dX1_unseal_114 : decode cX1_unseal 114 = .ok (.aload_n 0, 1) := by decide +kernel
theorem dX1_unseal_115 : decode cX1_unseal 115 = .ok (.iload_n 1, 1) := by decide +kernel
theorem dX1_unseal_116 : decode cX1_unseal 116 = .ok (.iload 4, 2) := by decide +kernel
theorem dX1_unseal_118 : decode cX1_unseal 118 = .ok (.iconst 2, 1) := by decide +kernel
theorem dX1_unseal_119 : decode cX1_unseal 119 = .ok (.aload_n 0, 1) := by decide +kernel
theorem dX1_unseal_120 : decode cX1_unseal 120 = .ok (.getfield 36, 3) := by decide +kernel
theorem dX1_unseal_123 : decode cX1_unseal 123 = .ok (.iload_n 3, 1) := by decide +kernel
theorem dX1_unseal_124 : decode cX1_unseal 124 = .ok (.iconst 5, 1) := by decide +kernel
theorem dX1_unseal_125 : decode cX1_unseal 125 = .ok (.iadd, 1) := by decide +kernel
theorem dX1_unseal_126 : decode cX1_unseal 126 = .ok (.laload, 1) := by decide +kernel
theorem dX1_unseal_127 : decode cX1_unseal 127 = .ok (.invokevirtual 126, 3) := by decide +kernel
theorem dX1_unseal_130 : decode cX1_unseal 130 = .ok (.ifCond .ne 6, 3) := by decide +kernel
theorem dX1_unseal_133 : decode cX1_unseal 133 = .ok (.bipush (-6), 2) := by decide +kernel
theorem dX1_unseal_135 : decode cX1_unseal 135 = .ok (.ireturn, 1) := by decide +kernel
theorem dX1_unseal_136 : decode cX1_unseal 136 = .ok (.aload_n 0, 1) := by decide +kernel
theorem dX1_unseal_137 : decode cX1_unseal 137 = .ok (.getfield 36, 3) := by decide +kernel
theorem dX1_unseal_140 : decode cX1_unseal 140 = .ok (.iload_n 3, 1) := by decide +kernel
theorem dX1_unseal_141 : decode cX1_unseal 141 = .ok (.iconst 1, 1) := by decide +kernel
theorem dX1_unseal_142 : decode cX1_unseal 142 = .ok (.iadd, 1) := by decide +kernel
theorem dX1_unseal_143 : decode cX1_unseal 143 = .ok (.laload, 1) := by decide +kernel
theorem dX1_unseal_144 : decode cX1_unseal 144 = .ok (.lstore 5, 2) := by decide +kernel
theorem dX1_unseal_146 : decode cX1_unseal 146 = .ok (.lload 5, 2) := by decide +kernel
theorem dX1_unseal_148 : decode cX1_unseal 148 = .ok (.invokestatic 83, 3) := by decide +kernel
theorem dX1_unseal_151 : decode cX1_unseal 151 = .ok (.ifCond .eq 22, 3) := by decide +kernel
theorem dX1_unseal_154 : decode cX1_unseal 154 = .ok (.aload_n 0, 1) := by decide +kernel
theorem dX1_unseal_155 : decode cX1_unseal 155 = .ok (.lload 5, 2) := by decide +kernel
theorem dX1_unseal_157 : decode cX1_unseal 157 = .ok (.l2i, 1) := by decide +kernel
theorem dX1_unseal_158 : decode cX1_unseal 158 = .ok (.invokevirtual 87, 3) := by decide +kernel
theorem dX1_unseal_161 : decode cX1_unseal 161 = .ok (.aload_n 0, 1) := by decide +kernel
theorem dX1_unseal_162 : decode cX1_unseal 162 = .ok (.getfield 36, 3) := by decide +kernel
theorem dX1_unseal_165 : decode cX1_unseal 165 = .ok (.iload_n 3, 1) := by decide +kernel
theorem dX1_unseal_166 : decode cX1_unseal 166 = .ok (.iconst 2, 1) := by decide +kernel
theorem dX1_unseal_167 : decode cX1_unseal 167 = .ok (.iadd, 1) := by decide +kernel
theorem dX1_unseal_168 : decode cX1_unseal 168 = .ok (.laload, 1) := by decide +kernel
theorem dX1_unseal_169 : decode cX1_unseal 169 = .ok (.lcmp, 1) := by decide +kernel
theorem dX1_unseal_170 : decode cX1_unseal 170 = .ok (.ifCond .eq 11, 3) := by decide +kernel
theorem dX1_unseal_173 : decode cX1_unseal 173 = .ok (.aload_n 0, 1) := by decide +kernel
theorem dX1_unseal_174 : decode cX1_unseal 174 = .ok (.lconst 0, 1) := by decide +kernel
theorem dX1_unseal_175 : decode cX1_unseal 175 = .ok (.putfield 123, 3) := by decide +kernel
theorem dX1_unseal_178 : decode cX1_unseal 178 = .ok (.bipush (-7), 2) := by decide +kernel
theorem dX1_unseal_180 : decode cX1_unseal 180 = .ok (.ireturn, 1) := by decide +kernel
theorem dX1_unseal_181 : decode cX1_unseal 181 = .ok (.aload_n 0, 1) := by decide +kernel
theorem dX1_unseal_182 : decode cX1_unseal 182 = .ok (.aload_n 0, 1) := by decide +kernel
theorem dX1_unseal_183 : decode cX1_unseal 183 = .ok (.getfield 36, 3) := by decide +kernel
theorem dX1_unseal_186 : decode cX1_unseal 186 = .ok (.iload_n 3, 1) := by decide +kernel
theorem dX1_unseal_187 : decode cX1_unseal 187 = .ok (.iconst 4, 1) := by decide +kernel
theorem dX1_unseal_188 : decode cX1_unseal 188 = .ok (.iadd, 1) := by decide +kernel
theorem dX1_unseal_189 : decode cX1_unseal 189 = .ok (.laload, 1) := by decide +kernel
theorem dX1_unseal_190 : decode cX1_unseal 190 = .ok (.aload_n 0, 1) := by decide +kernel
theorem dX1_unseal_191 : decode cX1_unseal 191 = .ok (.aload_n 0, 1) := by decide +kernel
theorem dX1_unseal_192 : decode cX1_unseal 192 = .ok (.getfield 36, 3) := by decide +kernel
theorem dX1_unseal_195 : decode cX1_unseal 195 = .ok (.iload_n 3, 1) := by decide +kernel
theorem dX1_unseal_196 : decode cX1_unseal 196 = .ok (.iconst 3, 1) := by decide +kernel
theorem dX1_unseal_197 : decode cX1_unseal 197 = .ok (.iadd, 1) := by decide +kernel
theorem dX1_unseal_198 : decode cX1_unseal 198 = .ok (.laload, 1) := by decide +kernel
theorem dX1_unseal_199 : decode cX1_unseal 199 = .ok (.aload_n 0, 1) := by decide +kernel
theorem dX1_unseal_200 : decode cX1_unseal 200 = .ok (.getfield 36, 3) := by decide +kernel
theorem dX1_unseal_203 : decode cX1_unseal 203 = .ok (.iload_n 3, 1) := by decide +kernel
theorem dX1_unseal_204 : decode cX1_unseal 204 = .ok (.iconst 2, 1) := by decide +kernel
theorem dX1_unseal_205 : decode cX1_unseal 205 = .ok (.iadd, 1) := by decide +kernel
theorem dX1_unseal_206 : decode cX1_unseal 206 = .ok (.laload, 1) := by decide +kernel
theorem dX1_unseal_207 : decode cX1_unseal 207 = .ok (.invokevirtual 130, 3) := by decide +kernel
theorem dX1_unseal_210 : decode cX1_unseal 210 = .ok (.lxor, 1) := by decide +kernel
theorem dX1_unseal_211 : decode cX1_unseal 211 = .ok (.putfield 123, 3) := by decide +kernel
theorem dX1_unseal_214 : decode cX1_unseal 214 = .ok (.iconst 0, 1) := by decide +kernel
theorem dX1_unseal_215 : decode cX1_unseal 215 = .ok (.ireturn, 1) := by decide +kernel
set_option maxRecDepth 20000 in
theorem ggX1_quote_X1_hasSession : GoodIn wsX1_quote wsX1_hasSession := goodIn_r _ [9, 10, 64, 65, 66, 67, 68, 69, 70, 71, 72, 73, 74, 75, 76, 77, 78, 79, 80, 81, 82] (by decide +kernel) (by decide +kernel)
set_option maxRecDepth 20000 in
theorem gX1_quote_X1_hasSession : GoodIn wsX1_quote (wsV RX1 107 RX1 yX1_hasSession wsX1_hasSession) := goodIn_app (goodIn_of _ (by decide +kernel)) ggX1_quote_X1_hasSession
set_option maxRecDepth 20000 in
theorem ggX1_quote_X1_hasKey : GoodIn wsX1_quote wsX1_hasKey := goodIn_r _ [14, 15, 64, 65, 66, 67, 68, 69, 70, 71, 72, 73, 74, 75, 76, 77, 78, 79, 80, 81, 82] (by decide +kernel) (by decide +kernel)
set_option maxRecDepth 20000 in
theorem gX1_quote_X1_hasKey : GoodIn wsX1_quote (wsV RX1 96 RX1 yX1_hasKey wsX1_hasKey) := goodIn_app (goodIn_of _ (by decide +kernel)) ggX1_quote_X1_hasKey
set_option maxRecDepth 20000 in
theorem ggX1_quote_X1_isMask : GoodIn wsX1_quote wsX1_isMask := goodIn_r _ [18, 19] (by decide +kernel) (by decide +kernel)
set_option maxRecDepth 20000 in
theorem gX1_quote_X1_isMask : GoodIn wsX1_quote (va_wsS RX1 83 yX1_isMask wsX1_isMask) := goodIn_app (goodIn_of _ (by decide +kernel)) ggX1_quote_X1_isMask
set_option maxRecDepth 20000 in
theorem ggX1_quote_X1_two : GoodIn wsX1_quote wsX1_two := goodIn_r _ [23, 2, 24, 25, 26, 8, 27, 28, 64, 65, 66, 67, 68, 69, 70, 71, 72, 73, 74, 75, 76, 77, 78, 79, 80, 81, 82] (by decide +kernel) (by decide +kernel)
set_option maxRecDepth 20000 in
theorem gX1_quote_X1_two : GoodIn wsX1_quote (wsV RX1 59 RX1 yX1_two wsX1_two) := goodIn_app (goodIn_of _ (by decide +kernel)) ggX1_quote_X1_two
set_option maxRecDepth 20000 in
theorem ggX1_quote_X1_proved : GoodIn wsX1_quote wsX1_proved := goodIn_r _ [32, 33, 3, 34, 35, 1, 4, 36, 37, 38, 8, 39, 2, 40, 41, 42, 43, 44, 45, 20, 21, 22, 23, 24, 25, 26, 27, 28, 46, 47, 48, 49, 50, 51, 64, 65, 66, 67, 68, 69, 70, 71, 72, 73, 74, 75, 76, 77, 78, 79, 80, 81, 82] (by decide +kernel) (by decide +kernel)
set_option maxRecDepth 20000 in
theorem gX1_quote_X1_proved : GoodIn wsX1_quote (wsV RX1 126 RX1 yX1_proved wsX1_proved) := goodIn_app (goodIn_of _ (by decide +kernel)) ggX1_quote_X1_proved
set_option maxRecDepth 20000 in
theorem ggX1_quote_X1_digestOf : GoodIn wsX1_quote wsX1_digestOf := goodIn_r _ [55, 56, 2, 57, 58, 59, 8, 60, 61, 62, 63, 20, 21, 22, 23, 24, 25, 26, 27, 28, 64, 65, 66, 67, 68, 69, 70, 71, 72, 73, 74, 75, 76, 77, 78, 79, 80, 81, 82] (by decide +kernel) (by decide +kernel)
set_option maxRecDepth 20000 in
theorem gX1_quote_X1_digestOf : GoodIn wsX1_quote (wsV RX1 87 RX1 yX1_digestOf wsX1_digestOf) := goodIn_app (goodIn_of _ (by decide +kernel)) ggX1_quote_X1_digestOf
set_option maxRecDepth 20000 in
theorem ggX1_quote_X1_code : GoodIn wsX1_quote wsX1_code := goodIn_r _ [49, 2, 50, 51, 24, 25, 26, 8, 27, 28, 64, 65, 66, 67, 68, 69, 70, 71, 72, 73, 74, 75, 76, 77, 78, 79, 80, 81, 82] (by decide +kernel) (by decide +kernel)
set_option maxRecDepth 20000 in
theorem gX1_quote_X1_code : GoodIn wsX1_quote (wsV RX1 70 RX1 yX1_code wsX1_code) := goodIn_app (goodIn_of _ (by decide +kernel)) ggX1_quote_X1_code
theorem dX1_quote_0 : decode cX1_quote 0 = .ok (.aload_n 0, 1) := by decide +kernel
theorem dX1_quote_1 : decode cX1_quote 1 = .ok (.iload_n 1, 1) := by decide +kernel
theorem dX1_quote_2 : decode cX1_quote 2 = .ok (.invokevirtual 107, 3) := by decide +kernel
theorem dX1_quote_5 : decode cX1_quote 5 = .ok (.ifCond .eq 19, 3) := by decide +kernel
theorem dX1_quote_8 : decode cX1_quote 8 = .ok (.aload_n 0, 1) := by decide +kernel
theorem dX1_quote_9 : decode cX1_quote 9 = .ok (.iload_n 2, 1) := by decide +kernel
theorem dX1_quote_10 : decode cX1_quote 10 = .ok (.invokevirtual 96, 3) := by decide +kernel
theorem dX1_quote_13 : decode cX1_quote 13 = .ok (.ifCond .eq 11, 3) := by decide +kernel
theorem dX1_quote_16 : decode cX1_quote 16 = .ok (.iload_n 3, 1) := by decide +kernel
theorem dX1_quote_17 : decode cX1_quote 17 = .ok (.i2l, 1) := by decide +kernel
theorem dX1_quote_18 : decode cX1_quote 18 = .ok (.invokestatic 83, 3) := by decide +kernel
theorem dX1_quote_21 : decode cX1_quote 21 = .ok (.ifCond .ne 5, 3) := by decide +kernel
theorem dX1_quote_24 : decode cX1_quote 24 = .ok (.iconst (-1), 1) := by decide +kernel
theorem dX1_quote_25 : decode cX1_quote 25 = .ok (.ireturn, 1) := by decide +kernel
theorem dX1_quote_26 : decode cX1_quote 26 = .ok (.aload_n 0, 1) := by decide +kernel
theorem dX1_quote_27 : decode cX1_quote 27 = .ok (.getfield 120, 3) := by decide +kernel
theorem dX1_quote_30 : decode cX1_quote 30 = .ok (.iconst 3, 1) := by decide +kernel
theorem dX1_quote_31 : decode cX1_quote 31 = .ok (.if_icmp .lt 6, 3) := by decide +kernel
theorem dX1_quote_34 : decode cX1_quote 34 = .ok (.bipush (-2), 2) := by decide +kernel
theorem dX1_quote_36 : decode cX1_quote 36 = .ok (.ireturn, 1) := by decide +kernel
theorem dX1_quote_37 : decode cX1_quote 37 = .ok (.aload_n 0, 1) := by decide +kernel
theorem dX1_quote_38 : decode cX1_quote 38 = .ok (.iload_n 3, 1) := by decide +kernel
theorem dX1_quote_39 : decode cX1_quote 39 = .ok (.i2l, 1) := by decide +kernel
theorem dX1_quote_40 : decode cX1_quote 40 = .ok (.lload 4, 2) := by decide +kernel
theorem dX1_quote_42 : decode cX1_quote 42 = .ok (.invokevirtual 59, 3) := by decide +kernel
theorem dX1_quote_45 : decode cX1_quote 45 = .ok (.lstore 6, 2) := by decide +kernel
theorem dX1_quote_47 : decode cX1_quote 47 = .ok (.aload_n 0, 1) := by decide +kernel
theorem dX1_quote_48 : decode cX1_quote 48 = .ok (.iload_n 1, 1) := by decide +kernel
theorem dX1_quote_49 : decode cX1_quote 49 = .ok (.iload_n 2, 1) := by decide +kernel
theorem dX1_quote_50 : decode cX1_quote 50 = .ok (.iconst 3, 1) := by decide +kernel
theorem dX1_quote_51 : decode cX1_quote 51 = .ok (.lload 6, 2) := by decide +kernel
theorem dX1_quote_53 : decode cX1_quote 53 = .ok (.invokevirtual 126, 3) := by decide +kernel
theorem dX1_quote_56 : decode cX1_quote 56 = .ok (.ifCond .ne 6, 3) := by decide +kernel
theorem dX1_quote_59 : decode cX1_quote 59 = .ok (.bipush (-6), 2) := by decide +kernel
theorem dX1_quote_61 : decode cX1_quote 61 = .ok (.ireturn, 1) := by decide +kernel
theorem dX1_quote_62 : decode cX1_quote 62 = .ok (.aload_n 0, 1) := by decide +kernel
theorem dX1_quote_63 : decode cX1_quote 63 = .ok (.iload_n 3, 1) := by decide +kernel
theorem dX1_quote_64 : decode cX1_quote 64 = .ok (.invokevirtual 87, 3) := by decide +kernel
theorem dX1_quote_67 : decode cX1_quote 67 = .ok (.lstore 8, 2) := by decide +kernel
theorem dX1_quote_69 : decode cX1_quote 69 = .ok (.aload_n 0, 1) := by decide +kernel
theorem dX1_quote_70 : decode cX1_quote 70 = .ok (.getfield 39, 3) := by decide +kernel
theorem dX1_quote_73 : decode cX1_quote 73 = .ok (.iconst 1, 1) := by decide +kernel
theorem dX1_quote_74 : decode cX1_quote 74 = .ok (.iload_n 3, 1) := by decide +kernel
theorem dX1_quote_75 : decode cX1_quote 75 = .ok (.i2l, 1) := by decide +kernel
theorem dX1_quote_76 : decode cX1_quote 76 = .ok (.lastore, 1) := by decide +kernel
theorem dX1_quote_77 : decode cX1_quote 77 = .ok (.aload_n 0, 1) := by decide +kernel
theorem dX1_quote_78 : decode cX1_quote 78 = .ok (.getfield 39, 3) := by decide +kernel
theorem dX1_quote_81 : decode cX1_quote 81 = .ok (.iconst 2, 1) := by decide +kernel
theorem dX1_quote_82 : decode cX1_quote 82 = .ok (.lload 8, 2) := by decide +kernel
theorem dX1_quote_84 : decode cX1_quote 84 = .ok (.lastore, 1) := by decide +kernel
theorem dX1_quote_85 : decode cX1_quote 85 = .ok (.aload_n 0, 1) := by decide +kernel
theorem dX1_quote_86 : decode cX1_quote 86 = .ok (.getfield 39, 3) := by decide +kernel
theorem dX1_quote_89 : decode cX1_quote 89 = .ok (.iconst 3, 1) := by decide +kernel
theorem dX1_quote_90 : decode cX1_quote 90 = .ok (.lload 4, 2) := by decide +kernel
theorem dX1_quote_92 : decode cX1_quote 92 = .ok (.lastore, 1) := by decide +kernel
theorem dX1_quote_93 : decode cX1_quote 93 = .ok (.aload_n 0, 1) := by decide +kernel
theorem dX1_quote_94 : decode cX1_quote 94 = .ok (.aload_n 0, 1) := by decide +kernel
theorem dX1_quote_95 : decode cX1_quote 95 = .ok (.aload_n 0, 1) := by decide +kernel
theorem dX1_quote_96 : decode cX1_quote 96 = .ok (.getfield 21, 3) := by decide +kernel
theorem dX1_quote_99 : decode cX1_quote 99 = .ok (.iload_n 2, 1) := by decide +kernel
theorem dX1_quote_100 : decode cX1_quote 100 = .ok (.laload, 1) := by decide +kernel
theorem dX1_quote_101 : decode cX1_quote 101 = .ok (.iconst 3, 1) := by decide +kernel
theorem dX1_quote_102 : decode cX1_quote 102 = .ok (.invokevirtual 70, 3) := by decide +kernel
theorem dX1_quote_105 : decode cX1_quote 105 = .ok (.putfield 123, 3) := by decide +kernel
theorem dX1_quote_108 : decode cX1_quote 108 = .ok (.iconst 0, 1) := by decide +kernel
theorem dX1_quote_109 : decode cX1_quote 109 = .ok (.ireturn, 1) := by decide +kernel
theorem dX1_output_0 : decode cX1_output 0 = .ok (.aload_n 0, 1) := by decide +kernel
theorem dX1_output_1 : decode cX1_output 1 = .ok (.getfield 123, 3) := by decide +kernel
theorem dX1_output_4 : decode cX1_output 4 = .ok (.lreturn, 1) := by decide +kernel
set_option maxRecDepth 20000 in
theorem ggX1_blob_X1_hasBlob : GoodIn wsX1_blob wsX1_hasBlob := goodIn_r _ [6, 7, 8, 9, 10, 11, 12, 13, 14, 15, 16, 17, 18, 19, 20, 21, 22, 23, 24, 25, 26] (by decide +kernel) (by decide +kernel)
set_option maxRecDepth 20000 in
theorem gX1_blob_X1_hasBlob : GoodIn wsX1_blob (wsV RX1 110 RX1 yX1_hasBlob wsX1_hasBlob) := goodIn_app (goodIn_of _ (by decide +kernel)) ggX1_blob_X1_hasBlob
theorem dX1_blob_0 : decode cX1_blob 0 = .ok (.aload_n 0, 1) := by decide +kernel
theorem dX1_blob_1 : decode cX1_blob 1 = .ok (.iload_n 1, 1) := by decide +kernel
theorem dX1_blob_2 : decode cX1_blob 2 = .ok (.invokevirtual 110, 3) := by decide +kernel
theorem dX1_blob_5 : decode cX1_blob 5 = .ok (.ifCond .eq 26, 3) := by decide +kernel
theorem dX1_blob_8 : decode cX1_blob 8 = .ok (.iload_n 2, 1) := by decide +kernel
theorem dX1_blob_9 : decode cX1_blob 9 = .ok (.ifCond .lt 22, 3) := by decide +kernel
theorem dX1_blob_12 : decode cX1_blob 12 = .ok (.iload_n 2, 1) := by decide +kernel
theorem dX1_blob_13 : decode cX1_blob 13 = .ok (.iconst 5, 1) := by decide +kernel
theorem dX1_blob_14 : decode cX1_blob 14 = .ok (.if_icmp .gt 17, 3) := by decide +kernel
theorem dX1_blob_17 : decode cX1_blob 17 = .ok (.aload_n 0, 1) := by decide +kernel
theorem dX1_blob_18 : decode cX1_blob 18 = .ok (.getfield 36, 3) := by decide +kernel
theorem dX1_blob_21 : decode cX1_blob 21 = .ok (.bipush 6, 2) := by decide +kernel
theorem dX1_blob_23 : decode cX1_blob 23 = .ok (.iload_n 1, 1) := by decide +kernel
theorem dX1_blob_24 : decode cX1_blob 24 = .ok (.imul, 1) := by decide +kernel
theorem dX1_blob_25 : decode cX1_blob 25 = .ok (.iload_n 2, 1) := by decide +kernel
theorem dX1_blob_26 : decode cX1_blob 26 = .ok (.iadd, 1) := by decide +kernel
theorem dX1_blob_27 : decode cX1_blob 27 = .ok (.laload, 1) := by decide +kernel
theorem dX1_blob_28 : decode cX1_blob 28 = .ok (.goto 4, 3) := by decide +kernel
theorem dX1_blob_31 : decode cX1_blob 31 = .ok (.lconst 0, 1) := by decide +kernel
theorem dX1_blob_32 : decode cX1_blob 32 = .ok (.lreturn, 1) := by decide +kernel
set_option maxRecDepth 20000 in
theorem ggX1_change_X1_hasBlob : GoodIn wsX1_change wsX1_hasBlob := goodIn_r _ [6, 7, 8, 9, 10, 11, 12, 13, 14, 15, 16, 17, 18, 19, 20, 21, 22, 23, 24, 25, 26] (by decide +kernel) (by decide +kernel)
set_option maxRecDepth 20000 in
theorem gX1_change_X1_hasBlob : GoodIn wsX1_change (wsV RX1 110 RX1 yX1_hasBlob wsX1_hasBlob) := goodIn_app (goodIn_of _ (by decide +kernel)) ggX1_change_X1_hasBlob
theorem dX1_change_0 : decode cX1_change 0 = .ok (.aload_n 0, 1) := by decide +kernel
theorem dX1_change_1 : decode cX1_change 1 = .ok (.iload_n 1, 1) := by decide +kernel
theorem dX1_change_2 : decode cX1_change 2 = .ok (.invokevirtual 110, 3) := by decide +kernel
theorem dX1_change_5 : decode cX1_change 5 = .ok (.ifCond .eq 12, 3) := by decide +kernel
theorem dX1_change_8 : decode cX1_change 8 = .ok (.iload_n 2, 1) := by decide +kernel
theorem dX1_change_9 : decode cX1_change 9 = .ok (.ifCond .lt 8, 3) := by decide +kernel
theorem dX1_change_12 : decode cX1_change 12 = .ok (.iload_n 2, 1) := by decide +kernel
theorem dX1_change_13 : decode cX1_change 13 = .ok (.iconst 5, 1) := by decide +kernel
theorem dX1_change_14 : decode cX1_change 14 = .ok (.if_icmp .le 5, 3) := by decide +kernel
theorem dX1_change_17 : decode cX1_change 17 = .ok (.iconst 0, 1) := by decide +kernel
theorem dX1_change_18 : decode cX1_change 18 = .ok (.ireturn, 1) := by decide +kernel
theorem dX1_change_19 : decode cX1_change 19 = .ok (.aload_n 0, 1) := by decide +kernel
theorem dX1_change_20 : decode cX1_change 20 = .ok (.getfield 36, 3) := by decide +kernel
theorem dX1_change_23 : decode cX1_change 23 = .ok (.bipush 6, 2) := by decide +kernel
theorem dX1_change_25 : decode cX1_change 25 = .ok (.iload_n 1, 1) := by decide +kernel
theorem dX1_change_26 : decode cX1_change 26 = .ok (.imul, 1) := by decide +kernel
theorem dX1_change_27 : decode cX1_change 27 = .ok (.iload_n 2, 1) := by decide +kernel
theorem dX1_change_28 : decode cX1_change 28 = .ok (.iadd, 1) := by decide +kernel
theorem dX1_change_29 : decode cX1_change 29 = .ok (.lload_n 3, 1) := by decide +kernel
theorem dX1_change_30 : decode cX1_change 30 = .ok (.lastore, 1) := by decide +kernel
theorem dX1_change_31 : decode cX1_change 31 = .ok (.iconst 1, 1) := by decide +kernel
theorem dX1_change_32 : decode cX1_change 32 = .ok (.ireturn, 1) := by decide +kernel
theorem dX1_reboot_0 : decode cX1_reboot 0 = .ok (.aload_n 0, 1) := by decide +kernel
theorem dX1_reboot_1 : decode cX1_reboot 1 = .ok (.iconst 0, 1) := by decide +kernel
theorem dX1_reboot_2 : decode cX1_reboot 2 = .ok (.putfield 63, 3) := by decide +kernel
theorem dX1_reboot_5 : decode cX1_reboot 5 = .ok (.aload_n 0, 1) := by decide +kernel
theorem dX1_reboot_6 : decode cX1_reboot 6 = .ok (.iconst 0, 1) := by decide +kernel
theorem dX1_reboot_7 : decode cX1_reboot 7 = .ok (.putfield 74, 3) := by decide +kernel
theorem dX1_reboot_10 : decode cX1_reboot 10 = .ok (.aload_n 0, 1) := by decide +kernel
theorem dX1_reboot_11 : decode cX1_reboot 11 = .ok (.iconst 0, 1) := by decide +kernel
theorem dX1_reboot_12 : decode cX1_reboot 12 = .ok (.putfield 120, 3) := by decide +kernel
theorem dX1_reboot_15 : decode cX1_reboot 15 = .ok (.aload_n 0, 1) := by decide +kernel
theorem dX1_reboot_16 : decode cX1_reboot 16 = .ok (.lconst 0, 1) := by decide +kernel
theorem dX1_reboot_17 : decode cX1_reboot 17 = .ok (.putfield 123, 3) := by decide +kernel
theorem dX1_reboot_20 : decode cX1_reboot 20 = .ok (.iconst 0, 1) := by decide +kernel
theorem dX1_reboot_21 : decode cX1_reboot 21 = .ok (.istore_n 1, 1) := by decide +kernel
theorem dX1_reboot_22 : decode cX1_reboot 22 = .ok (.iload_n 1, 1) := by decide +kernel
theorem dX1_reboot_23 : decode cX1_reboot 23 = .ok (.iconst 4, 1) := by decide +kernel
theorem dX1_reboot_24 : decode cX1_reboot 24 = .ok (.if_icmp .ge 16, 3) := by decide +kernel
theorem dX1_reboot_27 : decode cX1_reboot 27 = .ok (.aload_n 0, 1) := by decide +kernel
theorem dX1_reboot_28 : decode cX1_reboot 28 = .ok (.getfield 27, 3) := by decide +kernel
theorem dX1_reboot_31 : decode cX1_reboot 31 = .ok (.iload_n 1, 1) := by decide +kernel
theorem dX1_reboot_32 : decode cX1_reboot 32 = .ok (.iconst 0, 1) := by decide +kernel
theorem dX1_reboot_33 : decode cX1_reboot 33 = .ok (.bastore, 1) := by decide +kernel
theorem dX1_reboot_34 : decode cX1_reboot 34 = .ok (.iinc 1 1, 3) := by decide +kernel
theorem dX1_reboot_37 : decode cX1_reboot 37 = .ok (.goto (-15), 3) := by decide +kernel
theorem dX1_reboot_40 : decode cX1_reboot 40 = .ok (.return_, 1) := by decide +kernel
theorem dX1_failures_0 : decode cX1_failures 0 = .ok (.aload_n 0, 1) := by decide +kernel
theorem dX1_failures_1 : decode cX1_failures 1 = .ok (.getfield 120, 3) := by decide +kernel
theorem dX1_failures_4 : decode cX1_failures 4 = .ok (.ireturn, 1) := by decide +kernel
theorem dJ6_bitCount_0f7a4_0 : decode cJ6_bitCount_0f7a4 0 = .ok (.iload_n 0, 1) := by decide +kernel
theorem dJ6_bitCount_0f7a4_1 : decode cJ6_bitCount_0f7a4 1 = .ok (.iload_n 0, 1) := by decide +kernel
theorem dJ6_bitCount_0f7a4_2 : decode cJ6_bitCount_0f7a4 2 = .ok (.iconst 1, 1) := by decide +kernel
theorem dJ6_bitCount_0f7a4_3 : decode cJ6_bitCount_0f7a4 3 = .ok (.iushr, 1) := by decide +kernel
theorem dJ6_bitCount_0f7a4_4 : decode cJ6_bitCount_0f7a4 4 = .ok (.ldc_w 265, 3) := by decide +kernel
theorem dJ6_bitCount_0f7a4_7 : decode cJ6_bitCount_0f7a4 7 = .ok (.iand, 1) := by decide +kernel
theorem dJ6_bitCount_0f7a4_8 : decode cJ6_bitCount_0f7a4 8 = .ok (.isub, 1) := by decide +kernel
theorem dJ6_bitCount_0f7a4_9 : decode cJ6_bitCount_0f7a4 9 = .ok (.istore_n 0, 1) := by decide +kernel
theorem dJ6_bitCount_0f7a4_10 : decode cJ6_bitCount_0f7a4 10 = .ok (.iload_n 0, 1) := by decide +kernel
theorem dJ6_bitCount_0f7a4_11 : decode cJ6_bitCount_0f7a4 11 = .ok (.ldc_w 266, 3) := by decide +kernel
theorem dJ6_bitCount_0f7a4_14 : decode cJ6_bitCount_0f7a4 14 = .ok (.iand, 1) := by decide +kernel
theorem dJ6_bitCount_0f7a4_15 : decode cJ6_bitCount_0f7a4 15 = .ok (.iload_n 0, 1) := by decide +kernel
theorem dJ6_bitCount_0f7a4_16 : decode cJ6_bitCount_0f7a4 16 = .ok (.iconst 2, 1) := by decide +kernel
theorem dJ6_bitCount_0f7a4_17 : decode cJ6_bitCount_0f7a4 17 = .ok (.iushr, 1) := by decide +kernel
theorem dJ6_bitCount_0f7a4_18 : decode cJ6_bitCount_0f7a4 18 = .ok (.ldc_w 266, 3) := by decide +kernel
theorem dJ6_bitCount_0f7a4_21 : decode cJ6_bitCount_0f7a4 21 = .ok (.iand, 1) := by decide +kernel
theorem dJ6_bitCount_0f7a4_22 : decode cJ6_bitCount_0f7a4 22 = .ok (.iadd, 1) := by decide +kernel
theorem dJ6_bitCount_0f7a4_23 : decode cJ6_bitCount_0f7a4 23 = .ok (.istore_n 0, 1) := by decide +kernel
theorem dJ6_bitCount_0f7a4_24 : decode cJ6_bitCount_0f7a4 24 = .ok (.iload_n 0, 1) := by decide +kernel
theorem dJ6_bitCount_0f7a4_25 : decode cJ6_bitCount_0f7a4 25 = .ok (.iload_n 0, 1) := by decide +kernel
theorem dJ6_bitCount_0f7a4_26 : decode cJ6_bitCount_0f7a4 26 = .ok (.iconst 4, 1) := by decide +kernel
theorem dJ6_bitCount_0f7a4_27 : decode cJ6_bitCount_0f7a4 27 = .ok (.iushr, 1) := by decide +kernel
theorem dJ6_bitCount_0f7a4_28 : decode cJ6_bitCount_0f7a4 28 = .ok (.iadd, 1) := by decide +kernel
theorem dJ6_bitCount_0f7a4_29 : decode cJ6_bitCount_0f7a4 29 = .ok (.ldc_w 267, 3) := by decide +kernel
theorem dJ6_bitCount_0f7a4_32 : decode cJ6_bitCount_0f7a4 32 = .ok (.iand, 1) := by decide +kernel
theorem dJ6_bitCount_0f7a4_33 : decode cJ6_bitCount_0f7a4 33 = .ok (.istore_n 0, 1) := by decide +kernel
theorem dJ6_bitCount_0f7a4_34 : decode cJ6_bitCount_0f7a4 34 = .ok (.iload_n 0, 1) := by decide +kernel
theorem dJ6_bitCount_0f7a4_35 : decode cJ6_bitCount_0f7a4 35 = .ok (.iload_n 0, 1) := by decide +kernel
theorem dJ6_bitCount_0f7a4_36 : decode cJ6_bitCount_0f7a4 36 = .ok (.bipush 8, 2) := by decide +kernel
theorem dJ6_bitCount_0f7a4_38 : decode cJ6_bitCount_0f7a4 38 = .ok (.iushr, 1) := by decide +kernel
theorem dJ6_bitCount_0f7a4_39 : decode cJ6_bitCount_0f7a4 39 = .ok (.iadd, 1) := by decide +kernel
theorem dJ6_bitCount_0f7a4_40 : decode cJ6_bitCount_0f7a4 40 = .ok (.istore_n 0, 1) := by decide +kernel
theorem dJ6_bitCount_0f7a4_41 : decode cJ6_bitCount_0f7a4 41 = .ok (.iload_n 0, 1) := by decide +kernel
theorem dJ6_bitCount_0f7a4_42 : decode cJ6_bitCount_0f7a4 42 = .ok (.iload_n 0, 1) := by decide +kernel
theorem dJ6_bitCount_0f7a4_43 : decode cJ6_bitCount_0f7a4 43 = .ok (.bipush 16, 2) := by decide +kernel
theorem dJ6_bitCount_0f7a4_45 : decode cJ6_bitCount_0f7a4 45 = .ok (.iushr, 1) := by decide +kernel
theorem dJ6_bitCount_0f7a4_46 : decode cJ6_bitCount_0f7a4 46 = .ok (.iadd, 1) := by decide +kernel
theorem dJ6_bitCount_0f7a4_47 : decode cJ6_bitCount_0f7a4 47 = .ok (.istore_n 0, 1) := by decide +kernel
theorem dJ6_bitCount_0f7a4_48 : decode cJ6_bitCount_0f7a4 48 = .ok (.iload_n 0, 1) := by decide +kernel
theorem dJ6_bitCount_0f7a4_49 : decode cJ6_bitCount_0f7a4 49 = .ok (.bipush 63, 2) := by decide +kernel
theorem dJ6_bitCount_0f7a4_51 : decode cJ6_bitCount_0f7a4 51 = .ok (.iand, 1) := by decide +kernel
theorem dJ6_bitCount_0f7a4_52 : decode cJ6_bitCount_0f7a4 52 = .ok (.ireturn, 1) := by decide +kernel
theorem dL_cell_0 : decode cL_cell 0 = .ok (.iload_n 1, 1) := by decide +kernel
theorem dL_cell_1 : decode cL_cell 1 = .ok (.aload_n 0, 1) := by decide +kernel
theorem dL_cell_2 : decode cL_cell 2 = .ok (.arraylength, 1) := by decide +kernel
theorem dL_cell_3 : decode cL_cell 3 = .ok (.if_icmp .ge 9, 3) := by decide +kernel
theorem dL_cell_6 : decode cL_cell 6 = .ok (.aload_n 0, 1) := by decide +kernel
theorem dL_cell_7 : decode cL_cell 7 = .ok (.iload_n 1, 1) := by decide +kernel
theorem dL_cell_8 : decode cL_cell 8 = .ok (.iaload, 1) := by decide +kernel
theorem dL_cell_9 : decode cL_cell 9 = .ok (.goto 4, 3) := by decide +kernel
theorem dL_cell_12 : decode cL_cell 12 = .ok (.iconst 0, 1) := by decide +kernel
theorem dL_cell_13 : decode cL_cell 13 = .ok (.ireturn, 1) := by decide +kernel
set_option maxRecDepth 20000 in
theorem ggL_law_L_cell : GoodIn wsL_law wsL_cell := goodIn_r _ [10] (by decide +kernel) (by decide +kernel)
set_option maxRecDepth 20000 in
theorem gL_law_L_cell : GoodIn wsL_law (va_wsS RL 9 yL_cell wsL_cell) := goodIn_app (goodIn_of _ (by decide +kernel)) ggL_law_L_cell
set_option maxRecDepth 20000 in
theorem ggL_law_X0_init : GoodIn wsL_law wsX0_init := goodIn_r _ [13, 14, 15, 16, 17, 18, 19, 20, 21, 22, 23, 24, 25, 26, 27, 28, 29, 30, 2, 31, 32, 33, 34, 35, 36, 392, 393, 394, 395, 396, 397, 398, 399, 400, 401, 402, 403, 404, 405, 406] (by decide +kernel) (by decide +kernel)
set_option maxRecDepth 20000 in
theorem gL_law_X0_init : GoodIn wsL_law (wsX0_init) := ggL_law_X0_init
set_option maxRecDepth 20000 in
theorem ggL_law_X1_init : GoodIn wsL_law wsX1_init := goodIn_r _ [39, 40, 15, 16, 41, 42, 18, 43, 20, 44, 45, 46, 47, 48, 49, 50, 51, 52, 53, 54, 55, 56, 5, 57, 58, 407, 408, 409, 410, 411, 412, 413, 414, 415, 416, 417, 418, 419, 420, 421, 422, 423, 424, 425] (by decide +kernel) (by decide +kernel)
set_option maxRecDepth 20000 in
theorem gL_law_X1_init : GoodIn wsL_law (wsX1_init) := ggL_law_X1_init
set_option maxRecDepth 20000 in
theorem ggL_law_X0_locality : GoodIn wsL_law wsX0_locality := goodIn_r _ [62, 63, 392, 393, 394, 395, 396, 397, 398, 399, 400, 401, 402, 403, 404, 405, 406] (by decide +kernel) (by decide +kernel)
set_option maxRecDepth 20000 in
theorem gL_law_X0_locality : GoodIn wsL_law (wsV RL 21 RX0 yX0_locality wsX0_locality) := goodIn_app (goodIn_of _ (by decide +kernel)) ggL_law_X0_locality
set_option maxRecDepth 20000 in
theorem ggL_law_X1_locality : GoodIn wsL_law wsX1_locality := goodIn_r _ [67, 68, 407, 408, 409, 410, 411, 412, 413, 414, 415, 416, 417, 418, 419, 420, 421, 422, 423, 424, 425] (by decide +kernel) (by decide +kernel)
set_option maxRecDepth 20000 in
theorem gL_law_X1_locality : GoodIn wsL_law (wsV RL 25 RX1 yX1_locality wsX1_locality) := goodIn_app (goodIn_of _ (by decide +kernel)) ggL_law_X1_locality
set_option maxRecDepth 20000 in
theorem ggL_law_X0_extend : GoodIn wsL_law wsX0_extend := goodIn_r _ [72, 19, 73, 74, 2, 75, 76, 77, 78, 79, 63, 29, 30, 31, 32, 33, 34, 35, 36, 392, 393, 394, 395, 396, 397, 398, 399, 400, 401, 402, 403, 404, 405, 406] (by decide +kernel) (by decide +kernel)
set_option maxRecDepth 20000 in
theorem gL_law_X0_extend : GoodIn wsL_law (wsV RL 28 RX0 yX0_extend wsX0_extend) := goodIn_app (goodIn_of _ (by decide +kernel)) ggL_law_X0_extend
set_option maxRecDepth 20000 in
theorem ggL_law_X1_extend : GoodIn wsL_law wsX1_extend := goodIn_r _ [83, 84, 85, 86, 5, 87, 68, 42, 88, 43, 407, 408, 409, 410, 411, 412, 413, 414, 415, 416, 417, 418, 419, 420, 421, 422, 423, 424, 425] (by decide +kernel) (by decide +kernel)
set_option maxRecDepth 20000 in
theorem gL_law_X1_extend : GoodIn wsL_law (wsV RL 32 RX1 yX1_extend wsX1_extend) := goodIn_app (goodIn_of _ (by decide +kernel)) ggL_law_X1_extend
set_option maxRecDepth 20000 in
theorem ggL_law_X0_reset : GoodIn wsL_law wsX0_reset := goodIn_r _ [92, 19, 73, 74, 2, 75, 76, 77, 78, 79, 63, 392, 393, 394, 395, 396, 397, 398, 399, 400, 401, 402, 403, 404, 405, 406] (by decide +kernel) (by decide +kernel)
set_option maxRecDepth 20000 in
theorem gL_law_X0_reset : GoodIn wsL_law (wsV RL 33 RX0 yX0_reset wsX0_reset) := goodIn_app (goodIn_of _ (by decide +kernel)) ggL_law_X0_reset
set_option maxRecDepth 20000 in
theorem ggL_law_X1_reset : GoodIn wsL_law wsX1_reset := goodIn_r _ [96, 84, 85, 86, 5, 87, 68, 42, 88, 43, 407, 408, 409, 410, 411, 412, 413, 414, 415, 416, 417, 418, 419, 420, 421, 422, 423, 424, 425] (by decide +kernel) (by decide +kernel)
set_option maxRecDepth 20000 in
theorem gL_law_X1_reset : GoodIn wsL_law (wsV RL 36 RX1 yX1_reset wsX1_reset) := goodIn_app (goodIn_of _ (by decide +kernel)) ggL_law_X1_reset
set_option maxRecDepth 20000 in
theorem ggL_law_X0_register : GoodIn wsL_law wsX0_register := goodIn_r _ [100, 19, 73, 74, 2, 75, 392, 393, 394, 395, 396, 397, 398, 399, 400, 401, 402, 403, 404, 405, 406] (by decide +kernel) (by decide +kernel)
set_option maxRecDepth 20000 in
theorem gL_law_X0_register : GoodIn wsL_law (wsV RL 37 RX0 yX0_register wsX0_register) := goodIn_app (goodIn_of _ (by decide +kernel)) ggL_law_X0_register
set_option maxRecDepth 20000 in
theorem ggL_law_X1_register : GoodIn wsL_law wsX1_register := goodIn_r _ [104, 105, 106, 107, 5, 108, 88, 42, 43, 109, 110, 111, 112, 51, 54, 55, 56, 57, 58, 407, 408, 409, 410, 411, 412, 413, 414, 415, 416, 417, 418, 419, 420, 421, 422, 423, 424, 425] (by decide +kernel) (by decide +kernel)
set_option maxRecDepth 20000 in
theorem gL_law_X1_register : GoodIn wsL_law (wsV RL 41 RX1 yX1_register wsX1_register) := goodIn_app (goodIn_of _ (by decide +kernel)) ggL_law_X1_register
set_option maxRecDepth 20000 in
theorem ggL_law_X0_digest : GoodIn wsL_law wsX0_digest := goodIn_r _ [116, 117, 118, 2, 119, 120, 121, 122, 123, 124, 19, 125, 126, 127, 128, 129, 130, 131, 33, 34, 35, 36, 392, 393, 394, 395, 396, 397, 398, 399, 400, 401, 402, 403, 404, 405, 406] (by decide +kernel) (by decide +kernel)
set_option maxRecDepth 20000 in
theorem gL_law_X0_digest : GoodIn wsL_law (wsV RL 42 RX0 yX0_digest wsX0_digest) := goodIn_app (goodIn_of _ (by decide +kernel)) ggL_law_X0_digest
set_option maxRecDepth 20000 in
theorem ggL_law_X1_digest : GoodIn wsL_law wsX1_digest := goodIn_r _ [135, 136, 137, 5, 138, 139, 140, 141, 142, 143, 52, 51, 105, 106, 107, 108, 88, 42, 43, 109, 110, 111, 112, 54, 55, 56, 57, 58, 407, 408, 409, 410, 411, 412, 413, 414, 415, 416, 417, 418, 419, 420, 421, 422, 423, 424, 425] (by decide +kernel) (by decide +kernel)
set_option maxRecDepth 20000 in
theorem gL_law_X1_digest : GoodIn wsL_law (wsV RL 45 RX1 yX1_digest wsX1_digest) := goodIn_app (goodIn_of _ (by decide +kernel)) ggL_law_X1_digest
set_option maxRecDepth 20000 in
theorem ggL_law_X0_create : GoodIn wsL_law wsX0_create := goodIn_r _ [147, 21, 22, 23, 148, 149, 2, 150, 151, 152, 153, 154, 155, 17, 29, 30, 31, 32, 33, 34, 35, 36, 392, 393, 394, 395, 396, 397, 398, 399, 400, 401, 402, 403, 404, 405, 406] (by decide +kernel) (by decide +kernel)
set_option maxRecDepth 20000 in
theorem gL_law_X0_create : GoodIn wsL_law (wsV RL 46 RX0 yX0_create wsX0_create) := goodIn_app (goodIn_of _ (by decide +kernel)) ggL_law_X0_create
set_option maxRecDepth 20000 in
theorem ggL_law_X1_create : GoodIn wsL_law wsX1_create := goodIn_r _ [159, 44, 160, 45, 46, 407, 408, 409, 410, 411, 412, 413, 414, 415, 416, 417, 418, 419, 420, 421, 422, 423, 424, 425] (by decide +kernel) (by decide +kernel)
set_option maxRecDepth 20000 in
theorem gL_law_X1_create : GoodIn wsL_law (wsV RL 50 RX1 yX1_create wsX1_create) := goodIn_app (goodIn_of _ (by decide +kernel)) ggL_law_X1_create
set_option maxRecDepth 20000 in
theorem ggL_law_X0_destroy : GoodIn wsL_law wsX0_destroy := goodIn_r _ [164, 21, 165, 166, 167, 2, 168, 392, 393, 394, 395, 396, 397, 398, 399, 400, 401, 402, 403, 404, 405, 406] (by decide +kernel) (by decide +kernel)
set_option maxRecDepth 20000 in
theorem gL_law_X0_destroy : GoodIn wsL_law (wsV RL 51 RX0 yX0_destroy wsX0_destroy) := goodIn_app (goodIn_of _ (by decide +kernel)) ggL_law_X0_destroy
set_option maxRecDepth 20000 in
theorem ggL_law_X1_destroy : GoodIn wsL_law wsX1_destroy := goodIn_r _ [172, 44, 173, 174, 175, 5, 176, 407, 408, 409, 410, 411, 412, 413, 414, 415, 416, 417, 418, 419, 420, 421, 422, 423, 424, 425] (by decide +kernel) (by decide +kernel)
set_option maxRecDepth 20000 in
theorem gL_law_X1_destroy : GoodIn wsL_law (wsV RL 54 RX1 yX1_destroy wsX1_destroy) := goodIn_app (goodIn_of _ (by decide +kernel)) ggL_law_X1_destroy
set_option maxRecDepth 20000 in
theorem ggL_law_X0_name : GoodIn wsL_law wsX0_name := goodIn_r _ [180, 23, 165, 166, 167, 2, 168, 21, 392, 393, 394, 395, 396, 397, 398, 399, 400, 401, 402, 403, 404, 405, 406] (by decide +kernel) (by decide +kernel)
set_option maxRecDepth 20000 in
theorem gL_law_X0_name : GoodIn wsL_law (wsV RL 55 RX0 yX0_name wsX0_name) := goodIn_app (goodIn_of _ (by decide +kernel)) ggL_law_X0_name
set_option maxRecDepth 20000 in
theorem ggL_law_X1_name : GoodIn wsL_law wsX1_name := goodIn_r _ [184, 173, 174, 175, 5, 176, 44, 185, 186, 187, 188, 46, 45, 189, 190, 191, 192, 53, 109, 110, 111, 112, 51, 54, 55, 56, 57, 58, 407, 408, 409, 410, 411, 412, 413, 414, 415, 416, 417, 418, 419, 420, 421, 422, 423, 424, 425] (by decide +kernel) (by decide +kernel)
set_option maxRecDepth 20000 in
theorem gL_law_X1_name : GoodIn wsL_law (wsV RL 58 RX1 yX1_name wsX1_name) := goodIn_app (goodIn_of _ (by decide +kernel)) ggL_law_X1_name
set_option maxRecDepth 20000 in
theorem ggL_law_X0_begin : GoodIn wsL_law wsX0_begin := goodIn_r _ [196, 24, 25, 26, 148, 149, 2, 150, 151, 152, 153, 154, 155, 17, 29, 30, 31, 32, 33, 34, 35, 36, 392, 393, 394, 395, 396, 397, 398, 399, 400, 401, 402, 403, 404, 405, 406] (by decide +kernel) (by decide +kernel)
set_option maxRecDepth 20000 in
theorem gL_law_X0_begin : GoodIn wsL_law (wsV RL 59 RX0 yX0_begin wsX0_begin) := goodIn_app (goodIn_of _ (by decide +kernel)) ggL_law_X0_begin
set_option maxRecDepth 20000 in
theorem ggL_law_X1_begin : GoodIn wsL_law wsX1_begin := goodIn_r _ [200, 47, 160, 48, 49, 407, 408, 409, 410, 411, 412, 413, 414, 415, 416, 417, 418, 419, 420, 421, 422, 423, 424, 425] (by decide +kernel) (by decide +kernel)
set_option maxRecDepth 20000 in
theorem gL_law_X1_begin : GoodIn wsL_law (wsV RL 62 RX1 yX1_begin wsX1_begin) := goodIn_app (goodIn_of _ (by decide +kernel)) ggL_law_X1_begin
set_option maxRecDepth 20000 in
theorem ggL_law_X0_end : GoodIn wsL_law wsX0_end := goodIn_r _ [204, 24, 205, 206, 207, 2, 208, 392, 393, 394, 395, 396, 397, 398, 399, 400, 401, 402, 403, 404, 405, 406] (by decide +kernel) (by decide +kernel)
set_option maxRecDepth 20000 in
theorem gL_law_X0_end : GoodIn wsL_law (wsV RL 63 RX0 yX0_end wsX0_end) := goodIn_app (goodIn_of _ (by decide +kernel)) ggL_law_X0_end
set_option maxRecDepth 20000 in
theorem ggL_law_X1_end : GoodIn wsL_law wsX1_end := goodIn_r _ [212, 47, 213, 214, 215, 5, 216, 407, 408, 409, 410, 411, 412, 413, 414, 415, 416, 417, 418, 419, 420, 421, 422, 423, 424, 425] (by decide +kernel) (by decide +kernel)
set_option maxRecDepth 20000 in
theorem gL_law_X1_end : GoodIn wsL_law (wsV RL 66 RX1 yX1_end wsX1_end) := goodIn_app (goodIn_of _ (by decide +kernel)) ggL_law_X1_end
set_option maxRecDepth 20000 in
theorem ggL_law_X0_nonce : GoodIn wsL_law wsX0_nonce := goodIn_r _ [220, 26, 205, 206, 207, 2, 208, 24, 392, 393, 394, 395, 396, 397, 398, 399, 400, 401, 402, 403, 404, 405, 406] (by decide +kernel) (by decide +kernel)
set_option maxRecDepth 20000 in
theorem gL_law_X0_nonce : GoodIn wsL_law (wsV RL 67 RX0 yX0_nonce wsX0_nonce) := goodIn_app (goodIn_of _ (by decide +kernel)) ggL_law_X0_nonce
set_option maxRecDepth 20000 in
theorem ggL_law_X1_nonce : GoodIn wsL_law wsX1_nonce := goodIn_r _ [224, 49, 213, 214, 215, 5, 216, 47, 189, 190, 191, 192, 53, 109, 110, 111, 112, 51, 54, 55, 56, 57, 58, 407, 408, 409, 410, 411, 412, 413, 414, 415, 416, 417, 418, 419, 420, 421, 422, 423, 424, 425] (by decide +kernel) (by decide +kernel)
set_option maxRecDepth 20000 in
theorem gL_law_X1_nonce : GoodIn wsL_law (wsV RL 70 RX1 yX1_nonce wsX1_nonce) := goodIn_app (goodIn_of _ (by decide +kernel)) ggL_law_X1_nonce
set_option maxRecDepth 20000 in
theorem ggL_law_X0_prove : GoodIn wsL_law wsX0_prove := goodIn_r _ [228, 28, 229, 205, 206, 207, 2, 208, 24, 230, 231, 232, 233, 234, 29, 30, 31, 32, 33, 34, 35, 36, 235, 236, 237, 238, 26, 25, 239, 240, 241, 242, 243, 244, 245, 246, 392, 393, 394, 395, 396, 397, 398, 399, 400, 401, 402, 403, 404, 405, 406] (by decide +kernel) (by decide +kernel)
set_option maxRecDepth 20000 in
theorem gL_law_X0_prove : GoodIn wsL_law (wsV RL 71 RX0 yX0_prove wsX0_prove) := goodIn_app (goodIn_of _ (by decide +kernel)) ggL_law_X0_prove
set_option maxRecDepth 20000 in
theorem ggL_law_X1_prove : GoodIn wsL_law wsX1_prove := goodIn_r _ [250, 50, 251, 213, 214, 215, 5, 216, 47, 252, 253, 254, 255, 256, 109, 110, 111, 112, 51, 54, 55, 56, 57, 58, 257, 258, 259, 260, 49, 48, 189, 190, 191, 192, 53, 261, 262, 263, 264, 265, 266, 407, 408, 409, 410, 411, 412, 413, 414, 415, 416, 417, 418, 419, 420, 421, 422, 423, 424, 425] (by decide +kernel) (by decide +kernel)
set_option maxRecDepth 20000 in
theorem gL_law_X1_prove : GoodIn wsL_law (wsV RL 75 RX1 yX1_prove wsX1_prove) := goodIn_app (goodIn_of _ (by decide +kernel)) ggL_law_X1_prove
set_option maxRecDepth 20000 in
theorem ggL_law_X0_present : GoodIn wsL_law wsX0_present := goodIn_r _ [270, 229, 392, 393, 394, 395, 396, 397, 398, 399, 400, 401, 402, 403, 404, 405, 406] (by decide +kernel) (by decide +kernel)
set_option maxRecDepth 20000 in
theorem gL_law_X0_present : GoodIn wsL_law (wsV RL 76 RX0 yX0_present wsX0_present) := goodIn_app (goodIn_of _ (by decide +kernel)) ggL_law_X0_present
set_option maxRecDepth 20000 in
theorem ggL_law_X1_present : GoodIn wsL_law wsX1_present := goodIn_r _ [274, 251, 407, 408, 409, 410, 411, 412, 413, 414, 415, 416, 417, 418, 419, 420, 421, 422, 423, 424, 425] (by decide +kernel) (by decide +kernel)
set_option maxRecDepth 20000 in
theorem gL_law_X1_present : GoodIn wsL_law (wsV RL 80 RX1 yX1_present wsX1_present) := goodIn_app (goodIn_of _ (by decide +kernel)) ggL_law_X1_present
set_option maxRecDepth 20000 in
theorem ggL_law_X0_seal : GoodIn wsL_law wsX0_seal := goodIn_r _ [278, 234, 22, 23, 205, 206, 207, 2, 208, 24, 165, 166, 167, 168, 21, 117, 118, 119, 120, 279, 280, 281, 282, 283, 29, 30, 31, 32, 33, 34, 35, 36, 284, 285, 286, 287, 229, 26, 288, 235, 236, 237, 238, 25, 239, 240, 241, 242, 243, 244, 245, 246, 151, 152, 153, 154, 155, 17, 289, 290, 291, 292, 28, 121, 122, 123, 124, 19, 125, 126, 127, 128, 129, 130, 131, 293, 294, 295, 296, 297, 298, 299, 300, 301, 392, 393, 394, 395, 396, 397, 398, 399, 400, 401, 402, 403, 404, 405, 406] (by decide +kernel) (by decide +kernel)
set_option maxRecDepth 20000 in
theorem gL_law_X0_seal : GoodIn wsL_law (wsV RL 81 RX0 yX0_seal wsX0_seal) := goodIn_app (goodIn_of _ (by decide +kernel)) ggL_law_X0_seal
set_option maxRecDepth 20000 in
theorem ggL_law_X1_seal : GoodIn wsL_law wsX1_seal := goodIn_r _ [305, 306, 256, 160, 50, 213, 214, 215, 5, 216, 47, 173, 174, 175, 176, 44, 136, 137, 138, 139, 109, 110, 111, 112, 51, 54, 55, 56, 57, 58, 307, 308, 309, 310, 251, 45, 49, 311, 257, 258, 259, 260, 48, 189, 190, 191, 192, 53, 261, 262, 263, 264, 265, 266, 140, 141, 142, 143, 52, 105, 106, 107, 108, 88, 42, 43, 185, 186, 187, 188, 46, 312, 313, 314, 315, 316, 317, 318, 319, 407, 408, 409, 410, 411, 412, 413, 414, 415, 416, 417, 418, 419, 420, 421, 422, 423, 424, 425] (by decide +kernel) (by decide +kernel)
set_option maxRecDepth 20000 in
theorem gL_law_X1_seal : GoodIn wsL_law (wsV RL 85 RX1 yX1_seal wsX1_seal) := goodIn_app (goodIn_of _ (by decide +kernel)) ggL_law_X1_seal
set_option maxRecDepth 20000 in
theorem ggL_law_X0_unseal : GoodIn wsL_law wsX0_unseal := goodIn_r _ [323, 28, 22, 288, 205, 206, 207, 2, 208, 24, 230, 231, 232, 233, 234, 279, 280, 281, 282, 283, 298, 299, 300, 301, 17, 239, 240, 241, 242, 33, 34, 35, 36, 243, 244, 245, 246, 29, 30, 31, 32, 324, 325, 326, 327, 21, 23, 284, 285, 286, 287, 229, 26, 235, 236, 237, 238, 25, 151, 152, 153, 154, 155, 328, 329, 330, 331, 117, 118, 119, 120, 121, 122, 123, 124, 19, 125, 126, 127, 128, 129, 130, 131, 293, 294, 295, 296, 297, 392, 393, 394, 395, 396, 397, 398, 399, 400, 401, 402, 403, 404, 405, 406] (by decide +kernel) (by decide +kernel)
set_option maxRecDepth 20000 in
theorem gL_law_X0_unseal : GoodIn wsL_law (wsV RL 86 RX0 yX0_unseal wsX0_unseal) := goodIn_app (goodIn_of _ (by decide +kernel)) ggL_law_X0_unseal
set_option maxRecDepth 20000 in
theorem ggL_law_X1_unseal : GoodIn wsL_law wsX1_unseal := goodIn_r _ [335, 306, 50, 44, 311, 213, 214, 215, 5, 216, 47, 252, 253, 254, 255, 256, 316, 317, 318, 319, 51, 53, 261, 262, 263, 264, 265, 266, 54, 55, 56, 57, 58, 185, 186, 187, 188, 46, 45, 189, 190, 191, 192, 109, 110, 111, 112, 307, 308, 309, 310, 251, 160, 49, 257, 258, 259, 260, 48, 136, 137, 138, 139, 140, 141, 142, 143, 52, 105, 106, 107, 108, 88, 42, 43, 312, 313, 314, 315, 407, 408, 409, 410, 411, 412, 413, 414, 415, 416, 417, 418, 419, 420, 421, 422, 423, 424, 425] (by decide +kernel) (by decide +kernel)
set_option maxRecDepth 20000 in
theorem gL_law_X1_unseal : GoodIn wsL_law (wsV RL 90 RX1 yX1_unseal wsX1_unseal) := goodIn_app (goodIn_of _ (by decide +kernel)) ggL_law_X1_unseal
set_option maxRecDepth 20000 in
theorem ggL_law_X0_quote : GoodIn wsL_law wsX0_quote := goodIn_r _ [339, 22, 288, 205, 206, 207, 2, 208, 24, 165, 166, 167, 168, 21, 117, 118, 119, 120, 279, 280, 281, 282, 283, 29, 30, 31, 32, 33, 34, 35, 36, 284, 285, 286, 287, 229, 26, 235, 236, 237, 238, 25, 239, 240, 241, 242, 243, 244, 245, 246, 151, 152, 153, 154, 155, 17, 340, 341, 342, 343, 121, 122, 123, 124, 19, 125, 126, 127, 128, 129, 130, 131, 392, 393, 394, 395, 396, 397, 398, 399, 400, 401, 402, 403, 404, 405, 406] (by decide +kernel) (by decide +kernel)
set_option maxRecDepth 20000 in
theorem gL_law_X0_quote : GoodIn wsL_law (wsV RL 91 RX0 yX0_quote wsX0_quote) := goodIn_app (goodIn_of _ (by decide +kernel)) ggL_law_X0_quote
set_option maxRecDepth 20000 in
theorem ggL_law_X1_quote : GoodIn wsL_law wsX1_quote := goodIn_r _ [347, 306, 51, 45, 311, 213, 214, 215, 5, 216, 47, 173, 174, 175, 176, 44, 136, 137, 138, 139, 109, 110, 111, 112, 54, 55, 56, 57, 58, 307, 308, 309, 310, 251, 160, 49, 257, 258, 259, 260, 48, 189, 190, 191, 192, 53, 261, 262, 263, 264, 265, 266, 140, 141, 142, 143, 52, 105, 106, 107, 108, 88, 42, 43, 407, 408, 409, 410, 411, 412, 413, 414, 415, 416, 417, 418, 419, 420, 421, 422, 423, 424, 425] (by decide +kernel) (by decide +kernel)
set_option maxRecDepth 20000 in
theorem gL_law_X1_quote : GoodIn wsL_law (wsV RL 94 RX1 yX1_quote wsX1_quote) := goodIn_app (goodIn_of _ (by decide +kernel)) ggL_law_X1_quote
set_option maxRecDepth 20000 in
theorem ggL_law_X0_output : GoodIn wsL_law wsX0_output := goodIn_r _ [351, 288, 392, 393, 394, 395, 396, 397, 398, 399, 400, 401, 402, 403, 404, 405, 406] (by decide +kernel) (by decide +kernel)
set_option maxRecDepth 20000 in
theorem gL_law_X0_output : GoodIn wsL_law (wsV RL 95 RX0 yX0_output wsX0_output) := goodIn_app (goodIn_of _ (by decide +kernel)) ggL_law_X0_output
set_option maxRecDepth 20000 in
theorem ggL_law_X1_output : GoodIn wsL_law wsX1_output := goodIn_r _ [355, 311, 407, 408, 409, 410, 411, 412, 413, 414, 415, 416, 417, 418, 419, 420, 421, 422, 423, 424, 425] (by decide +kernel) (by decide +kernel)
set_option maxRecDepth 20000 in
theorem gL_law_X1_output : GoodIn wsL_law (wsV RL 99 RX1 yX1_output wsX1_output) := goodIn_app (goodIn_of _ (by decide +kernel)) ggL_law_X1_output
set_option maxRecDepth 20000 in
theorem ggL_law_X0_blob : GoodIn wsL_law wsX0_blob := goodIn_r _ [359, 28, 360, 361, 362, 2, 363, 230, 231, 232, 233, 234, 392, 393, 394, 395, 396, 397, 398, 399, 400, 401, 402, 403, 404, 405, 406] (by decide +kernel) (by decide +kernel)
set_option maxRecDepth 20000 in
theorem gL_law_X0_blob : GoodIn wsL_law (wsV RL 100 RX0 yX0_blob wsX0_blob) := goodIn_app (goodIn_of _ (by decide +kernel)) ggL_law_X0_blob
set_option maxRecDepth 20000 in
theorem ggL_law_X1_blob : GoodIn wsL_law wsX1_blob := goodIn_r _ [367, 50, 252, 253, 254, 5, 255, 256, 407, 408, 409, 410, 411, 412, 413, 414, 415, 416, 417, 418, 419, 420, 421, 422, 423, 424, 425] (by decide +kernel) (by decide +kernel)
set_option maxRecDepth 20000 in
theorem gL_law_X1_blob : GoodIn wsL_law (wsV RL 104 RX1 yX1_blob wsX1_blob) := goodIn_app (goodIn_of _ (by decide +kernel)) ggL_law_X1_blob
set_option maxRecDepth 20000 in
theorem ggL_law_X0_change : GoodIn wsL_law wsX0_change := goodIn_r _ [371, 28, 360, 361, 362, 2, 363, 230, 231, 232, 233, 234, 392, 393, 394, 395, 396, 397, 398, 399, 400, 401, 402, 403, 404, 405, 406] (by decide +kernel) (by decide +kernel)
set_option maxRecDepth 20000 in
theorem gL_law_X0_change : GoodIn wsL_law (wsV RL 105 RX0 yX0_change wsX0_change) := goodIn_app (goodIn_of _ (by decide +kernel)) ggL_law_X0_change
set_option maxRecDepth 20000 in
theorem ggL_law_X1_change : GoodIn wsL_law wsX1_change := goodIn_r _ [375, 50, 252, 253, 254, 5, 255, 256, 407, 408, 409, 410, 411, 412, 413, 414, 415, 416, 417, 418, 419, 420, 421, 422, 423, 424, 425] (by decide +kernel) (by decide +kernel)
set_option maxRecDepth 20000 in
theorem gL_law_X1_change : GoodIn wsL_law (wsV RL 109 RX1 yX1_change wsX1_change) := goodIn_app (goodIn_of _ (by decide +kernel)) ggL_law_X1_change
set_option maxRecDepth 20000 in
theorem ggL_law_X0_reboot : GoodIn wsL_law wsX0_reboot := goodIn_r _ [379, 19, 24, 63, 283, 288, 392, 393, 394, 395, 396, 397, 398, 399, 400, 401, 402, 403, 404, 405, 406] (by decide +kernel) (by decide +kernel)
set_option maxRecDepth 20000 in
theorem gL_law_X0_reboot : GoodIn wsL_law (wsV RL 110 RX0 yX0_reboot wsX0_reboot) := goodIn_app (goodIn_of _ (by decide +kernel)) ggL_law_X0_reboot
set_option maxRecDepth 20000 in
theorem ggL_law_X1_reboot : GoodIn wsL_law wsX1_reboot := goodIn_r _ [383, 88, 68, 306, 311, 47, 407, 408, 409, 410, 411, 412, 413, 414, 415, 416, 417, 418, 419, 420, 421, 422, 423, 424, 425] (by decide +kernel) (by decide +kernel)
set_option maxRecDepth 20000 in
theorem gL_law_X1_reboot : GoodIn wsL_law (wsV RL 113 RX1 yX1_reboot wsX1_reboot) := goodIn_app (goodIn_of _ (by decide +kernel)) ggL_law_X1_reboot
set_option maxRecDepth 20000 in
theorem ggL_law_X0_failures : GoodIn wsL_law wsX0_failures := goodIn_r _ [387, 283, 392, 393, 394, 395, 396, 397, 398, 399, 400, 401, 402, 403, 404, 405, 406] (by decide +kernel) (by decide +kernel)
set_option maxRecDepth 20000 in
theorem gL_law_X0_failures : GoodIn wsL_law (wsV RL 114 RX0 yX0_failures wsX0_failures) := goodIn_app (goodIn_of _ (by decide +kernel)) ggL_law_X0_failures
set_option maxRecDepth 20000 in
theorem ggL_law_X1_failures : GoodIn wsL_law wsX1_failures := goodIn_r _ [391, 306, 407, 408, 409, 410, 411, 412, 413, 414, 415, 416, 417, 418, 419, 420, 421, 422, 423, 424, 425] (by decide +kernel) (by decide +kernel)
set_option maxRecDepth 20000 in
theorem gL_law_X1_failures : GoodIn wsL_law (wsV RL 118 RX1 yX1_failures wsX1_failures) := goodIn_app (goodIn_of _ (by decide +kernel)) ggL_law_X1_failures
theorem dL_law_0 : decode cL_law 0 = .ok (.new 7, 3) := by decide +kernel
theorem dL_law_3 : decode cL_law 3 = .ok (.dup, 1) := by decide +kernel
theorem dL_law_4 : decode cL_law 4 = .ok (.aload_n 0, 1) := by decide +kernel
theorem dL_law_5 : decode cL_law 5 = .ok (.iconst 0, 1) := by decide +kernel
theorem dL_law_6 : decode cL_law 6 = .ok (.invokestatic 9, 3) := by decide +kernel
theorem dL_law_9 : decode cL_law 9 = .ok (.aload_n 0, 1) := by decide +kernel
theorem dL_law_10 : decode cL_law 10 = .ok (.iconst 1, 1) := by decide +kernel
theorem dL_law_11 : decode cL_law 11 = .ok (.invokestatic 9, 3) := by decide +kernel
theorem dL_law_14 : decode cL_law 14 = .ok (.invokespecial 15, 3) := by decide +kernel
theorem dL_law_17 : decode cL_law 17 = .ok (.astore_n 1, 1) := by decide +kernel
theorem dL_law_18 : decode cL_law 18 = .ok (.new 18, 3) := by decide +kernel
theorem dL_law_21 : decode cL_law 21 = .ok (.dup, 1) := by decide +kernel
theorem dL_law_22 : decode cL_law 22 = .ok (.aload_n 0, 1) := by decide +kernel
theorem dL_law_23 : decode cL_law 23 = .ok (.iconst 0, 1) := by decide +kernel
theorem dL_law_24 : decode cL_law 24 = .ok (.invokestatic 9, 3) := by decide +kernel
theorem dL_law_27 : decode cL_law 27 = .ok (.aload_n 0, 1) := by decide +kernel
theorem dL_law_28 : decode cL_law 28 = .ok (.iconst 1, 1) := by decide +kernel
theorem dL_law_29 : decode cL_law 29 = .ok (.invokestatic 9, 3) := by decide +kernel
theorem dL_law_32 : decode cL_law 32 = .ok (.invokespecial 20, 3) := by decide +kernel
theorem dL_law_35 : decode cL_law 35 = .ok (.astore_n 2, 1) := by decide +kernel
theorem dL_law_36 : decode cL_law 36 = .ok (.iconst 2, 1) := by decide +kernel
theorem dL_law_37 : decode cL_law 37 = .ok (.istore_n 3, 1) := by decide +kernel
theorem dL_law_38 : decode cL_law 38 = .ok (.iload_n 3, 1) := by decide +kernel
theorem dL_law_39 : decode cL_law 39 = .ok (.aload_n 0, 1) := by decide +kernel
theorem dL_law_40 : decode cL_law 40 = .ok (.arraylength, 1) := by decide +kernel
theorem dL_law_41 : decode cL_law 41 = .ok (.bipush 8, 2) := by decide +kernel
theorem dL_law_43 : decode cL_law 43 = .ok (.isub, 1) := by decide +kernel
theorem dL_law_44 : decode cL_law 44 = .ok (.if_icmp .gt 993, 3) := by decide +kernel
theorem dL_law_47 : decode cL_law 47 = .ok (.aload_n 0, 1) := by decide +kernel
theorem dL_law_48 : decode cL_law 48 = .ok (.iload_n 3, 1) := by decide +kernel
theorem dL_law_49 : decode cL_law 49 = .ok (.iaload, 1) := by decide +kernel
theorem dL_law_50 : decode cL_law 50 = .ok (.bipush 31, 2) := by decide +kernel
theorem dL_law_52 : decode cL_law 52 = .ok (.iand, 1) := by decide +kernel
theorem dL_law_53 : decode cL_law 53 = .ok (.tableswitch 978 0 20 #[99, 122, 185, 208, 232, 256, 309, 332, 356, 409, 432, 456, 583, 634, 717, 750, 833, 847, 881, 954, 965], 99) := by decide +kernel
theorem dL_law_152 : decode cL_law 152 = .ok (.aload_n 1, 1) := by decide +kernel
theorem dL_law_153 : decode cL_law 153 = .ok (.aload_n 0, 1) := by decide +kernel
theorem dL_law_154 : decode cL_law 154 = .ok (.iload_n 3, 1) := by decide +kernel
theorem dL_law_155 : decode cL_law 155 = .ok (.iconst 1, 1) := by decide +kernel
theorem dL_law_156 : decode cL_law 156 = .ok (.iadd, 1) := by decide +kernel
theorem dL_law_157 : decode cL_law 157 = .ok (.iaload, 1) := by decide +kernel
theorem dL_law_158 : decode cL_law 158 = .ok (.invokevirtual 21, 3) := by decide +kernel
theorem dL_law_161 : decode cL_law 161 = .ok (.aload_n 2, 1) := by decide +kernel
theorem dL_law_162 : decode cL_law 162 = .ok (.aload_n 0, 1) := by decide +kernel
theorem dL_law_163 : decode cL_law 163 = .ok (.iload_n 3, 1) := by decide +kernel
theorem dL_law_164 : decode cL_law 164 = .ok (.iconst 1, 1) := by decide +kernel
theorem dL_law_165 : decode cL_law 165 = .ok (.iadd, 1) := by decide +kernel
theorem dL_law_166 : decode cL_law 166 = .ok (.iaload, 1) := by decide +kernel
theorem dL_law_167 : decode cL_law 167 = .ok (.invokevirtual 25, 3) := by decide +kernel
theorem dL_law_170 : decode cL_law 170 = .ok (.if_icmp .eq 861, 3) := by decide +kernel
theorem dL_law_173 : decode cL_law 173 = .ok (.iconst 0, 1) := by decide +kernel
theorem dL_law_174 : decode cL_law 174 = .ok (.ireturn, 1) := by decide +kernel
theorem dL_law_175 : decode cL_law 175 = .ok (.aload_n 1, 1) := by decide +kernel
theorem dL_law_176 : decode cL_law 176 = .ok (.aload_n 0, 1) := by decide +kernel
theorem dL_law_177 : decode cL_law 177 = .ok (.iload_n 3, 1) := by decide +kernel
theorem dL_law_178 : decode cL_law 178 = .ok (.iconst 1, 1) := by decide +kernel
theorem dL_law_179 : decode cL_law 179 = .ok (.iadd, 1) := by decide +kernel
theorem dL_law_180 : decode cL_law 180 = .ok (.iaload, 1) := by decide +kernel
theorem dL_law_181 : decode cL_law 181 = .ok (.aload_n 0, 1) := by decide +kernel
theorem dL_law_182 : decode cL_law 182 = .ok (.iload_n 3, 1) := by decide +kernel
theorem dL_law_183 : decode cL_law 183 = .ok (.iconst 2, 1) := by decide +kernel
theorem dL_law_184 : decode cL_law 184 = .ok (.iadd, 1) := by decide +kernel
theorem dL_law_185 : decode cL_law 185 = .ok (.iaload, 1) := by decide +kernel
theorem dL_law_186 : decode cL_law 186 = .ok (.i2l, 1) := by decide +kernel
theorem dL_law_187 : decode cL_law 187 = .ok (.bipush 32, 2) := by decide +kernel
theorem dL_law_189 : decode cL_law 189 = .ok (.lshl, 1) := by decide +kernel
theorem dL_law_190 : decode cL_law 190 = .ok (.aload_n 0, 1) := by decide +kernel
theorem dL_law_191 : decode cL_law 191 = .ok (.iload_n 3, 1) := by decide +kernel
theorem dL_law_192 : decode cL_law 192 = .ok (.iconst 3, 1) := by decide +kernel
theorem dL_law_193 : decode cL_law 193 = .ok (.iadd, 1) := by decide +kernel
theorem dL_law_194 : decode cL_law 194 = .ok (.iaload, 1) := by decide +kernel
theorem dL_law_195 : decode cL_law 195 = .ok (.i2l, 1) := by decide +kernel
theorem dL_law_196 : decode cL_law 196 = .ok (.ldc2_w 26, 3) := by decide +kernel
theorem dL_law_199 : decode cL_law 199 = .ok (.land, 1) := by decide +kernel
theorem dL_law_200 : decode cL_law 200 = .ok (.lor, 1) := by decide +kernel
theorem dL_law_201 : decode cL_law 201 = .ok (.invokevirtual 28, 3) := by decide +kernel
theorem dL_law_204 : decode cL_law 204 = .ok (.aload_n 2, 1) := by decide +kernel
theorem dL_law_205 : decode cL_law 205 = .ok (.aload_n 0, 1) := by decide +kernel
theorem dL_law_206 : decode cL_law 206 = .ok (.iload_n 3, 1) := by decide +kernel
theorem dL_law_207 : decode cL_law 207 = .ok (.iconst 1, 1) := by decide +kernel
theorem dL_law_208 : decode cL_law 208 = .ok (.iadd, 1) := by decide +kernel
theorem dL_law_209 : decode cL_law 209 = .ok (.iaload, 1) := by decide +kernel
theorem dL_law_210 : decode cL_law 210 = .ok (.aload_n 0, 1) := by decide +kernel
theorem dL_law_211 : decode cL_law 211 = .ok (.iload_n 3, 1) := by decide +kernel
theorem dL_law_212 : decode cL_law 212 = .ok (.iconst 2, 1) := by decide +kernel
theorem dL_law_213 : decode cL_law 213 = .ok (.iadd, 1) := by decide +kernel
theorem dL_law_214 : decode cL_law 214 = .ok (.iaload, 1) := by decide +kernel
theorem dL_law_215 : decode cL_law 215 = .ok (.i2l, 1) := by decide +kernel
theorem dL_law_216 : decode cL_law 216 = .ok (.bipush 32, 2) := by decide +kernel
theorem dL_law_218 : decode cL_law 218 = .ok (.lshl, 1) := by decide +kernel
theorem dL_law_219 : decode cL_law 219 = .ok (.aload_n 0, 1) := by decide +kernel
theorem dL_law_220 : decode cL_law 220 = .ok (.iload_n 3, 1) := by decide +kernel
theorem dL_law_221 : decode cL_law 221 = .ok (.iconst 3, 1) := by decide +kernel
theorem dL_law_222 : decode cL_law 222 = .ok (.iadd, 1) := by decide +kernel
theorem dL_law_223 : decode cL_law 223 = .ok (.iaload, 1) := by decide +kernel
theorem dL_law_224 : decode cL_law 224 = .ok (.i2l, 1) := by decide +kernel
theorem dL_law_225 : decode cL_law 225 = .ok (.ldc2_w 26, 3) := by decide +kernel
theorem dL_law_228 : decode cL_law 228 = .ok (.land, 1) := by decide +kernel
theorem dL_law_229 : decode cL_law 229 = .ok (.lor, 1) := by decide +kernel
theorem dL_law_230 : decode cL_law 230 = .ok (.invokevirtual 32, 3) := by decide +kernel
theorem dL_law_233 : decode cL_law 233 = .ok (.if_icmp .eq 798, 3) := by decide +kernel
theorem dL_law_236 : decode cL_law 236 = .ok (.iconst 0, 1) := by decide +kernel
theorem dL_law_237 : decode cL_law 237 = .ok (.ireturn, 1) := by decide +kernel
theorem dL_law_238 : decode cL_law 238 = .ok (.aload_n 1, 1) := by decide +kernel
theorem dL_law_239 : decode cL_law 239 = .ok (.aload_n 0, 1) := by decide +kernel
theorem dL_law_240 : decode cL_law 240 = .ok (.iload_n 3, 1) := by decide +kernel
theorem dL_law_241 : decode cL_law 241 = .ok (.iconst 1, 1) := by decide +kernel
theorem dL_law_242 : decode cL_law 242 = .ok (.iadd, 1) := by decide +kernel
theorem dL_law_243 : decode cL_law 243 = .ok (.iaload, 1) := by decide +kernel
theorem dL_law_244 : decode cL_law 244 = .ok (.invokevirtual 33, 3) := by decide +kernel
theorem dL_law_247 : decode cL_law 247 = .ok (.aload_n 2, 1) := by decide +kernel
theorem dL_law_248 : decode cL_law 248 = .ok (.aload_n 0, 1) := by decide +kernel
theorem dL_law_249 : decode cL_law 249 = .ok (.iload_n 3, 1) := by decide +kernel
theorem dL_law_250 : decode cL_law 250 = .ok (.iconst 1, 1) := by decide +kernel
theorem dL_law_251 : decode cL_law 251 = .ok (.iadd, 1) := by decide +kernel
theorem dL_law_252 : decode cL_law 252 = .ok (.iaload, 1) := by decide +kernel
theorem dL_law_253 : decode cL_law 253 = .ok (.invokevirtual 36, 3) := by decide +kernel
theorem dL_law_256 : decode cL_law 256 = .ok (.if_icmp .eq 775, 3) := by decide +kernel
theorem dL_law_259 : decode cL_law 259 = .ok (.iconst 0, 1) := by decide +kernel
theorem dL_law_260 : decode cL_law 260 = .ok (.ireturn, 1) := by decide +kernel
theorem dL_law_261 : decode cL_law 261 = .ok (.aload_n 1, 1) := by decide +kernel
theorem dL_law_262 : decode cL_law 262 = .ok (.aload_n 0, 1) := by decide +kernel
theorem dL_law_263 : decode cL_law 263 = .ok (.iload_n 3, 1) := by decide +kernel
theorem dL_law_264 : decode cL_law 264 = .ok (.iconst 1, 1) := by decide +kernel
theorem dL_law_265 : decode cL_law 265 = .ok (.iadd, 1) := by decide +kernel
theorem dL_law_266 : decode cL_law 266 = .ok (.iaload, 1) := by decide +kernel
theorem dL_law_267 : decode cL_law 267 = .ok (.invokevirtual 37, 3) := by decide +kernel
theorem dL_law_270 : decode cL_law 270 = .ok (.aload_n 2, 1) := by decide +kernel
theorem dL_law_271 : decode cL_law 271 = .ok (.aload_n 0, 1) := by decide +kernel
theorem dL_law_272 : decode cL_law 272 = .ok (.iload_n 3, 1) := by decide +kernel
theorem dL_law_273 : decode cL_law 273 = .ok (.iconst 1, 1) := by decide +kernel
theorem dL_law_274 : decode cL_law 274 = .ok (.iadd, 1) := by decide +kernel
theorem dL_law_275 : decode cL_law 275 = .ok (.iaload, 1) := by decide +kernel
theorem dL_law_276 : decode cL_law 276 = .ok (.invokevirtual 41, 3) := by decide +kernel
theorem dL_law_279 : decode cL_law 279 = .ok (.lcmp, 1) := by decide +kernel
theorem dL_law_280 : decode cL_law 280 = .ok (.ifCond .eq 751, 3) := by decide +kernel
theorem dL_law_283 : decode cL_law 283 = .ok (.iconst 0, 1) := by decide +kernel
theorem dL_law_284 : decode cL_law 284 = .ok (.ireturn, 1) := by decide +kernel
theorem dL_law_285 : decode cL_law 285 = .ok (.aload_n 1, 1) := by decide +kernel
theorem dL_law_286 : decode cL_law 286 = .ok (.aload_n 0, 1) := by decide +kernel
theorem dL_law_287 : decode cL_law 287 = .ok (.iload_n 3, 1) := by decide +kernel
theorem dL_law_288 : decode cL_law 288 = .ok (.iconst 1, 1) := by decide +kernel
theorem dL_law_289 : decode cL_law 289 = .ok (.iadd, 1) := by decide +kernel
theorem dL_law_290 : decode cL_law 290 = .ok (.iaload, 1) := by decide +kernel
theorem dL_law_291 : decode cL_law 291 = .ok (.invokevirtual 42, 3) := by decide +kernel
theorem dL_law_294 : decode cL_law 294 = .ok (.aload_n 2, 1) := by decide +kernel
theorem dL_law_295 : decode cL_law 295 = .ok (.aload_n 0, 1) := by decide +kernel
theorem dL_law_296 : decode cL_law 296 = .ok (.iload_n 3, 1) := by decide +kernel
theorem dL_law_297 : decode cL_law 297 = .ok (.iconst 1, 1) := by decide +kernel
theorem dL_law_298 : decode cL_law 298 = .ok (.iadd, 1) := by decide +kernel
theorem dL_law_299 : decode cL_law 299 = .ok (.iaload, 1) := by decide +kernel
theorem dL_law_300 : decode cL_law 300 = .ok (.invokevirtual 45, 3) := by decide +kernel
theorem dL_law_303 : decode cL_law 303 = .ok (.lcmp, 1) := by decide +kernel
theorem dL_law_304 : decode cL_law 304 = .ok (.ifCond .eq 727, 3) := by decide +kernel
theorem dL_law_307 : decode cL_law 307 = .ok (.iconst 0, 1) := by decide +kernel
theorem dL_law_308 : decode cL_law 308 = .ok (.ireturn, 1) := by decide +kernel
theorem dL_law_309 : decode cL_law 309 = .ok (.aload_n 1, 1) := by decide +kernel
theorem dL_law_310 : decode cL_law 310 = .ok (.aload_n 0, 1) := by decide +kernel
theorem dL_law_311 : decode cL_law 311 = .ok (.iload_n 3, 1) := by decide +kernel
theorem dL_law_312 : decode cL_law 312 = .ok (.iconst 1, 1) := by decide +kernel
theorem dL_law_313 : decode cL_law 313 = .ok (.iadd, 1) := by decide +kernel
theorem dL_law_314 : decode cL_law 314 = .ok (.iaload, 1) := by decide +kernel
theorem dL_law_315 : decode cL_law 315 = .ok (.i2l, 1) := by decide +kernel
theorem dL_law_316 : decode cL_law 316 = .ok (.bipush 32, 2) := by decide +kernel
theorem dL_law_318 : decode cL_law 318 = .ok (.lshl, 1) := by decide +kernel
theorem dL_law_319 : decode cL_law 319 = .ok (.aload_n 0, 1) := by decide +kernel
theorem dL_law_320 : decode cL_law 320 = .ok (.iload_n 3, 1) := by decide +kernel
theorem dL_law_321 : decode cL_law 321 = .ok (.iconst 2, 1) := by decide +kernel
theorem dL_law_322 : decode cL_law 322 = .ok (.iadd, 1) := by decide +kernel
theorem dL_law_323 : decode cL_law 323 = .ok (.iaload, 1) := by decide +kernel
theorem dL_law_324 : decode cL_law 324 = .ok (.i2l, 1) := by decide +kernel
theorem dL_law_325 : decode cL_law 325 = .ok (.ldc2_w 26, 3) := by decide +kernel
theorem dL_law_328 : decode cL_law 328 = .ok (.land, 1) := by decide +kernel
theorem dL_law_329 : decode cL_law 329 = .ok (.lor, 1) := by decide +kernel
theorem dL_law_330 : decode cL_law 330 = .ok (.invokevirtual 46, 3) := by decide +kernel
theorem dL_law_333 : decode cL_law 333 = .ok (.aload_n 2, 1) := by decide +kernel
theorem dL_law_334 : decode cL_law 334 = .ok (.aload_n 0, 1) := by decide +kernel
theorem dL_law_335 : decode cL_law 335 = .ok (.iload_n 3, 1) := by decide +kernel
theorem dL_law_336 : decode cL_law 336 = .ok (.iconst 1, 1) := by decide +kernel
theorem dL_law_337 : decode cL_law 337 = .ok (.iadd, 1) := by decide +kernel
theorem dL_law_338 : decode cL_law 338 = .ok (.iaload, 1) := by decide +kernel
theorem dL_law_339 : decode cL_law 339 = .ok (.i2l, 1) := by decide +kernel
theorem dL_law_340 : decode cL_law 340 = .ok (.bipush 32, 2) := by decide +kernel
theorem dL_law_342 : decode cL_law 342 = .ok (.lshl, 1) := by decide +kernel
theorem dL_law_343 : decode cL_law 343 = .ok (.aload_n 0, 1) := by decide +kernel
theorem dL_law_344 : decode cL_law 344 = .ok (.iload_n 3, 1) := by decide +kernel
theorem dL_law_345 : decode cL_law 345 = .ok (.iconst 2, 1) := by decide +kernel
theorem dL_law_346 : decode cL_law 346 = .ok (.iadd, 1) := by decide +kernel
theorem dL_law_347 : decode cL_law 347 = .ok (.iaload, 1) := by decide +kernel
theorem dL_law_348 : decode cL_law 348 = .ok (.i2l, 1) := by decide +kernel
theorem dL_law_349 : decode cL_law 349 = .ok (.ldc2_w 26, 3) := by decide +kernel
theorem dL_law_352 : decode cL_law 352 = .ok (.land, 1) := by decide +kernel
theorem dL_law_353 : decode cL_law 353 = .ok (.lor, 1) := by decide +kernel
theorem dL_law_354 : decode cL_law 354 = .ok (.invokevirtual 50, 3) := by decide +kernel
theorem dL_law_357 : decode cL_law 357 = .ok (.if_icmp .eq 674, 3) := by decide +kernel
theorem dL_law_360 : decode cL_law 360 = .ok (.iconst 0, 1) := by decide +kernel
theorem dL_law_361 : decode cL_law 361 = .ok (.ireturn, 1) := by decide +kernel
theorem dL_law_362 : decode cL_law 362 = .ok (.aload_n 1, 1) := by decide +kernel
theorem dL_law_363 : decode cL_law 363 = .ok (.aload_n 0, 1) := by decide +kernel
theorem dL_law_364 : decode cL_law 364 = .ok (.iload_n 3, 1) := by decide +kernel
theorem dL_law_365 : decode cL_law 365 = .ok (.iconst 1, 1) := by decide +kernel
theorem dL_law_366 : decode cL_law 366 = .ok (.iadd, 1) := by decide +kernel
theorem dL_law_367 : decode cL_law 367 = .ok (.iaload, 1) := by decide +kernel
theorem dL_law_368 : decode cL_law 368 = .ok (.invokevirtual 51, 3) := by decide +kernel
theorem dL_law_371 : decode cL_law 371 = .ok (.aload_n 2, 1) := by decide +kernel
theorem dL_law_372 : decode cL_law 372 = .ok (.aload_n 0, 1) := by decide +kernel
theorem dL_law_373 : decode cL_law 373 = .ok (.iload_n 3, 1) := by decide +kernel
theorem dL_law_374 : decode cL_law 374 = .ok (.iconst 1, 1) := by decide +kernel
theorem dL_law_375 : decode cL_law 375 = .ok (.iadd, 1) := by decide +kernel
theorem dL_law_376 : decode cL_law 376 = .ok (.iaload, 1) := by decide +kernel
theorem dL_law_377 : decode cL_law 377 = .ok (.invokevirtual 54, 3) := by decide +kernel
theorem dL_law_380 : decode cL_law 380 = .ok (.if_icmp .eq 651, 3) := by decide +kernel
theorem dL_law_383 : decode cL_law 383 = .ok (.iconst 0, 1) := by decide +kernel
theorem dL_law_384 : decode cL_law 384 = .ok (.ireturn, 1) := by decide +kernel
theorem dL_law_385 : decode cL_law 385 = .ok (.aload_n 1, 1) := by decide +kernel
theorem dL_law_386 : decode cL_law 386 = .ok (.aload_n 0, 1) := by decide +kernel
theorem dL_law_387 : decode cL_law 387 = .ok (.iload_n 3, 1) := by decide +kernel
theorem dL_law_388 : decode cL_law 388 = .ok (.iconst 1, 1) := by decide +kernel
theorem dL_law_389 : decode cL_law 389 = .ok (.iadd, 1) := by decide +kernel
theorem dL_law_390 : decode cL_law 390 = .ok (.iaload, 1) := by decide +kernel
theorem dL_law_391 : decode cL_law 391 = .ok (.invokevirtual 55, 3) := by decide +kernel
theorem dL_law_394 : decode cL_law 394 = .ok (.aload_n 2, 1) := by decide +kernel
theorem dL_law_395 : decode cL_law 395 = .ok (.aload_n 0, 1) := by decide +kernel
theorem dL_law_396 : decode cL_law 396 = .ok (.iload_n 3, 1) := by decide +kernel
theorem dL_law_397 : decode cL_law 397 = .ok (.iconst 1, 1) := by decide +kernel
theorem dL_law_398 : decode cL_law 398 = .ok (.iadd, 1) := by decide +kernel
theorem dL_law_399 : decode cL_law 399 = .ok (.iaload, 1) := by decide +kernel
theorem dL_law_400 : decode cL_law 400 = .ok (.invokevirtual 58, 3) := by decide +kernel
theorem dL_law_403 : decode cL_law 403 = .ok (.lcmp, 1) := by decide +kernel
theorem dL_law_404 : decode cL_law 404 = .ok (.ifCond .eq 627, 3) := by decide +kernel
theorem dL_law_407 : decode cL_law 407 = .ok (.iconst 0, 1) := by decide +kernel
theorem dL_law_408 : decode cL_law 408 = .ok (.ireturn, 1) := by decide +kernel
theorem dL_law_409 : decode cL_law 409 = .ok (.aload_n 1, 1) := by decide +kernel
theorem dL_law_410 : decode cL_law 410 = .ok (.aload_n 0, 1) := by decide +kernel
theorem dL_law_411 : decode cL_law 411 = .ok (.iload_n 3, 1) := by decide +kernel
theorem dL_law_412 : decode cL_law 412 = .ok (.iconst 1, 1) := by decide +kernel
theorem dL_law_413 : decode cL_law 413 = .ok (.iadd, 1) := by decide +kernel
theorem dL_law_414 : decode cL_law 414 = .ok (.iaload, 1) := by decide +kernel
theorem dL_law_415 : decode cL_law 415 = .ok (.i2l, 1) := by decide +kernel
theorem dL_law_416 : decode cL_law 416 = .ok (.bipush 32, 2) := by decide +kernel
theorem dL_law_418 : decode cL_law 418 = .ok (.lshl, 1) := by decide +kernel
theorem dL_law_419 : decode cL_law 419 = .ok (.aload_n 0, 1) := by decide +kernel
theorem dL_law_420 : decode cL_law 420 = .ok (.iload_n 3, 1) := by decide +kernel
theorem dL_law_421 : decode cL_law 421 = .ok (.iconst 2, 1) := by decide +kernel
theorem dL_law_422 : decode cL_law 422 = .ok (.iadd, 1) := by decide +kernel
theorem dL_law_423 : decode cL_law 423 = .ok (.iaload, 1) := by decide +kernel
theorem dL_law_424 : decode cL_law 424 = .ok (.i2l, 1) := by decide +kernel
theorem dL_law_425 : decode cL_law 425 = .ok (.ldc2_w 26, 3) := by decide +kernel
theorem dL_law_428 : decode cL_law 428 = .ok (.land, 1) := by decide +kernel
theorem dL_law_429 : decode cL_law 429 = .ok (.lor, 1) := by decide +kernel
theorem dL_law_430 : decode cL_law 430 = .ok (.invokevirtual 59, 3) := by decide +kernel
theorem dL_law_433 : decode cL_law 433 = .ok (.aload_n 2, 1) := by decide +kernel
theorem dL_law_434 : decode cL_law 434 = .ok (.aload_n 0, 1) := by decide +kernel
theorem dL_law_435 : decode cL_law 435 = .ok (.iload_n 3, 1) := by decide +kernel
theorem dL_law_436 : decode cL_law 436 = .ok (.iconst 1, 1) := by decide +kernel
theorem dL_law_437 : decode cL_law 437 = .ok (.iadd, 1) := by decide +kernel
theorem dL_law_438 : decode cL_law 438 = .ok (.iaload, 1) := by decide +kernel
theorem dL_law_439 : decode cL_law 439 = .ok (.i2l, 1) := by decide +kernel
theorem dL_law_440 : decode cL_law 440 = .ok (.bipush 32, 2) := by decide +kernel
theorem dL_law_442 : decode cL_law 442 = .ok (.lshl, 1) := by decide +kernel
theorem dL_law_443 : decode cL_law 443 = .ok (.aload_n 0, 1) := by decide +kernel
theorem dL_law_444 : decode cL_law 444 = .ok (.iload_n 3, 1) := by decide +kernel
theorem dL_law_445 : decode cL_law 445 = .ok (.iconst 2, 1) := by decide +kernel
theorem dL_law_446 : decode cL_law 446 = .ok (.iadd, 1) := by decide +kernel
theorem dL_law_447 : decode cL_law 447 = .ok (.iaload, 1) := by decide +kernel
theorem dL_law_448 : decode cL_law 448 = .ok (.i2l, 1) := by decide +kernel
theorem dL_law_449 : decode cL_law 449 = .ok (.ldc2_w 26, 3) := by decide +kernel
theorem dL_law_452 : decode cL_law 452 = .ok (.land, 1) := by decide +kernel
theorem dL_law_453 : decode cL_law 453 = .ok (.lor, 1) := by decide +kernel
theorem dL_law_454 : decode cL_law 454 = .ok (.invokevirtual 62, 3) := by decide +kernel
theorem dL_law_457 : decode cL_law 457 = .ok (.if_icmp .eq 574, 3) := by decide +kernel
theorem dL_law_460 : decode cL_law 460 = .ok (.iconst 0, 1) := by decide +kernel
theorem dL_law_461 : decode cL_law 461 = .ok (.ireturn, 1) := by decide +kernel
theorem dL_law_462 : decode cL_law 462 = .ok (.aload_n 1, 1) := by decide +kernel
theorem dL_law_463 : decode cL_law 463 = .ok (.aload_n 0, 1) := by decide +kernel
theorem dL_law_464 : decode cL_law 464 = .ok (.iload_n 3, 1) := by decide +kernel
theorem dL_law_465 : decode cL_law 465 = .ok (.iconst 1, 1) := by decide +kernel
theorem dL_law_466 : decode cL_law 466 = .ok (.iadd, 1) := by decide +kernel
theorem dL_law_467 : decode cL_law 467 = .ok (.iaload, 1) := by decide +kernel
theorem dL_law_468 : decode cL_law 468 = .ok (.invokevirtual 63, 3) := by decide +kernel
theorem dL_law_471 : decode cL_law 471 = .ok (.aload_n 2, 1) := by decide +kernel
theorem dL_law_472 : decode cL_law 472 = .ok (.aload_n 0, 1) := by decide +kernel
theorem dL_law_473 : decode cL_law 473 = .ok (.iload_n 3, 1) := by decide +kernel
theorem dL_law_474 : decode cL_law 474 = .ok (.iconst 1, 1) := by decide +kernel
theorem dL_law_475 : decode cL_law 475 = .ok (.iadd, 1) := by decide +kernel
theorem dL_law_476 : decode cL_law 476 = .ok (.iaload, 1) := by decide +kernel
theorem dL_law_477 : decode cL_law 477 = .ok (.invokevirtual 66, 3) := by decide +kernel
theorem dL_law_480 : decode cL_law 480 = .ok (.if_icmp .eq 551, 3) := by decide +kernel
theorem dL_law_483 : decode cL_law 483 = .ok (.iconst 0, 1) := by decide +kernel
theorem dL_law_484 : decode cL_law 484 = .ok (.ireturn, 1) := by decide +kernel
theorem dL_law_485 : decode cL_law 485 = .ok (.aload_n 1, 1) := by decide +kernel
theorem dL_law_486 : decode cL_law 486 = .ok (.aload_n 0, 1) := by decide +kernel
theorem dL_law_487 : decode cL_law 487 = .ok (.iload_n 3, 1) := by decide +kernel
theorem dL_law_488 : decode cL_law 488 = .ok (.iconst 1, 1) := by decide +kernel
theorem dL_law_489 : decode cL_law 489 = .ok (.iadd, 1) := by decide +kernel
theorem dL_law_490 : decode cL_law 490 = .ok (.iaload, 1) := by decide +kernel
theorem dL_law_491 : decode cL_law 491 = .ok (.invokevirtual 67, 3) := by decide +kernel
theorem dL_law_494 : decode cL_law 494 = .ok (.aload_n 2, 1) := by decide +kernel
theorem dL_law_495 : decode cL_law 495 = .ok (.aload_n 0, 1) := by decide +kernel
theorem dL_law_496 : decode cL_law 496 = .ok (.iload_n 3, 1) := by decide +kernel
theorem dL_law_497 : decode cL_law 497 = .ok (.iconst 1, 1) := by decide +kernel
theorem dL_law_498 : decode cL_law 498 = .ok (.iadd, 1) := by decide +kernel
theorem dL_law_499 : decode cL_law 499 = .ok (.iaload, 1) := by decide +kernel
theorem dL_law_500 : decode cL_law 500 = .ok (.invokevirtual 70, 3) := by decide +kernel
theorem dL_law_503 : decode cL_law 503 = .ok (.lcmp, 1) := by decide +kernel
theorem dL_law_504 : decode cL_law 504 = .ok (.ifCond .eq 527, 3) := by decide +kernel
theorem dL_law_507 : decode cL_law 507 = .ok (.iconst 0, 1) := by decide +kernel
theorem dL_law_508 : decode cL_law 508 = .ok (.ireturn, 1) := by decide +kernel
theorem dL_law_509 : decode cL_law 509 = .ok (.aload_n 1, 1) := by decide +kernel
theorem dL_law_510 : decode cL_law 510 = .ok (.aload_n 0, 1) := by decide +kernel
theorem dL_law_511 : decode cL_law 511 = .ok (.iload_n 3, 1) := by decide +kernel
theorem dL_law_512 : decode cL_law 512 = .ok (.iconst 1, 1) := by decide +kernel
theorem dL_law_513 : decode cL_law 513 = .ok (.iadd, 1) := by decide +kernel
theorem dL_law_514 : decode cL_law 514 = .ok (.iaload, 1) := by decide +kernel
theorem dL_law_515 : decode cL_law 515 = .ok (.i2l, 1) := by decide +kernel
theorem dL_law_516 : decode cL_law 516 = .ok (.bipush 32, 2) := by decide +kernel
theorem dL_law_518 : decode cL_law 518 = .ok (.lshl, 1) := by decide +kernel
theorem dL_law_519 : decode cL_law 519 = .ok (.aload_n 0, 1) := by decide +kernel
theorem dL_law_520 : decode cL_law 520 = .ok (.iload_n 3, 1) := by decide +kernel
theorem dL_law_521 : decode cL_law 521 = .ok (.iconst 2, 1) := by decide +kernel
theorem dL_law_522 : decode cL_law 522 = .ok (.iadd, 1) := by decide +kernel
theorem dL_law_523 : decode cL_law 523 = .ok (.iaload, 1) := by decide +kernel
theorem dL_law_524 : decode cL_law 524 = .ok (.i2l, 1) := by decide +kernel
theorem dL_law_525 : decode cL_law 525 = .ok (.ldc2_w 26, 3) := by decide +kernel
theorem dL_law_528 : decode cL_law 528 = .ok (.land, 1) := by decide +kernel
theorem dL_law_529 : decode cL_law 529 = .ok (.lor, 1) := by decide +kernel
theorem dL_law_530 : decode cL_law 530 = .ok (.aload_n 0, 1) := by decide +kernel
theorem dL_law_531 : decode cL_law 531 = .ok (.iload_n 3, 1) := by decide +kernel
theorem dL_law_532 : decode cL_law 532 = .ok (.iconst 3, 1) := by decide +kernel
theorem dL_law_533 : decode cL_law 533 = .ok (.iadd, 1) := by decide +kernel
theorem dL_law_534 : decode cL_law 534 = .ok (.iaload, 1) := by decide +kernel
theorem dL_law_535 : decode cL_law 535 = .ok (.aload_n 0, 1) := by decide +kernel
theorem dL_law_536 : decode cL_law 536 = .ok (.iload_n 3, 1) := by decide +kernel
theorem dL_law_537 : decode cL_law 537 = .ok (.iconst 4, 1) := by decide +kernel
theorem dL_law_538 : decode cL_law 538 = .ok (.iadd, 1) := by decide +kernel
theorem dL_law_539 : decode cL_law 539 = .ok (.iaload, 1) := by decide +kernel
theorem dL_law_540 : decode cL_law 540 = .ok (.aload_n 0, 1) := by decide +kernel
theorem dL_law_541 : decode cL_law 541 = .ok (.iload_n 3, 1) := by decide +kernel
theorem dL_law_542 : decode cL_law 542 = .ok (.iconst 5, 1) := by decide +kernel
theorem dL_law_543 : decode cL_law 543 = .ok (.iadd, 1) := by decide +kernel
theorem dL_law_544 : decode cL_law 544 = .ok (.iaload, 1) := by decide +kernel
theorem dL_law_545 : decode cL_law 545 = .ok (.aload_n 0, 1) := by decide +kernel
theorem dL_law_546 : decode cL_law 546 = .ok (.iload_n 3, 1) := by decide +kernel
theorem dL_law_547 : decode cL_law 547 = .ok (.bipush 6, 2) := by decide +kernel
theorem dL_law_549 : decode cL_law 549 = .ok (.iadd, 1) := by decide +kernel
theorem dL_law_550 : decode cL_law 550 = .ok (.iaload, 1) := by decide +kernel
theorem dL_law_551 : decode cL_law 551 = .ok (.i2l, 1) := by decide +kernel
theorem dL_law_552 : decode cL_law 552 = .ok (.bipush 32, 2) := by decide +kernel
theorem dL_law_554 : decode cL_law 554 = .ok (.lshl, 1) := by decide +kernel
theorem dL_law_555 : decode cL_law 555 = .ok (.aload_n 0, 1) := by decide +kernel
theorem dL_law_556 : decode cL_law 556 = .ok (.iload_n 3, 1) := by decide +kernel
theorem dL_law_557 : decode cL_law 557 = .ok (.bipush 7, 2) := by decide +kernel
theorem dL_law_559 : decode cL_law 559 = .ok (.iadd, 1) := by decide +kernel
theorem dL_law_560 : decode cL_law 560 = .ok (.iaload, 1) := by decide +kernel
theorem dL_law_561 : decode cL_law 561 = .ok (.i2l, 1) := by decide +kernel
theorem dL_law_562 : decode cL_law 562 = .ok (.ldc2_w 26, 3) := by decide +kernel
theorem dL_law_565 : decode cL_law 565 = .ok (.land, 1) := by decide +kernel
theorem dL_law_566 : decode cL_law 566 = .ok (.lor, 1) := by decide +kernel
theorem dL_law_567 : decode cL_law 567 = .ok (.invokevirtual 71, 3) := by decide +kernel
theorem dL_law_570 : decode cL_law 570 = .ok (.aload_n 2, 1) := by decide +kernel
theorem dL_law_571 : decode cL_law 571 = .ok (.aload_n 0, 1) := by decide +kernel
theorem dL_law_572 : decode cL_law 572 = .ok (.iload_n 3, 1) := by decide +kernel
theorem dL_law_573 : decode cL_law 573 = .ok (.iconst 1, 1) := by decide +kernel
theorem dL_law_574 : decode cL_law 574 = .ok (.iadd, 1) := by decide +kernel
theorem dL_law_575 : decode cL_law 575 = .ok (.iaload, 1) := by decide +kernel
theorem dL_law_576 : decode cL_law 576 = .ok (.i2l, 1) := by decide +kernel
theorem dL_law_577 : decode cL_law 577 = .ok (.bipush 32, 2) := by decide +kernel
theorem dL_law_579 : decode cL_law 579 = .ok (.lshl, 1) := by decide +kernel
theorem dL_law_580 : decode cL_law 580 = .ok (.aload_n 0, 1) := by decide +kernel
theorem dL_law_581 : decode cL_law 581 = .ok (.iload_n 3, 1) := by decide +kernel
theorem dL_law_582 : decode cL_law 582 = .ok (.iconst 2, 1) := by decide +kernel
theorem dL_law_583 : decode cL_law 583 = .ok (.iadd, 1) := by decide +kernel
theorem dL_law_584 : decode cL_law 584 = .ok (.iaload, 1) := by decide +kernel
theorem dL_law_585 : decode cL_law 585 = .ok (.i2l, 1) := by decide +kernel
theorem dL_law_586 : decode cL_law 586 = .ok (.ldc2_w 26, 3) := by decide +kernel
theorem dL_law_589 : decode cL_law 589 = .ok (.land, 1) := by decide +kernel
theorem dL_law_590 : decode cL_law 590 = .ok (.lor, 1) := by decide +kernel
theorem dL_law_591 : decode cL_law 591 = .ok (.aload_n 0, 1) := by decide +kernel
theorem dL_law_592 : decode cL_law 592 = .ok (.iload_n 3, 1) := by decide +kernel
theorem dL_law_593 : decode cL_law 593 = .ok (.iconst 3, 1) := by decide +kernel
theorem dL_law_594 : decode cL_law 594 = .ok (.iadd, 1) := by decide +kernel
theorem dL_law_595 : decode cL_law 595 = .ok (.iaload, 1) := by decide +kernel
theorem dL_law_596 : decode cL_law 596 = .ok (.aload_n 0, 1) := by decide +kernel
theorem dL_law_597 : decode cL_law 597 = .ok (.iload_n 3, 1) := by decide +kernel
theorem dL_law_598 : decode cL_law 598 = .ok (.iconst 4, 1) := by decide +kernel
theorem dL_law_599 : decode cL_law 599 = .ok (.iadd, 1) := by decide +kernel
theorem dL_law_600 : decode cL_law 600 = .ok (.iaload, 1) := by decide +kernel
theorem dL_law_601 : decode cL_law 601 = .ok (.aload_n 0, 1) := by decide +kernel
theorem dL_law_602 : decode cL_law 602 = .ok (.iload_n 3, 1) := by decide +kernel
theorem dL_law_603 : decode cL_law 603 = .ok (.iconst 5, 1) := by decide +kernel
theorem dL_law_604 : decode cL_law 604 = .ok (.iadd, 1) := by decide +kernel
theorem dL_law_605 : decode cL_law 605 = .ok (.iaload, 1) := by decide +kernel
theorem dL_law_606 : decode cL_law 606 = .ok (.aload_n 0, 1) := by decide +kernel
theorem dL_law_607 : decode cL_law 607 = .ok (.iload_n 3, 1) := by decide +kernel
theorem dL_law_608 : decode cL_law 608 = .ok (.bipush 6, 2) := by decide +kernel
theorem dL_law_610 : decode cL_law 610 = .ok (.iadd, 1) := by decide +kernel
theorem dL_law_611 : decode cL_law 611 = .ok (.iaload, 1) := by decide +kernel
theorem dL_law_612 : decode cL_law 612 = .ok (.i2l, 1) := by decide +kernel
theorem dL_law_613 : decode cL_law 613 = .ok (.bipush 32, 2) := by decide +kernel
theorem dL_law_615 : decode cL_law 615 = .ok (.lshl, 1) := by decide +kernel
theorem dL_law_616 : decode cL_law 616 = .ok (.aload_n 0, 1) := by decide +kernel
theorem dL_law_617 : decode cL_law 617 = .ok (.iload_n 3, 1) := by decide +kernel
theorem dL_law_618 : decode cL_law 618 = .ok (.bipush 7, 2) := by decide +kernel
theorem dL_law_620 : decode cL_law 620 = .ok (.iadd, 1) := by decide +kernel
theorem dL_law_621 : decode cL_law 621 = .ok (.iaload, 1) := by decide +kernel
theorem dL_law_622 : decode cL_law 622 = .ok (.i2l, 1) := by decide +kernel
theorem dL_law_623 : decode cL_law 623 = .ok (.ldc2_w 26, 3) := by decide +kernel
theorem dL_law_626 : decode cL_law 626 = .ok (.land, 1) := by decide +kernel
theorem dL_law_627 : decode cL_law 627 = .ok (.lor, 1) := by decide +kernel
theorem dL_law_628 : decode cL_law 628 = .ok (.invokevirtual 75, 3) := by decide +kernel
theorem dL_law_631 : decode cL_law 631 = .ok (.if_icmp .eq 400, 3) := by decide +kernel
theorem dL_law_634 : decode cL_law 634 = .ok (.iconst 0, 1) := by decide +kernel
theorem dL_law_635 : decode cL_law 635 = .ok (.ireturn, 1) := by decide +kernel
theorem dL_law_636 : decode cL_law 636 = .ok (.aload_n 1, 1) := by decide +kernel
theorem dL_law_637 : decode cL_law 637 = .ok (.aload_n 0, 1) := by decide +kernel
theorem dL_law_638 : decode cL_law 638 = .ok (.iload_n 3, 1) := by decide +kernel
theorem dL_law_639 : decode cL_law 639 = .ok (.iconst 1, 1) := by decide +kernel
theorem dL_law_640 : decode cL_law 640 = .ok (.iadd, 1) := by decide +kernel
theorem dL_law_641 : decode cL_law 641 = .ok (.iaload, 1) := by decide +kernel
theorem dL_law_642 : decode cL_law 642 = .ok (.i2l, 1) := by decide +kernel
theorem dL_law_643 : decode cL_law 643 = .ok (.bipush 32, 2) := by decide +kernel
theorem dL_law_645 : decode cL_law 645 = .ok (.lshl, 1) := by decide +kernel
theorem dL_law_646 : decode cL_law 646 = .ok (.aload_n 0, 1) := by decide +kernel
theorem dL_law_647 : decode cL_law 647 = .ok (.iload_n 3, 1) := by decide +kernel
theorem dL_law_648 : decode cL_law 648 = .ok (.iconst 2, 1) := by decide +kernel
theorem dL_law_649 : decode cL_law 649 = .ok (.iadd, 1) := by decide +kernel
theorem dL_law_650 : decode cL_law 650 = .ok (.iaload, 1) := by decide +kernel
theorem dL_law_651 : decode cL_law 651 = .ok (.i2l, 1) := by decide +kernel
theorem dL_law_652 : decode cL_law 652 = .ok (.ldc2_w 26, 3) := by decide +kernel
theorem dL_law_655 : decode cL_law 655 = .ok (.land, 1) := by decide +kernel
theorem dL_law_656 : decode cL_law 656 = .ok (.lor, 1) := by decide +kernel
theorem dL_law_657 : decode cL_law 657 = .ok (.invokevirtual 76, 3) := by decide +kernel
theorem dL_law_660 : decode cL_law 660 = .ok (.aload_n 2, 1) := by decide +kernel
theorem dL_law_661 : decode cL_law 661 = .ok (.aload_n 0, 1) := by decide +kernel
theorem dL_law_662 : decode cL_law 662 = .ok (.iload_n 3, 1) := by decide +kernel
theorem dL_law_663 : decode cL_law 663 = .ok (.iconst 1, 1) := by decide +kernel
theorem dL_law_664 : decode cL_law 664 = .ok (.iadd, 1) := by decide +kernel
theorem dL_law_665 : decode cL_law 665 = .ok (.iaload, 1) := by decide +kernel
theorem dL_law_666 : decode cL_law 666 = .ok (.i2l, 1) := by decide +kernel
theorem dL_law_667 : decode cL_law 667 = .ok (.bipush 32, 2) := by decide +kernel
theorem dL_law_669 : decode cL_law 669 = .ok (.lshl, 1) := by decide +kernel
theorem dL_law_670 : decode cL_law 670 = .ok (.aload_n 0, 1) := by decide +kernel
theorem dL_law_671 : decode cL_law 671 = .ok (.iload_n 3, 1) := by decide +kernel
theorem dL_law_672 : decode cL_law 672 = .ok (.iconst 2, 1) := by decide +kernel
theorem dL_law_673 : decode cL_law 673 = .ok (.iadd, 1) := by decide +kernel
theorem dL_law_674 : decode cL_law 674 = .ok (.iaload, 1) := by decide +kernel
theorem dL_law_675 : decode cL_law 675 = .ok (.i2l, 1) := by decide +kernel
theorem dL_law_676 : decode cL_law 676 = .ok (.ldc2_w 26, 3) := by decide +kernel
theorem dL_law_679 : decode cL_law 679 = .ok (.land, 1) := by decide +kernel
theorem dL_law_680 : decode cL_law 680 = .ok (.lor, 1) := by decide +kernel
theorem dL_law_681 : decode cL_law 681 = .ok (.invokevirtual 80, 3) := by decide +kernel
theorem dL_law_684 : decode cL_law 684 = .ok (.goto 347, 3) := by decide +kernel
theorem dL_law_687 : decode cL_law 687 = .ok (.aload_n 1, 1) := by decide +kernel
theorem dL_law_688 : decode cL_law 688 = .ok (.aload_n 0, 1) := by decide +kernel
theorem dL_law_689 : decode cL_law 689 = .ok (.iload_n 3, 1) := by decide +kernel
theorem dL_law_690 : decode cL_law 690 = .ok (.iconst 1, 1) := by decide +kernel
theorem dL_law_691 : decode cL_law 691 = .ok (.iadd, 1) := by decide +kernel
theorem dL_law_692 : decode cL_law 692 = .ok (.iaload, 1) := by decide +kernel
theorem dL_law_693 : decode cL_law 693 = .ok (.aload_n 0, 1) := by decide +kernel
theorem dL_law_694 : decode cL_law 694 = .ok (.iload_n 3, 1) := by decide +kernel
theorem dL_law_695 : decode cL_law 695 = .ok (.iconst 2, 1) := by decide +kernel
theorem dL_law_696 : decode cL_law 696 = .ok (.iadd, 1) := by decide +kernel
theorem dL_law_697 : decode cL_law 697 = .ok (.iaload, 1) := by decide +kernel
theorem dL_law_698 : decode cL_law 698 = .ok (.aload_n 0, 1) := by decide +kernel
theorem dL_law_699 : decode cL_law 699 = .ok (.iload_n 3, 1) := by decide +kernel
theorem dL_law_700 : decode cL_law 700 = .ok (.iconst 3, 1) := by decide +kernel
theorem dL_law_701 : decode cL_law 701 = .ok (.iadd, 1) := by decide +kernel
theorem dL_law_702 : decode cL_law 702 = .ok (.iaload, 1) := by decide +kernel
theorem dL_law_703 : decode cL_law 703 = .ok (.aload_n 0, 1) := by decide +kernel
theorem dL_law_704 : decode cL_law 704 = .ok (.iload_n 3, 1) := by decide +kernel
theorem dL_law_705 : decode cL_law 705 = .ok (.iconst 4, 1) := by decide +kernel
theorem dL_law_706 : decode cL_law 706 = .ok (.iadd, 1) := by decide +kernel
theorem dL_law_707 : decode cL_law 707 = .ok (.iaload, 1) := by decide +kernel
theorem dL_law_708 : decode cL_law 708 = .ok (.i2l, 1) := by decide +kernel
theorem dL_law_709 : decode cL_law 709 = .ok (.bipush 32, 2) := by decide +kernel
theorem dL_law_711 : decode cL_law 711 = .ok (.lshl, 1) := by decide +kernel
theorem dL_law_712 : decode cL_law 712 = .ok (.aload_n 0, 1) := by decide +kernel
theorem dL_law_713 : decode cL_law 713 = .ok (.iload_n 3, 1) := by decide +kernel
theorem dL_law_714 : decode cL_law 714 = .ok (.iconst 5, 1) := by decide +kernel
theorem dL_law_715 : decode cL_law 715 = .ok (.iadd, 1) := by decide +kernel
theorem dL_law_716 : decode cL_law 716 = .ok (.iaload, 1) := by decide +kernel
theorem dL_law_717 : decode cL_law 717 = .ok (.i2l, 1) := by decide +kernel
theorem dL_law_718 : decode cL_law 718 = .ok (.ldc2_w 26, 3) := by decide +kernel
theorem dL_law_721 : decode cL_law 721 = .ok (.land, 1) := by decide +kernel
theorem dL_law_722 : decode cL_law 722 = .ok (.lor, 1) := by decide +kernel
theorem dL_law_723 : decode cL_law 723 = .ok (.invokevirtual 81, 3) := by decide +kernel
theorem dL_law_726 : decode cL_law 726 = .ok (.aload_n 2, 1) := by decide +kernel
theorem dL_law_727 : decode cL_law 727 = .ok (.aload_n 0, 1) := by decide +kernel
theorem dL_law_728 : decode cL_law 728 = .ok (.iload_n 3, 1) := by decide +kernel
theorem dL_law_729 : decode cL_law 729 = .ok (.iconst 1, 1) := by decide +kernel
theorem dL_law_730 : decode cL_law 730 = .ok (.iadd, 1) := by decide +kernel
theorem dL_law_731 : decode cL_law 731 = .ok (.iaload, 1) := by decide +kernel
theorem dL_law_732 : decode cL_law 732 = .ok (.aload_n 0, 1) := by decide +kernel
theorem dL_law_733 : decode cL_law 733 = .ok (.iload_n 3, 1) := by decide +kernel
theorem dL_law_734 : decode cL_law 734 = .ok (.iconst 2, 1) := by decide +kernel
theorem dL_law_735 : decode cL_law 735 = .ok (.iadd, 1) := by decide +kernel
theorem dL_law_736 : decode cL_law 736 = .ok (.iaload, 1) := by decide +kernel
theorem dL_law_737 : decode cL_law 737 = .ok (.aload_n 0, 1) := by decide +kernel
theorem dL_law_738 : decode cL_law 738 = .ok (.iload_n 3, 1) := by decide +kernel
theorem dL_law_739 : decode cL_law 739 = .ok (.iconst 3, 1) := by decide +kernel
theorem dL_law_740 : decode cL_law 740 = .ok (.iadd, 1) := by decide +kernel
theorem dL_law_741 : decode cL_law 741 = .ok (.iaload, 1) := by decide +kernel
theorem dL_law_742 : decode cL_law 742 = .ok (.aload_n 0, 1) := by decide +kernel
theorem dL_law_743 : decode cL_law 743 = .ok (.iload_n 3, 1) := by decide +kernel
theorem dL_law_744 : decode cL_law 744 = .ok (.iconst 4, 1) := by decide +kernel
theorem dL_law_745 : decode cL_law 745 = .ok (.iadd, 1) := by decide +kernel
theorem dL_law_746 : decode cL_law 746 = .ok (.iaload, 1) := by decide +kernel
theorem dL_law_747 : decode cL_law 747 = .ok (.i2l, 1) := by decide +kernel
theorem dL_law_748 : decode cL_law 748 = .ok (.bipush 32, 2) := by decide +kernel
theorem dL_law_750 : decode cL_law 750 = .ok (.lshl, 1) := by decide +kernel
theorem dL_law_751 : decode cL_law 751 = .ok (.aload_n 0, 1) := by decide +kernel
theorem dL_law_752 : decode cL_law 752 = .ok (.iload_n 3, 1) := by decide +kernel
theorem dL_law_753 : decode cL_law 753 = .ok (.iconst 5, 1) := by decide +kernel
theorem dL_law_754 : decode cL_law 754 = .ok (.iadd, 1) := by decide +kernel
theorem dL_law_755 : decode cL_law 755 = .ok (.iaload, 1) := by decide +kernel
theorem dL_law_756 : decode cL_law 756 = .ok (.i2l, 1) := by decide +kernel
theorem dL_law_757 : decode cL_law 757 = .ok (.ldc2_w 26, 3) := by decide +kernel
theorem dL_law_760 : decode cL_law 760 = .ok (.land, 1) := by decide +kernel
theorem dL_law_761 : decode cL_law 761 = .ok (.lor, 1) := by decide +kernel
theorem dL_law_762 : decode cL_law 762 = .ok (.invokevirtual 85, 3) := by decide +kernel
theorem dL_law_765 : decode cL_law 765 = .ok (.if_icmp .eq 266, 3) := by decide +kernel
theorem dL_law_768 : decode cL_law 768 = .ok (.iconst 0, 1) := by decide +kernel
theorem dL_law_769 : decode cL_law 769 = .ok (.ireturn, 1) := by decide +kernel
theorem dL_law_770 : decode cL_law 770 = .ok (.aload_n 1, 1) := by decide +kernel
theorem dL_law_771 : decode cL_law 771 = .ok (.aload_n 0, 1) := by decide +kernel
theorem dL_law_772 : decode cL_law 772 = .ok (.iload_n 3, 1) := by decide +kernel
theorem dL_law_773 : decode cL_law 773 = .ok (.iconst 1, 1) := by decide +kernel
theorem dL_law_774 : decode cL_law 774 = .ok (.iadd, 1) := by decide +kernel
theorem dL_law_775 : decode cL_law 775 = .ok (.iaload, 1) := by decide +kernel
theorem dL_law_776 : decode cL_law 776 = .ok (.aload_n 0, 1) := by decide +kernel
theorem dL_law_777 : decode cL_law 777 = .ok (.iload_n 3, 1) := by decide +kernel
theorem dL_law_778 : decode cL_law 778 = .ok (.iconst 2, 1) := by decide +kernel
theorem dL_law_779 : decode cL_law 779 = .ok (.iadd, 1) := by decide +kernel
theorem dL_law_780 : decode cL_law 780 = .ok (.iaload, 1) := by decide +kernel
theorem dL_law_781 : decode cL_law 781 = .ok (.invokevirtual 86, 3) := by decide +kernel
theorem dL_law_784 : decode cL_law 784 = .ok (.aload_n 2, 1) := by decide +kernel
theorem dL_law_785 : decode cL_law 785 = .ok (.aload_n 0, 1) := by decide +kernel
theorem dL_law_786 : decode cL_law 786 = .ok (.iload_n 3, 1) := by decide +kernel
theorem dL_law_787 : decode cL_law 787 = .ok (.iconst 1, 1) := by decide +kernel
theorem dL_law_788 : decode cL_law 788 = .ok (.iadd, 1) := by decide +kernel
theorem dL_law_789 : decode cL_law 789 = .ok (.iaload, 1) := by decide +kernel
theorem dL_law_790 : decode cL_law 790 = .ok (.aload_n 0, 1) := by decide +kernel
theorem dL_law_791 : decode cL_law 791 = .ok (.iload_n 3, 1) := by decide +kernel
theorem dL_law_792 : decode cL_law 792 = .ok (.iconst 2, 1) := by decide +kernel
theorem dL_law_793 : decode cL_law 793 = .ok (.iadd, 1) := by decide +kernel
theorem dL_law_794 : decode cL_law 794 = .ok (.iaload, 1) := by decide +kernel
theorem dL_law_795 : decode cL_law 795 = .ok (.invokevirtual 90, 3) := by decide +kernel
theorem dL_law_798 : decode cL_law 798 = .ok (.if_icmp .eq 233, 3) := by decide +kernel
theorem dL_law_801 : decode cL_law 801 = .ok (.iconst 0, 1) := by decide +kernel
theorem dL_law_802 : decode cL_law 802 = .ok (.ireturn, 1) := by decide +kernel
theorem dL_law_803 : decode cL_law 803 = .ok (.aload_n 1, 1) := by decide +kernel
theorem dL_law_804 : decode cL_law 804 = .ok (.aload_n 0, 1) := by decide +kernel
theorem dL_law_805 : decode cL_law 805 = .ok (.iload_n 3, 1) := by decide +kernel
theorem dL_law_806 : decode cL_law 806 = .ok (.iconst 1, 1) := by decide +kernel
theorem dL_law_807 : decode cL_law 807 = .ok (.iadd, 1) := by decide +kernel
theorem dL_law_808 : decode cL_law 808 = .ok (.iaload, 1) := by decide +kernel
theorem dL_law_809 : decode cL_law 809 = .ok (.aload_n 0, 1) := by decide +kernel
theorem dL_law_810 : decode cL_law 810 = .ok (.iload_n 3, 1) := by decide +kernel
theorem dL_law_811 : decode cL_law 811 = .ok (.iconst 2, 1) := by decide +kernel
theorem dL_law_812 : decode cL_law 812 = .ok (.iadd, 1) := by decide +kernel
theorem dL_law_813 : decode cL_law 813 = .ok (.iaload, 1) := by decide +kernel
theorem dL_law_814 : decode cL_law 814 = .ok (.aload_n 0, 1) := by decide +kernel
theorem dL_law_815 : decode cL_law 815 = .ok (.iload_n 3, 1) := by decide +kernel
theorem dL_law_816 : decode cL_law 816 = .ok (.iconst 3, 1) := by decide +kernel
theorem dL_law_817 : decode cL_law 817 = .ok (.iadd, 1) := by decide +kernel
theorem dL_law_818 : decode cL_law 818 = .ok (.iaload, 1) := by decide +kernel
theorem dL_law_819 : decode cL_law 819 = .ok (.aload_n 0, 1) := by decide +kernel
theorem dL_law_820 : decode cL_law 820 = .ok (.iload_n 3, 1) := by decide +kernel
theorem dL_law_821 : decode cL_law 821 = .ok (.iconst 4, 1) := by decide +kernel
theorem dL_law_822 : decode cL_law 822 = .ok (.iadd, 1) := by decide +kernel
theorem dL_law_823 : decode cL_law 823 = .ok (.iaload, 1) := by decide +kernel
theorem dL_law_824 : decode cL_law 824 = .ok (.i2l, 1) := by decide +kernel
theorem dL_law_825 : decode cL_law 825 = .ok (.bipush 32, 2) := by decide +kernel
theorem dL_law_827 : decode cL_law 827 = .ok (.lshl, 1) := by decide +kernel
theorem dL_law_828 : decode cL_law 828 = .ok (.aload_n 0, 1) := by decide +kernel
theorem dL_law_829 : decode cL_law 829 = .ok (.iload_n 3, 1) := by decide +kernel
theorem dL_law_830 : decode cL_law 830 = .ok (.iconst 5, 1) := by decide +kernel
theorem dL_law_831 : decode cL_law 831 = .ok (.iadd, 1) := by decide +kernel
theorem dL_law_832 : decode cL_law 832 = .ok (.iaload, 1) := by decide +kernel
theorem dL_law_833 : decode cL_law 833 = .ok (.i2l, 1) := by decide +kernel
theorem dL_law_834 : decode cL_law 834 = .ok (.ldc2_w 26, 3) := by decide +kernel
theorem dL_law_837 : decode cL_law 837 = .ok (.land, 1) := by decide +kernel
theorem dL_law_838 : decode cL_law 838 = .ok (.lor, 1) := by decide +kernel
theorem dL_law_839 : decode cL_law 839 = .ok (.invokevirtual 91, 3) := by decide +kernel
theorem dL_law_842 : decode cL_law 842 = .ok (.aload_n 2, 1) := by decide +kernel
theorem dL_law_843 : decode cL_law 843 = .ok (.aload_n 0, 1) := by decide +kernel
theorem dL_law_844 : decode cL_law 844 = .ok (.iload_n 3, 1) := by decide +kernel
theorem dL_law_845 : decode cL_law 845 = .ok (.iconst 1, 1) := by decide +kernel
theorem dL_law_846 : decode cL_law 846 = .ok (.iadd, 1) := by decide +kernel
theorem dL_law_847 : decode cL_law 847 = .ok (.iaload, 1) := by decide +kernel
theorem dL_law_848 : decode cL_law 848 = .ok (.aload_n 0, 1) := by decide +kernel
theorem dL_law_849 : decode cL_law 849 = .ok (.iload_n 3, 1) := by decide +kernel
theorem dL_law_850 : decode cL_law 850 = .ok (.iconst 2, 1) := by decide +kernel
theorem dL_law_851 : decode cL_law 851 = .ok (.iadd, 1) := by decide +kernel
theorem dL_law_852 : decode cL_law 852 = .ok (.iaload, 1) := by decide +kernel
theorem dL_law_853 : decode cL_law 853 = .ok (.aload_n 0, 1) := by decide +kernel
theorem dL_law_854 : decode cL_law 854 = .ok (.iload_n 3, 1) := by decide +kernel
theorem dL_law_855 : decode cL_law 855 = .ok (.iconst 3, 1) := by decide +kernel
theorem dL_law_856 : decode cL_law 856 = .ok (.iadd, 1) := by decide +kernel
theorem dL_law_857 : decode cL_law 857 = .ok (.iaload, 1) := by decide +kernel
theorem dL_law_858 : decode cL_law 858 = .ok (.aload_n 0, 1) := by decide +kernel
theorem dL_law_859 : decode cL_law 859 = .ok (.iload_n 3, 1) := by decide +kernel
theorem dL_law_860 : decode cL_law 860 = .ok (.iconst 4, 1) := by decide +kernel
theorem dL_law_861 : decode cL_law 861 = .ok (.iadd, 1) := by decide +kernel
theorem dL_law_862 : decode cL_law 862 = .ok (.iaload, 1) := by decide +kernel
theorem dL_law_863 : decode cL_law 863 = .ok (.i2l, 1) := by decide +kernel
theorem dL_law_864 : decode cL_law 864 = .ok (.bipush 32, 2) := by decide +kernel
theorem dL_law_866 : decode cL_law 866 = .ok (.lshl, 1) := by decide +kernel
theorem dL_law_867 : decode cL_law 867 = .ok (.aload_n 0, 1) := by decide +kernel
theorem dL_law_868 : decode cL_law 868 = .ok (.iload_n 3, 1) := by decide +kernel
theorem dL_law_869 : decode cL_law 869 = .ok (.iconst 5, 1) := by decide +kernel
theorem dL_law_870 : decode cL_law 870 = .ok (.iadd, 1) := by decide +kernel
theorem dL_law_871 : decode cL_law 871 = .ok (.iaload, 1) := by decide +kernel
theorem dL_law_872 : decode cL_law 872 = .ok (.i2l, 1) := by decide +kernel
theorem dL_law_873 : decode cL_law 873 = .ok (.ldc2_w 26, 3) := by decide +kernel
theorem dL_law_876 : decode cL_law 876 = .ok (.land, 1) := by decide +kernel
theorem dL_law_877 : decode cL_law 877 = .ok (.lor, 1) := by decide +kernel
theorem dL_law_878 : decode cL_law 878 = .ok (.invokevirtual 94, 3) := by decide +kernel
theorem dL_law_881 : decode cL_law 881 = .ok (.if_icmp .eq 150, 3) := by decide +kernel
theorem dL_law_884 : decode cL_law 884 = .ok (.iconst 0, 1) := by decide +kernel
theorem dL_law_885 : decode cL_law 885 = .ok (.ireturn, 1) := by decide +kernel
theorem dL_law_886 : decode cL_law 886 = .ok (.aload_n 1, 1) := by decide +kernel
theorem dL_law_887 : decode cL_law 887 = .ok (.invokevirtual 95, 3) := by decide +kernel
theorem dL_law_890 : decode cL_law 890 = .ok (.aload_n 2, 1) := by decide +kernel
theorem dL_law_891 : decode cL_law 891 = .ok (.invokevirtual 99, 3) := by decide +kernel
theorem dL_law_894 : decode cL_law 894 = .ok (.lcmp, 1) := by decide +kernel
theorem dL_law_895 : decode cL_law 895 = .ok (.ifCond .eq 136, 3) := by decide +kernel
theorem dL_law_898 : decode cL_law 898 = .ok (.iconst 0, 1) := by decide +kernel
theorem dL_law_899 : decode cL_law 899 = .ok (.ireturn, 1) := by decide +kernel
theorem dL_law_900 : decode cL_law 900 = .ok (.aload_n 1, 1) := by decide +kernel
theorem dL_law_901 : decode cL_law 901 = .ok (.aload_n 0, 1) := by decide +kernel
theorem dL_law_902 : decode cL_law 902 = .ok (.iload_n 3, 1) := by decide +kernel
theorem dL_law_903 : decode cL_law 903 = .ok (.iconst 1, 1) := by decide +kernel
theorem dL_law_904 : decode cL_law 904 = .ok (.iadd, 1) := by decide +kernel
theorem dL_law_905 : decode cL_law 905 = .ok (.iaload, 1) := by decide +kernel
theorem dL_law_906 : decode cL_law 906 = .ok (.aload_n 0, 1) := by decide +kernel
theorem dL_law_907 : decode cL_law 907 = .ok (.iload_n 3, 1) := by decide +kernel
theorem dL_law_908 : decode cL_law 908 = .ok (.iconst 2, 1) := by decide +kernel
theorem dL_law_909 : decode cL_law 909 = .ok (.iadd, 1) := by decide +kernel
theorem dL_law_910 : decode cL_law 910 = .ok (.iaload, 1) := by decide +kernel
theorem dL_law_911 : decode cL_law 911 = .ok (.invokevirtual 100, 3) := by decide +kernel
theorem dL_law_914 : decode cL_law 914 = .ok (.aload_n 2, 1) := by decide +kernel
theorem dL_law_915 : decode cL_law 915 = .ok (.aload_n 0, 1) := by decide +kernel
theorem dL_law_916 : decode cL_law 916 = .ok (.iload_n 3, 1) := by decide +kernel
theorem dL_law_917 : decode cL_law 917 = .ok (.iconst 1, 1) := by decide +kernel
theorem dL_law_918 : decode cL_law 918 = .ok (.iadd, 1) := by decide +kernel
theorem dL_law_919 : decode cL_law 919 = .ok (.iaload, 1) := by decide +kernel
theorem dL_law_920 : decode cL_law 920 = .ok (.aload_n 0, 1) := by decide +kernel
theorem dL_law_921 : decode cL_law 921 = .ok (.iload_n 3, 1) := by decide +kernel
theorem dL_law_922 : decode cL_law 922 = .ok (.iconst 2, 1) := by decide +kernel
theorem dL_law_923 : decode cL_law 923 = .ok (.iadd, 1) := by decide +kernel
theorem dL_law_924 : decode cL_law 924 = .ok (.iaload, 1) := by decide +kernel
theorem dL_law_925 : decode cL_law 925 = .ok (.invokevirtual 104, 3) := by decide +kernel
theorem dL_law_928 : decode cL_law 928 = .ok (.lcmp, 1) := by decide +kernel
theorem dL_law_929 : decode cL_law 929 = .ok (.ifCond .eq 102, 3) := by decide +kernel
theorem dL_law_932 : decode cL_law 932 = .ok (.iconst 0, 1) := by decide +kernel
theorem dL_law_933 : decode cL_law 933 = .ok (.ireturn, 1) := by decide +kernel
theorem dL_law_934 : decode cL_law 934 = .ok (.aload_n 1, 1) := by decide +kernel
theorem dL_law_935 : decode cL_law 935 = .ok (.aload_n 0, 1) := by decide +kernel
theorem dL_law_936 : decode cL_law 936 = .ok (.iload_n 3, 1) := by decide +kernel
theorem dL_law_937 : decode cL_law 937 = .ok (.iconst 1, 1) := by decide +kernel
theorem dL_law_938 : decode cL_law 938 = .ok (.iadd, 1) := by decide +kernel
theorem dL_law_939 : decode cL_law 939 = .ok (.iaload, 1) := by decide +kernel
theorem dL_law_940 : decode cL_law 940 = .ok (.aload_n 0, 1) := by decide +kernel
theorem dL_law_941 : decode cL_law 941 = .ok (.iload_n 3, 1) := by decide +kernel
theorem dL_law_942 : decode cL_law 942 = .ok (.iconst 2, 1) := by decide +kernel
theorem dL_law_943 : decode cL_law 943 = .ok (.iadd, 1) := by decide +kernel
theorem dL_law_944 : decode cL_law 944 = .ok (.iaload, 1) := by decide +kernel
theorem dL_law_945 : decode cL_law 945 = .ok (.aload_n 0, 1) := by decide +kernel
theorem dL_law_946 : decode cL_law 946 = .ok (.iload_n 3, 1) := by decide +kernel
theorem dL_law_947 : decode cL_law 947 = .ok (.iconst 3, 1) := by decide +kernel
theorem dL_law_948 : decode cL_law 948 = .ok (.iadd, 1) := by decide +kernel
theorem dL_law_949 : decode cL_law 949 = .ok (.iaload, 1) := by decide +kernel
theorem dL_law_950 : decode cL_law 950 = .ok (.i2l, 1) := by decide +kernel
theorem dL_law_951 : decode cL_law 951 = .ok (.bipush 32, 2) := by decide +kernel
theorem dL_law_953 : decode cL_law 953 = .ok (.lshl, 1) := by decide +kernel
theorem dL_law_954 : decode cL_law 954 = .ok (.aload_n 0, 1) := by decide +kernel
theorem dL_law_955 : decode cL_law 955 = .ok (.iload_n 3, 1) := by decide +kernel
theorem dL_law_956 : decode cL_law 956 = .ok (.iconst 4, 1) := by decide +kernel
theorem dL_law_957 : decode cL_law 957 = .ok (.iadd, 1) := by decide +kernel
theorem dL_law_958 : decode cL_law 958 = .ok (.iaload, 1) := by decide +kernel
theorem dL_law_959 : decode cL_law 959 = .ok (.i2l, 1) := by decide +kernel
theorem dL_law_960 : decode cL_law 960 = .ok (.ldc2_w 26, 3) := by decide +kernel
theorem dL_law_963 : decode cL_law 963 = .ok (.land, 1) := by decide +kernel
theorem dL_law_964 : decode cL_law 964 = .ok (.lor, 1) := by decide +kernel
theorem dL_law_965 : decode cL_law 965 = .ok (.invokevirtual 105, 3) := by decide +kernel
theorem dL_law_968 : decode cL_law 968 = .ok (.aload_n 2, 1) := by decide +kernel
theorem dL_law_969 : decode cL_law 969 = .ok (.aload_n 0, 1) := by decide +kernel
theorem dL_law_970 : decode cL_law 970 = .ok (.iload_n 3, 1) := by decide +kernel
theorem dL_law_971 : decode cL_law 971 = .ok (.iconst 1, 1) := by decide +kernel
theorem dL_law_972 : decode cL_law 972 = .ok (.iadd, 1) := by decide +kernel
theorem dL_law_973 : decode cL_law 973 = .ok (.iaload, 1) := by decide +kernel
theorem dL_law_974 : decode cL_law 974 = .ok (.aload_n 0, 1) := by decide +kernel
theorem dL_law_975 : decode cL_law 975 = .ok (.iload_n 3, 1) := by decide +kernel
theorem dL_law_976 : decode cL_law 976 = .ok (.iconst 2, 1) := by decide +kernel
theorem dL_law_977 : decode cL_law 977 = .ok (.iadd, 1) := by decide +kernel
theorem dL_law_978 : decode cL_law 978 = .ok (.iaload, 1) := by decide +kernel
theorem dL_law_979 : decode cL_law 979 = .ok (.aload_n 0, 1) := by decide +kernel
theorem dL_law_980 : decode cL_law 980 = .ok (.iload_n 3, 1) := by decide +kernel
theorem dL_law_981 : decode cL_law 981 = .ok (.iconst 3, 1) := by decide +kernel
theorem dL_law_982 : decode cL_law 982 = .ok (.iadd, 1) := by decide +kernel
theorem dL_law_983 : decode cL_law 983 = .ok (.iaload, 1) := by decide +kernel
theorem dL_law_984 : decode cL_law 984 = .ok (.i2l, 1) := by decide +kernel
theorem dL_law_985 : decode cL_law 985 = .ok (.bipush 32, 2) := by decide +kernel
theorem dL_law_987 : decode cL_law 987 = .ok (.lshl, 1) := by decide +kernel
theorem dL_law_988 : decode cL_law 988 = .ok (.aload_n 0, 1) := by decide +kernel
theorem dL_law_989 : decode cL_law 989 = .ok (.iload_n 3, 1) := by decide +kernel
theorem dL_law_990 : decode cL_law 990 = .ok (.iconst 4, 1) := by decide +kernel
theorem dL_law_991 : decode cL_law 991 = .ok (.iadd, 1) := by decide +kernel
theorem dL_law_992 : decode cL_law 992 = .ok (.iaload, 1) := by decide +kernel
theorem dL_law_993 : decode cL_law 993 = .ok (.i2l, 1) := by decide +kernel
theorem dL_law_994 : decode cL_law 994 = .ok (.ldc2_w 26, 3) := by decide +kernel
theorem dL_law_997 : decode cL_law 997 = .ok (.land, 1) := by decide +kernel
theorem dL_law_998 : decode cL_law 998 = .ok (.lor, 1) := by decide +kernel
theorem dL_law_999 : decode cL_law 999 = .ok (.invokevirtual 109, 3) := by decide +kernel
theorem dL_law_1002 : decode cL_law 1002 = .ok (.if_icmp .eq 29, 3) := by decide +kernel
theorem dL_law_1005 : decode cL_law 1005 = .ok (.iconst 0, 1) := by decide +kernel
theorem dL_law_1006 : decode cL_law 1006 = .ok (.ireturn, 1) := by decide +kernel
theorem dL_law_1007 : decode cL_law 1007 = .ok (.aload_n 1, 1) := by decide +kernel
theorem dL_law_1008 : decode cL_law 1008 = .ok (.invokevirtual 110, 3) := by decide +kernel
theorem dL_law_1011 : decode cL_law 1011 = .ok (.aload_n 2, 1) := by decide +kernel
theorem dL_law_1012 : decode cL_law 1012 = .ok (.invokevirtual 113, 3) := by decide +kernel
theorem dL_law_1015 : decode cL_law 1015 = .ok (.goto 16, 3) := by decide +kernel
theorem dL_law_1018 : decode cL_law 1018 = .ok (.aload_n 1, 1) := by decide +kernel
theorem dL_law_1019 : decode cL_law 1019 = .ok (.invokevirtual 114, 3) := by decide +kernel
theorem dL_law_1022 : decode cL_law 1022 = .ok (.aload_n 2, 1) := by decide +kernel
theorem dL_law_1023 : decode cL_law 1023 = .ok (.invokevirtual 118, 3) := by decide +kernel
theorem dL_law_1026 : decode cL_law 1026 = .ok (.if_icmp .eq 5, 3) := by decide +kernel
theorem dL_law_1029 : decode cL_law 1029 = .ok (.iconst 0, 1) := by decide +kernel
theorem dL_law_1030 : decode cL_law 1030 = .ok (.ireturn, 1) := by decide +kernel
theorem dL_law_1031 : decode cL_law 1031 = .ok (.iinc 3 8, 3) := by decide +kernel
theorem dL_law_1034 : decode cL_law 1034 = .ok (.goto (-996), 3) := by decide +kernel
theorem dL_law_1037 : decode cL_law 1037 = .ok (.iconst 1, 1) := by decide +kernel
theorem dL_law_1038 : decode cL_law 1038 = .ok (.ireturn, 1) := by decide +kernel
abbrev vwCl : List vw_C := [(RX0, TX0, 15), (RX1, TX1, 19)]
end
section
/-! wrappers of array rows with the place named; calls in short; the two pictures -/
/-- an index that is within, and its number -/
def xat (i : Int32) (k n : Nat) : Prop := vp_in i n ∧ i.toNatClampNeg = k
theorem xat_nI {k n : Nat} (h : k < n) (hn : n < 2 ^ 31) : xat (nI k) k n := ⟨vp_in_nI h hn, nI_clamp (by omega)⟩
theorem xat_self {i : Int32} {n : Nat} (h : vp_in i n) : xat i i.toNatClampNeg n := ⟨h, rfl⟩
theorem xat_lt {i : Int32} {k n : Nat} (h : xat i k n) : k < n := by
  obtain ⟨h, rfl⟩ := h
  exact Nat.not_le.mp fun q => h (Or.inr q)
theorem xin_of {i M : Int32} {n : Nat} (hM : M = nI n) (hn : n < 2 ^ 31) (h0 : ¬ i < 0) (h1 : ¬ M ≤ i) : vp_in i n := by
  subst hM
  obtain ⟨j, hj, rfl⟩ := nI_of h0
  rw [nI_leI hn hj] at h1
  exact vp_in_nI (by omega) hn
theorem xin_lt {i M : Int32} {n : Nat} (hM : M = nI n) (hn : n < 2 ^ 31) (h0 : ¬ i < 0) (h1 : i < M) : vp_in i n := by
  subst hM
  obtain ⟨j, hj, rfl⟩ := nI_of h0
  rw [nI_ltI hj hn] at h1
  exact vp_in_nI h1 hn
theorem xin_le {i M : Int32} {n : Nat} (hM : M = nI n) (hn : n + 1 < 2 ^ 31) (h0 : ¬ i < 0) (h1 : i ≤ M) : vp_in i (n + 1) := by
  subst hM
  obtain ⟨j, hj, rfl⟩ := nI_of h0
  rw [nI_leI hj (by omega)] at h1
  exact vp_in_nI (by omega) hn
section XV
variable {p : Program} {l : Launch} {e : Env} {R : Room} {s : State} {m : MethodId} {args : Array Value} {below : List Frame} {meth : Method} {c : Code} {H : Heap} {locs : List Loc} {cells slots : Nat} {Q : State → Prop}
variable {cc : ByteArray} {pc : Nat} {ls : Array Slot} {rest : List Value} {D : va_G} {cl : List vw_C} {A : Nat → Prop} {a : Nat} {tys : List (ClassId × FieldType)} {ws : va_W} {H0 : Heap}
theorem xv_lald (hexec : p.tables.exec = Jvm.exec) (hb : c.code = cc) (hK : va_K D cl tys s) (hP : va_P D cl ws H) (q0 t0 : Nat) {cA : ClassId} {n k : Nat} {f : Nat → Int64} (ha : ws[q0]? = some (a, .inl (cA, n, .inr (.inl f)))) (ht : tys[t0]? = some (cA, .long)) {i : Int32} (hin : xat i k n) (hdg : decode cc pc = .ok (.laload, 1))
    (kk : W p l e R s m args below meth c H locs cells slots Q (F0 m (pc + 1) ls (.long (f k) :: rest))) : W p l e R s m args below meth c H locs cells slots Q (F0 m pc ls (.int i :: .ref a :: rest)) := by
  obtain ⟨hin, rfl⟩ := hin
  exact va_lald hexec hb hK hP q0 t0 ha ht hin hdg kk
theorem xv_iald (hexec : p.tables.exec = Jvm.exec) (hb : c.code = cc) (hK : va_K D cl tys s) (hP : va_P D cl ws H) (q0 t0 : Nat) {cA : ClassId} {n k : Nat} {f : Nat → Int32} (ha : ws[q0]? = some (a, .inl (cA, n, .inl f))) (ht : tys[t0]? = some (cA, .int)) {i : Int32} (hin : xat i k n) (hdg : decode cc pc = .ok (.iaload, 1))
    (kk : W p l e R s m args below meth c H locs cells slots Q (F0 m (pc + 1) ls (.int (f k) :: rest))) : W p l e R s m args below meth c H locs cells slots Q (F0 m pc ls (.int i :: .ref a :: rest)) := by
  obtain ⟨hin, rfl⟩ := hin
  exact va_iald hexec hb hK hP q0 t0 ha ht hin hdg kk
theorem xv_zald (hexec : p.tables.exec = Jvm.exec) (hb : c.code = cc) (hK : va_K D cl tys s) (hP : va_P D cl ws H) (q0 t0 : Nat) {cA : ClassId} {n k : Nat} {f : Nat → Int32} (ha : ws[q0]? = some (a, .inl (cA, n, .inl f))) (ht : tys[t0]? = some (cA, .boolean)) {i : Int32} (hin : xat i k n) (hdg : decode cc pc = .ok (.baload, 1))
    (kk : W p l e R s m args below meth c H locs cells slots Q (F0 m (pc + 1) ls (.int (f k) :: rest))) : W p l e R s m args below meth c H locs cells slots Q (F0 m pc ls (.int i :: .ref a :: rest)) := by
  obtain ⟨hin, rfl⟩ := hin
  exact va_zald hexec hb hK hP q0 t0 ha ht hin hdg kk
theorem xv_last (hexec : p.tables.exec = Jvm.exec) (hb : c.code = cc) (hK : va_K D cl tys s) (hP : va_P D cl ws H) (hD : va_D A ws) (hS : va_S A H0 H locs) (q0 t0 : Nat) {cA : ClassId} {n k : Nat} {f : Nat → Int64} (ha : ws[q0]? = some (a, .inl (cA, n, .inr (.inl f)))) (ht : tys[t0]? = some (cA, .long)) {i : Int32} {x : Int64} (hin : xat i k n) {ws' : va_W} (hw : ws.set q0 (a, .inl (cA, n, .inr (.inl (vp_updL f k x)))) = ws') (hdg : decode cc pc = .ok (.lastore, 1))
    (kk : ∀ (H1 : Heap) (locs1 : List Loc), va_P D cl ws' H1 → va_D A ws' → va_S A H0 H1 locs1 → W p l e R s m args below meth c H1 locs1 cells slots Q (F0 m (pc + 1) ls rest)) : W p l e R s m args below meth c H locs cells slots Q (F0 m pc ls (.long x :: .int i :: .ref a :: rest)) := by
  obtain ⟨hin, rfl⟩ := hin
  subst hw
  exact va_last hexec hb hK hP hD hS q0 t0 ha ht hin hdg kk
theorem xv_iast (hexec : p.tables.exec = Jvm.exec) (hb : c.code = cc) (hK : va_K D cl tys s) (hP : va_P D cl ws H) (hD : va_D A ws) (hS : va_S A H0 H locs) (q0 t0 : Nat) {cA : ClassId} {n k : Nat} {f : Nat → Int32} (ha : ws[q0]? = some (a, .inl (cA, n, .inl f))) (ht : tys[t0]? = some (cA, .int)) {i : Int32} {x : Int32} (hin : xat i k n) {ws' : va_W} (hw : ws.set q0 (a, .inl (cA, n, .inl (upd f k x))) = ws') (hdg : decode cc pc = .ok (.iastore, 1))
    (kk : ∀ (H1 : Heap) (locs1 : List Loc), va_P D cl ws' H1 → va_D A ws' → va_S A H0 H1 locs1 → W p l e R s m args below meth c H1 locs1 cells slots Q (F0 m (pc + 1) ls rest)) : W p l e R s m args below meth c H locs cells slots Q (F0 m pc ls (.int x :: .int i :: .ref a :: rest)) := by
  obtain ⟨hin, rfl⟩ := hin
  subst hw
  exact va_iast hexec hb hK hP hD hS q0 t0 ha ht hin hdg kk
theorem xv_zast (hexec : p.tables.exec = Jvm.exec) (hb : c.code = cc) (hK : va_K D cl tys s) (hP : va_P D cl ws H) (hD : va_D A ws) (hS : va_S A H0 H locs) (q0 t0 : Nat) {cA : ClassId} {n k : Nat} {f : Nat → Int32} (ha : ws[q0]? = some (a, .inl (cA, n, .inl f))) (ht : tys[t0]? = some (cA, .boolean)) {i : Int32} {x : Int32} (hx : vp_nar .boolean x = x) (hin : xat i k n) {ws' : va_W} (hw : ws.set q0 (a, .inl (cA, n, .inl (upd f k x))) = ws') (hdg : decode cc pc = .ok (.bastore, 1))
    (kk : ∀ (H1 : Heap) (locs1 : List Loc), va_P D cl ws' H1 → va_D A ws' → va_S A H0 H1 locs1 → W p l e R s m args below meth c H1 locs1 cells slots Q (F0 m (pc + 1) ls rest)) : W p l e R s m args below meth c H locs cells slots Q (F0 m pc ls (.int x :: .int i :: .ref a :: rest)) := by
  obtain ⟨hin, rfl⟩ := hin
  subst hw
  refine va_zast hexec hb hK hP hD hS q0 t0 ha ht hin hdg ?_
  rw [hx]
  exact kk
/-- a row of a table of rows -/
theorem xv_aald (hexec : p.tables.exec = Jvm.exec) (hb : c.code = cc) (hK : va_K D cl tys s) (hP : va_P D cl ws H) (q0 t0 : Nat) {cA : ClassId} {ty : FieldType} {n k r : Nat} {f : Nat → Option Nat} (ha : ws[q0]? = some (a, .inl (cA, n, .inr (.inr (.inr (.inr f)))))) (ht : tys[t0]? = some (cA, .array ty)) {i : Int32} (hin : xat i k n) (hr : f k = some r) (hdg : decode cc pc = .ok (.aaload, 1))
    (kk : W p l e R s m args below meth c H locs cells slots Q (F0 m (pc + 1) ls (.ref r :: rest))) : W p l e R s m args below meth c H locs cells slots Q (F0 m pc ls (.int i :: .ref a :: rest)) := by
  obtain ⟨hin, rfl⟩ := hin
  have hlt : i.toNatClampNeg < n := Nat.not_le.mp fun q => hin (Or.inr q)
  have kk' : W p l e R s m args below meth c H locs cells slots Q (F0 m (pc + 1) ls (va_rf (f i.toNatClampNeg) :: rest)) := by rw [hr]; exact kk
  exact W.aald (v := va_rf (f i.toNatClampNeg)) (ty := .array ty) hexec hb (hP q0 _ ha) ((hK.2 t0 _ ht).1 n (fun j => va_rf (f j))) rfl (fun q => by cases q) (by show ¬ (i < 0 ∨ (arrV _ _ _).slots.size ≤ _); rw [arrV_size]; exact hin) (by show (arrV _ _ _).slots[_]? = _; rw [arrV_read _ _ hlt]) rfl rfl hdg kk'
theorem xfree (hD : va_D A ws) (hS : va_S A H0 H locs) (hA : ∀ q, H0.size ≤ q → A q) : ∀ q, va_A ws H.size q → A q := by
  intro q h
  rcases h with ⟨k, e, h⟩ | h
  · exact hD.2 k _ h
  · exact hA q (Nat.le_trans hS.1 h)
/-- what a writer leaves -/
abbrev xB {S : Type} (D : va_G) (w : S → va_W) (tys : List (ClassId × FieldType)) (A : Nat → Prop) (u : S) (t : State) : Prop := va_P D vwCl (w u) t.heap ∧ va_K D vwCl tys t ∧ va_D A (w u)
theorem xcall_l {S : Type} {post : Int64 → S → Prop} {w : S → va_W} {av : Array Value} {st0 : List Value} {tys1 : List (ClassId × FieldType)} (hr : va_Run p l e R s m args below meth c H locs cells slots 0 0 (F0 m pc ls st0) rest (va_Ql post (xB D w tys1 (va_A ws H.size)) (va_A ws H.size) av) (va_A ws H.size)) (hD : va_D A ws) (hS : va_S A H0 H locs) (hA : ∀ q, H0.size ≤ q → A q)
    (kk : ∀ (r : Int64) (u : S) (H1 : Heap) (locs1 : List Loc), post r u → va_P D vwCl (w u) H1 → va_D A (w u) → va_S A H0 H1 locs1 → W p l e R s m args below meth c H1 locs1 cells slots Q (F0 m (pc + 3) ls (.long r :: rest))) : W p l e R s m args below meth c H locs cells slots Q (F0 m pc ls st0) := by
  have hF := xfree hD hS hA
  refine va_calll hr hS (fun q _ h => hF q h) hF (fun r u t H1 locs1 ht hvm hw hB hz1 hk1 hS1 => ?_)
  obtain ⟨hP1, -, hD1⟩ := hB
  rw [ht] at hP1
  exact kk r u H1 locs1 hw hP1 (hD1.weaken (fun _ _ _ h => hF _ h)) hS1
theorem xcall_i {S : Type} {post : Int32 → S → Prop} {w : S → va_W} {av : Array Value} {st0 : List Value} {tys1 : List (ClassId × FieldType)} (hr : va_Run p l e R s m args below meth c H locs cells slots 0 0 (F0 m pc ls st0) rest (va_Qi post (xB D w tys1 (va_A ws H.size)) (va_A ws H.size) av) (va_A ws H.size)) (hD : va_D A ws) (hS : va_S A H0 H locs) (hA : ∀ q, H0.size ≤ q → A q)
    (kk : ∀ (r : Int32) (u : S) (H1 : Heap) (locs1 : List Loc), post r u → va_P D vwCl (w u) H1 → va_D A (w u) → va_S A H0 H1 locs1 → W p l e R s m args below meth c H1 locs1 cells slots Q (F0 m (pc + 3) ls (.int r :: rest))) : W p l e R s m args below meth c H locs cells slots Q (F0 m pc ls st0) := by
  have hF := xfree hD hS hA
  refine va_calli hr hS (fun q _ h => hF q h) hF (fun r u t H1 locs1 ht hvm hw hB hz1 hk1 hS1 => ?_)
  obtain ⟨hP1, -, hD1⟩ := hB
  rw [ht] at hP1
  exact kk r u H1 locs1 hw hP1 (hD1.weaken (fun _ _ _ h => hF _ h)) hS1
theorem xfb_n (av : List Value) : FrameBlind (va_Pc av (fun _ => True)) := fun _ _ _ _ q => ⟨q.1, trivial⟩
theorem xfb_r (av : List Value) : FrameBlind (va_Pc av (fun U => va_P D cl ws U.heap ∧ va_K D cl tys U)) := fun a U g mk q => ⟨q.1, q.2.1, va_K.moved (u := U) (U := U.calling g mk a) (Vm.Alike.refl U.vm) q.2.2⟩
theorem xfb_w (av : List Value) (sz : Nat) : FrameBlind (va_Pc av (fun U => U.heap.size = sz ∧ va_P D cl ws U.heap ∧ va_K D cl tys U ∧ va_D (fun _ => True) ws)) := fun a U g mk q => ⟨q.1, q.2.1, q.2.2.1, va_K.moved (u := U) (U := U.calling g mk a) (Vm.Alike.refl U.vm) q.2.2.2.1, q.2.2.2.2⟩
theorem xpS_n (av : List Value) : PreS s H (va_Pc av (fun _ => True)) av := ⟨xfb_n av, fun _ _ _ => ⟨rfl, trivial⟩⟩
theorem xpS_r (av : List Value) (hK : va_K D cl tys s) (hP : va_P D cl ws H) : PreS s H (va_Pc av (fun U => va_P D cl ws U.heap ∧ va_K D cl tys U)) av := ⟨xfb_r av, fun U hU hW => ⟨rfl, by rw [hU]; exact hP, va_K.moved hW.alike hK⟩⟩
theorem xpV_r {C : String} {b : Nat} (As : List Value) (hK : va_K D cl tys s) (hP : va_P D cl ws H) (hrec : ∃ cell : Cell, H[b]? = some cell ∧ cell.vm.isStatics = false ∧ s.vm.findClass C = some cell.cls) : PreV s H C b (va_Pc (.ref b :: As) (fun U => va_P D cl ws U.heap ∧ va_K D cl tys U)) As := ⟨xfb_r _, hrec, fun U hU hW => ⟨rfl, by rw [hU]; exact hP, va_K.moved hW.alike hK⟩⟩
theorem xpV_w {C : String} {b : Nat} (As : List Value) (hK : va_K D cl tys s) (hP : va_P D cl ws H) (hD : va_D A ws) (hrec : ∃ cell : Cell, H[b]? = some cell ∧ cell.vm.isStatics = false ∧ s.vm.findClass C = some cell.cls) : PreV s H C b (va_Pc (.ref b :: As) (fun U => U.heap.size = H.size ∧ va_P D cl ws U.heap ∧ va_K D cl tys U ∧ va_D (fun _ => True) ws)) As := ⟨xfb_w _ _, hrec, fun U hU hW => ⟨rfl, by rw [hU], by rw [hU]; exact hP, va_K.moved hW.alike hK, hD.weaken (fun _ _ _ _ => trivial)⟩⟩
end XV
/-! THE CLASS: the state as one value; its cells -/
abbrev SX : Type := Int64 × Int64 × Int32 × Int32 × Int64 × Int64 × (Nat → Int64) × (Nat → Int32) × (Nat → Int64) × (Nat → Int64) × (Nat → Int32) × (Nat → Int64) × (Nat → Int64) × Int32 × (Nat → Nat → Int64)
abbrev x_m (S : SX) : Int64 := S.1
abbrev x_dr (S : SX) : Int64 := S.2.1
abbrev x_lo (S : SX) : Int32 := S.2.2.1
abbrev x_fa (S : SX) : Int32 := S.2.2.2.1
abbrev x_pr (S : SX) : Int64 := S.2.2.2.2.1
abbrev x_ou (S : SX) : Int64 := S.2.2.2.2.2.1
abbrev x_rg (S : SX) : Nat → Int64 := S.2.2.2.2.2.2.1
abbrev x_kt (S : SX) : Nat → Int32 := S.2.2.2.2.2.2.2.1
abbrev x_ks (S : SX) : Nat → Int64 := S.2.2.2.2.2.2.2.2.1
abbrev x_kn (S : SX) : Nat → Int64 := S.2.2.2.2.2.2.2.2.2.1
abbrev x_st (S : SX) : Nat → Int32 := S.2.2.2.2.2.2.2.2.2.2.1
abbrev x_cn (S : SX) : Nat → Int64 := S.2.2.2.2.2.2.2.2.2.2.2.1
abbrev x_mn (S : SX) : Nat → Int64 := S.2.2.2.2.2.2.2.2.2.2.2.2.1
abbrev x_bc (S : SX) : Int32 := S.2.2.2.2.2.2.2.2.2.2.2.2.2.1
abbrev x_bl (S : SX) : Nat → Nat → Int64 := S.2.2.2.2.2.2.2.2.2.2.2.2.2.2
abbrev xu_m (S : SX) (v : Int64) : SX := (v, S.2)
abbrev xu_dr (S : SX) (v : Int64) : SX := (S.1, v, S.2.2)
abbrev xu_lo (S : SX) (v : Int32) : SX := (S.1, S.2.1, v, S.2.2.2)
abbrev xu_fa (S : SX) (v : Int32) : SX := (S.1, S.2.1, S.2.2.1, v, S.2.2.2.2)
abbrev xu_pr (S : SX) (v : Int64) : SX := (S.1, S.2.1, S.2.2.1, S.2.2.2.1, v, S.2.2.2.2.2)
abbrev xu_ou (S : SX) (v : Int64) : SX := (S.1, S.2.1, S.2.2.1, S.2.2.2.1, S.2.2.2.2.1, v, S.2.2.2.2.2.2)
abbrev xu_rg (S : SX) (v : Nat → Int64) : SX := (S.1, S.2.1, S.2.2.1, S.2.2.2.1, S.2.2.2.2.1, S.2.2.2.2.2.1, v, S.2.2.2.2.2.2.2)
abbrev xu_kt (S : SX) (v : Nat → Int32) : SX := (S.1, S.2.1, S.2.2.1, S.2.2.2.1, S.2.2.2.2.1, S.2.2.2.2.2.1, S.2.2.2.2.2.2.1, v, S.2.2.2.2.2.2.2.2)
abbrev xu_ks (S : SX) (v : Nat → Int64) : SX := (S.1, S.2.1, S.2.2.1, S.2.2.2.1, S.2.2.2.2.1, S.2.2.2.2.2.1, S.2.2.2.2.2.2.1, S.2.2.2.2.2.2.2.1, v, S.2.2.2.2.2.2.2.2.2)
abbrev xu_kn (S : SX) (v : Nat → Int64) : SX := (S.1, S.2.1, S.2.2.1, S.2.2.2.1, S.2.2.2.2.1, S.2.2.2.2.2.1, S.2.2.2.2.2.2.1, S.2.2.2.2.2.2.2.1, S.2.2.2.2.2.2.2.2.1, v, S.2.2.2.2.2.2.2.2.2.2)
abbrev xu_st (S : SX) (v : Nat → Int32) : SX := (S.1, S.2.1, S.2.2.1, S.2.2.2.1, S.2.2.2.2.1, S.2.2.2.2.2.1, S.2.2.2.2.2.2.1, S.2.2.2.2.2.2.2.1, S.2.2.2.2.2.2.2.2.1, S.2.2.2.2.2.2.2.2.2.1, v, S.2.2.2.2.2.2.2.2.2.2.2)
abbrev xu_cn (S : SX) (v : Nat → Int64) : SX := (S.1, S.2.1, S.2.2.1, S.2.2.2.1, S.2.2.2.2.1, S.2.2.2.2.2.1, S.2.2.2.2.2.2.1, S.2.2.2.2.2.2.2.1, S.2.2.2.2.2.2.2.2.1, S.2.2.2.2.2.2.2.2.2.1, S.2.2.2.2.2.2.2.2.2.2.1, v, S.2.2.2.2.2.2.2.2.2.2.2.2)
abbrev xu_mn (S : SX) (v : Nat → Int64) : SX := (S.1, S.2.1, S.2.2.1, S.2.2.2.1, S.2.2.2.2.1, S.2.2.2.2.2.1, S.2.2.2.2.2.2.1, S.2.2.2.2.2.2.2.1, S.2.2.2.2.2.2.2.2.1, S.2.2.2.2.2.2.2.2.2.1, S.2.2.2.2.2.2.2.2.2.2.1, S.2.2.2.2.2.2.2.2.2.2.2.1, v, S.2.2.2.2.2.2.2.2.2.2.2.2.2)
abbrev xu_bc (S : SX) (v : Int32) : SX := (S.1, S.2.1, S.2.2.1, S.2.2.2.1, S.2.2.2.2.1, S.2.2.2.2.2.1, S.2.2.2.2.2.2.1, S.2.2.2.2.2.2.2.1, S.2.2.2.2.2.2.2.2.1, S.2.2.2.2.2.2.2.2.2.1, S.2.2.2.2.2.2.2.2.2.2.1, S.2.2.2.2.2.2.2.2.2.2.2.1, S.2.2.2.2.2.2.2.2.2.2.2.2.1, v, S.2.2.2.2.2.2.2.2.2.2.2.2.2.2)
abbrev xu_bl (S : SX) (v : Nat → Nat → Int64) : SX := (S.1, S.2.1, S.2.2.1, S.2.2.2.1, S.2.2.2.2.1, S.2.2.2.2.2.1, S.2.2.2.2.2.2.1, S.2.2.2.2.2.2.2.1, S.2.2.2.2.2.2.2.2.1, S.2.2.2.2.2.2.2.2.2.1, S.2.2.2.2.2.2.2.2.2.2.1, S.2.2.2.2.2.2.2.2.2.2.2.1, S.2.2.2.2.2.2.2.2.2.2.2.2.1, S.2.2.2.2.2.2.2.2.2.2.2.2.2.1, v)
def wX (ad : Nat → Nat) (cL cZ cO : ClassId) (S : SX) : va_W :=
  [(ad 0, .inr (0, [.long (x_m S), .long (x_dr S), .int (x_lo S), .int (x_fa S), .long (x_pr S), .long (x_ou S), .ref (ad 1), .ref (ad 2), .ref (ad 3), .ref (ad 4), .ref (ad 5), .ref (ad 6), .ref (ad 7), .int (x_bc S), .ref (ad 8)])),
   (ad 1, .inl (cL, 8, .inr (.inl (x_rg S)))), (ad 2, .inl (cZ, 6, .inl (x_kt S))), (ad 3, .inl (cL, 6, .inr (.inl (x_ks S)))), (ad 4, .inl (cL, 6, .inr (.inl (x_kn S)))),
   (ad 5, .inl (cZ, 4, .inl (x_st S))), (ad 6, .inl (cL, 4, .inr (.inl (x_cn S)))), (ad 7, .inl (cL, 4, .inr (.inl (x_mn S)))),
   (ad 8, .inl (cO, 10, .inr (.inr (.inr (.inr (fun j => if j < 10 then some (ad (9 + j)) else none)))))),
   (ad 9, .inl (cL, 6, .inr (.inl (x_bl S 0)))), (ad 10, .inl (cL, 6, .inr (.inl (x_bl S 1)))), (ad 11, .inl (cL, 6, .inr (.inl (x_bl S 2)))), (ad 12, .inl (cL, 6, .inr (.inl (x_bl S 3)))), (ad 13, .inl (cL, 6, .inr (.inl (x_bl S 4)))), (ad 14, .inl (cL, 6, .inr (.inl (x_bl S 5)))), (ad 15, .inl (cL, 6, .inr (.inl (x_bl S 6)))), (ad 16, .inl (cL, 6, .inr (.inl (x_bl S 7)))), (ad 17, .inl (cL, 6, .inr (.inl (x_bl S 8)))), (ad 18, .inl (cL, 6, .inr (.inl (x_bl S 9))))]
abbrev tyX (cL cZ cO : ClassId) : List (ClassId × FieldType) := [(cL, .long), (cZ, .boolean), (cO, .array .long)]
theorem wX_row {ad : Nat → Nat} {cL cZ cO : ClassId} {S : SX} {k : Nat} (h : k < 10) : (wX ad cL cZ cO S)[9 + k]? = some (ad (9 + k), .inl (cL, 6, .inr (.inl (x_bl S k)))) := by
  match k, h with
  | 0, _ => rfl
  | 1, _ => rfl
  | 2, _ => rfl
  | 3, _ => rfl
  | 4, _ => rfl
  | 5, _ => rfl
  | 6, _ => rfl
  | 7, _ => rfl
  | 8, _ => rfl
  | 9, _ => rfl
  | k + 10, h => omega
def up2 (f : Nat → Nat → Int64) (k i : Nat) (v : Int64) : Nat → Nat → Int64 := fun j => if j = k then vp_updL (f k) i v else f j
theorem wX_set {ad : Nat → Nat} {cL cZ cO : ClassId} {S : SX} {k : Nat} (h : k < 10) (i : Nat) (v : Int64) : (wX ad cL cZ cO S).set (9 + k) (ad (9 + k), .inl (cL, 6, .inr (.inl (vp_updL (x_bl S k) i v)))) = wX ad cL cZ cO (xu_bl S (up2 (x_bl S) k i v)) := by
  match k, h with
  | 0, _ => rfl
  | 1, _ => rfl
  | 2, _ => rfl
  | 3, _ => rfl
  | 4, _ => rfl
  | 5, _ => rfl
  | 6, _ => rfl
  | 7, _ => rfl
  | 8, _ => rfl
  | 9, _ => rfl
  | k + 10, h => omega
theorem wX_tab {ad : Nat → Nat} {k : Nat} (h : k < 10) : (fun j => if j < 10 then some (ad (9 + j)) else none) k = some (ad (9 + k)) := if_pos h
/-! THE REFERENCE: the state as one value (its two scratch rows apart); its cells -/
abbrev SM : Type := Int64 × Int64 × Int32 × Int32 × Int64 × Int64 × Int32 × (Nat → Int32) × (Nat → Int64) × (Nat → Int32) × (Nat → Int64) × (Nat → Int64) × (Nat → Int32) × (Nat → Int64) × (Nat → Int64) × Int32 × (Nat → Int64)
abbrev m_m (S : SM) : Int64 := S.1
abbrev m_dr (S : SM) : Int64 := S.2.1
abbrev m_lo (S : SM) : Int32 := S.2.2.1
abbrev m_fa (S : SM) : Int32 := S.2.2.2.1
abbrev m_pr (S : SM) : Int64 := S.2.2.2.2.1
abbrev m_ou (S : SM) : Int64 := S.2.2.2.2.2.1
abbrev m_dn (S : SM) : Int32 := S.2.2.2.2.2.2.1
abbrev m_wh (S : SM) : Nat → Int32 := S.2.2.2.2.2.2.2.1
abbrev m_wi (S : SM) : Nat → Int64 := S.2.2.2.2.2.2.2.2.1
abbrev m_kt (S : SM) : Nat → Int32 := S.2.2.2.2.2.2.2.2.2.1
abbrev m_ks (S : SM) : Nat → Int64 := S.2.2.2.2.2.2.2.2.2.2.1
abbrev m_kd (S : SM) : Nat → Int64 := S.2.2.2.2.2.2.2.2.2.2.2.1
abbrev m_st (S : SM) : Nat → Int32 := S.2.2.2.2.2.2.2.2.2.2.2.2.1
abbrev m_cn (S : SM) : Nat → Int64 := S.2.2.2.2.2.2.2.2.2.2.2.2.2.1
abbrev m_sd (S : SM) : Nat → Int64 := S.2.2.2.2.2.2.2.2.2.2.2.2.2.2.1
abbrev m_bc (S : SM) : Int32 := S.2.2.2.2.2.2.2.2.2.2.2.2.2.2.2.1
abbrev m_bw (S : SM) : Nat → Int64 := S.2.2.2.2.2.2.2.2.2.2.2.2.2.2.2.2
abbrev mu_m (S : SM) (v : Int64) : SM := (v, S.2)
abbrev mu_dr (S : SM) (v : Int64) : SM := (S.1, v, S.2.2)
abbrev mu_lo (S : SM) (v : Int32) : SM := (S.1, S.2.1, v, S.2.2.2)
abbrev mu_fa (S : SM) (v : Int32) : SM := (S.1, S.2.1, S.2.2.1, v, S.2.2.2.2)
abbrev mu_pr (S : SM) (v : Int64) : SM := (S.1, S.2.1, S.2.2.1, S.2.2.2.1, v, S.2.2.2.2.2)
abbrev mu_ou (S : SM) (v : Int64) : SM := (S.1, S.2.1, S.2.2.1, S.2.2.2.1, S.2.2.2.2.1, v, S.2.2.2.2.2.2)
abbrev mu_dn (S : SM) (v : Int32) : SM := (S.1, S.2.1, S.2.2.1, S.2.2.2.1, S.2.2.2.2.1, S.2.2.2.2.2.1, v, S.2.2.2.2.2.2.2)
abbrev mu_wh (S : SM) (v : Nat → Int32) : SM := (S.1, S.2.1, S.2.2.1, S.2.2.2.1, S.2.2.2.2.1, S.2.2.2.2.2.1, S.2.2.2.2.2.2.1, v, S.2.2.2.2.2.2.2.2)
abbrev mu_wi (S : SM) (v : Nat → Int64) : SM := (S.1, S.2.1, S.2.2.1, S.2.2.2.1, S.2.2.2.2.1, S.2.2.2.2.2.1, S.2.2.2.2.2.2.1, S.2.2.2.2.2.2.2.1, v, S.2.2.2.2.2.2.2.2.2)
abbrev mu_kt (S : SM) (v : Nat → Int32) : SM := (S.1, S.2.1, S.2.2.1, S.2.2.2.1, S.2.2.2.2.1, S.2.2.2.2.2.1, S.2.2.2.2.2.2.1, S.2.2.2.2.2.2.2.1, S.2.2.2.2.2.2.2.2.1, v, S.2.2.2.2.2.2.2.2.2.2)
abbrev mu_ks (S : SM) (v : Nat → Int64) : SM := (S.1, S.2.1, S.2.2.1, S.2.2.2.1, S.2.2.2.2.1, S.2.2.2.2.2.1, S.2.2.2.2.2.2.1, S.2.2.2.2.2.2.2.1, S.2.2.2.2.2.2.2.2.1, S.2.2.2.2.2.2.2.2.2.1, v, S.2.2.2.2.2.2.2.2.2.2.2)
abbrev mu_kd (S : SM) (v : Nat → Int64) : SM := (S.1, S.2.1, S.2.2.1, S.2.2.2.1, S.2.2.2.2.1, S.2.2.2.2.2.1, S.2.2.2.2.2.2.1, S.2.2.2.2.2.2.2.1, S.2.2.2.2.2.2.2.2.1, S.2.2.2.2.2.2.2.2.2.1, S.2.2.2.2.2.2.2.2.2.2.1, v, S.2.2.2.2.2.2.2.2.2.2.2.2)
abbrev mu_st (S : SM) (v : Nat → Int32) : SM := (S.1, S.2.1, S.2.2.1, S.2.2.2.1, S.2.2.2.2.1, S.2.2.2.2.2.1, S.2.2.2.2.2.2.1, S.2.2.2.2.2.2.2.1, S.2.2.2.2.2.2.2.2.1, S.2.2.2.2.2.2.2.2.2.1, S.2.2.2.2.2.2.2.2.2.2.1, S.2.2.2.2.2.2.2.2.2.2.2.1, v, S.2.2.2.2.2.2.2.2.2.2.2.2.2)
abbrev mu_cn (S : SM) (v : Nat → Int64) : SM := (S.1, S.2.1, S.2.2.1, S.2.2.2.1, S.2.2.2.2.1, S.2.2.2.2.2.1, S.2.2.2.2.2.2.1, S.2.2.2.2.2.2.2.1, S.2.2.2.2.2.2.2.2.1, S.2.2.2.2.2.2.2.2.2.1, S.2.2.2.2.2.2.2.2.2.2.1, S.2.2.2.2.2.2.2.2.2.2.2.1, S.2.2.2.2.2.2.2.2.2.2.2.2.1, v, S.2.2.2.2.2.2.2.2.2.2.2.2.2.2)
abbrev mu_sd (S : SM) (v : Nat → Int64) : SM := (S.1, S.2.1, S.2.2.1, S.2.2.2.1, S.2.2.2.2.1, S.2.2.2.2.2.1, S.2.2.2.2.2.2.1, S.2.2.2.2.2.2.2.1, S.2.2.2.2.2.2.2.2.1, S.2.2.2.2.2.2.2.2.2.1, S.2.2.2.2.2.2.2.2.2.2.1, S.2.2.2.2.2.2.2.2.2.2.2.1, S.2.2.2.2.2.2.2.2.2.2.2.2.1, S.2.2.2.2.2.2.2.2.2.2.2.2.2.1, v, S.2.2.2.2.2.2.2.2.2.2.2.2.2.2.2)
abbrev mu_bc (S : SM) (v : Int32) : SM := (S.1, S.2.1, S.2.2.1, S.2.2.2.1, S.2.2.2.2.1, S.2.2.2.2.2.1, S.2.2.2.2.2.2.1, S.2.2.2.2.2.2.2.1, S.2.2.2.2.2.2.2.2.1, S.2.2.2.2.2.2.2.2.2.1, S.2.2.2.2.2.2.2.2.2.2.1, S.2.2.2.2.2.2.2.2.2.2.2.1, S.2.2.2.2.2.2.2.2.2.2.2.2.1, S.2.2.2.2.2.2.2.2.2.2.2.2.2.1, S.2.2.2.2.2.2.2.2.2.2.2.2.2.2.1, v, S.2.2.2.2.2.2.2.2.2.2.2.2.2.2.2.2)
abbrev mu_bw (S : SM) (v : Nat → Int64) : SM := (S.1, S.2.1, S.2.2.1, S.2.2.2.1, S.2.2.2.2.1, S.2.2.2.2.2.1, S.2.2.2.2.2.2.1, S.2.2.2.2.2.2.2.1, S.2.2.2.2.2.2.2.2.1, S.2.2.2.2.2.2.2.2.2.1, S.2.2.2.2.2.2.2.2.2.2.1, S.2.2.2.2.2.2.2.2.2.2.2.1, S.2.2.2.2.2.2.2.2.2.2.2.2.1, S.2.2.2.2.2.2.2.2.2.2.2.2.2.1, S.2.2.2.2.2.2.2.2.2.2.2.2.2.2.1, S.2.2.2.2.2.2.2.2.2.2.2.2.2.2.2.1, v)
def wM (ad : Nat → Nat) (cL cZ cI : ClassId) (S : SM) (ro hd : Nat → Int64) : va_W :=
  [(ad 0, .inr (1, [.long (m_m S), .long (m_dr S), .int (m_lo S), .int (m_fa S), .long (m_pr S), .long (m_ou S), .int (m_dn S), .ref (ad 1), .ref (ad 2), .ref (ad 3), .ref (ad 4), .ref (ad 5), .ref (ad 6), .ref (ad 7), .ref (ad 8), .int (m_bc S), .ref (ad 9), .ref (ad 10), .ref (ad 11)])),
   (ad 1, .inl (cI, 512, .inl (m_wh S))), (ad 2, .inl (cL, 512, .inr (.inl (m_wi S)))), (ad 3, .inl (cZ, 6, .inl (m_kt S))), (ad 4, .inl (cL, 6, .inr (.inl (m_ks S)))), (ad 5, .inl (cL, 6, .inr (.inl (m_kd S)))),
   (ad 6, .inl (cZ, 4, .inl (m_st S))), (ad 7, .inl (cL, 4, .inr (.inl (m_cn S)))), (ad 8, .inl (cL, 4, .inr (.inl (m_sd S)))), (ad 9, .inl (cL, 60, .inr (.inl (m_bw S)))), (ad 10, .inl (cL, 9, .inr (.inl ro))), (ad 11, .inl (cL, 8, .inr (.inl hd)))]
abbrev tyM (cL cZ cI : ClassId) : List (ClassId × FieldType) := [(cL, .long), (cZ, .boolean), (cI, .int)]
abbrev SMr : Type := SM × (Nat → Int64) × (Nat → Int64)
abbrev wMr (ad : Nat → Nat) (cL cZ cI : ClassId) (u : SMr) : va_W := wM ad cL cZ cI u.1 u.2.1 u.2.2
end
section
section XS
variable {p : Program} {l : Launch} {e : Env} {R : Room} {s : State} {m : MethodId} {args : Array Value} {below : List Frame} {meth : Method} {c : Code} {H : Heap} {locs : List Loc} {cells slots : Nat} {Q : State → Prop}
variable {cc : ByteArray} {pc : Nat} {ls : Array Slot} {rest : List Value} {dC : Nat → ClassId} {dI : Nat → Nat → Nat} {A : Nat → Prop} {H0 : Heap} {Ts : List Cond}
variable {ad : Nat → Nat} {cL cZ cO : ClassId} {S : SX}
theorem g_x_m (hx : p.tables.exec = Jvm.exec) (hb : c.code = cc) (hts : ∀ w ∈ Ts, w.before args s = true) (hin : ∀ w ∈ wsX00, w ∈ Ts) (hown : s.vm.findClass RX0 = some m.cls) (hK : va_K (dC, dI) vwCl (tyX cL cZ cO) s) (hP : va_P (dC, dI) vwCl (wX ad cL cZ cO S) H) {index : Nat} (hlink : (Cond.fieldLink RX0 index RX0 "machineSecret" "J").before args s = true) (hdg : decode cc pc = .ok (.getfield index, 3))
    (kk : W p l e R s m args below meth c H locs cells slots Q (F0 m (pc + 3) ls (.long (x_m S) :: rest))) : W p l e R s m args below meth c H locs cells slots Q (F0 m pc ls (.ref (ad 0) :: rest)) :=
  va_get (D := (dC, dI)) (ci := 0) (v := .long (x_m S)) (C := RX0) (T := TX0) (N := 15) hx hb hts hin hown hK hP 0 rfl rfl 0 (by decide) hlink (fun _ h9 => h9) rfl hdg kk
theorem g_x_dr (hx : p.tables.exec = Jvm.exec) (hb : c.code = cc) (hts : ∀ w ∈ Ts, w.before args s = true) (hin : ∀ w ∈ wsX00, w ∈ Ts) (hown : s.vm.findClass RX0 = some m.cls) (hK : va_K (dC, dI) vwCl (tyX cL cZ cO) s) (hP : va_P (dC, dI) vwCl (wX ad cL cZ cO S) H) {index : Nat} (hlink : (Cond.fieldLink RX0 index RX0 "drawn" "J").before args s = true) (hdg : decode cc pc = .ok (.getfield index, 3))
    (kk : W p l e R s m args below meth c H locs cells slots Q (F0 m (pc + 3) ls (.long (x_dr S) :: rest))) : W p l e R s m args below meth c H locs cells slots Q (F0 m pc ls (.ref (ad 0) :: rest)) :=
  va_get (D := (dC, dI)) (ci := 0) (v := .long (x_dr S)) (C := RX0) (T := TX0) (N := 15) hx hb hts hin hown hK hP 0 rfl rfl 1 (by decide) hlink (fun _ h9 => h9) rfl hdg kk
theorem p_x_dr (hx : p.tables.exec = Jvm.exec) (hb : c.code = cc) (hts : ∀ w ∈ Ts, w.before args s = true) (hin : ∀ w ∈ wsX00, w ∈ Ts) (hown : s.vm.findClass RX0 = some m.cls) (hK : va_K (dC, dI) vwCl (tyX cL cZ cO) s) (hP : va_P (dC, dI) vwCl (wX ad cL cZ cO S) H) (hD : va_D A (wX ad cL cZ cO S)) (hS : va_S A H0 H locs) {index : Nat} {v : Int64} (hlink : (Cond.fieldLink RX0 index RX0 "drawn" "J").before args s = true) (hdg : decode cc pc = .ok (.putfield index, 3))
    (kk : ∀ (H1 : Heap) (locs1 : List Loc), va_P (dC, dI) vwCl (wX ad cL cZ cO (xu_dr S v)) H1 → va_D A (wX ad cL cZ cO (xu_dr S v)) → va_S A H0 H1 locs1 → W p l e R s m args below meth c H1 locs1 cells slots Q (F0 m (pc + 3) ls rest)) : W p l e R s m args below meth c H locs cells slots Q (F0 m pc ls (.long v :: .ref (ad 0) :: rest)) :=
  va_put (D := (dC, dI)) (ci := 0) (v := .long v) (ty := .long) (C := RX0) (T := TX0) (N := 15) hx hb hts hin tyX0 tyX0_ok nmX0 hown hK hP hD hS 0 rfl rfl 1 (by decide) hlink (fun _ h9 => h9) rfl (by decide +kernel) rfl rfl (Nat.le_of_ble_eq_true rfl) hdg kk
theorem g_x_lo (hx : p.tables.exec = Jvm.exec) (hb : c.code = cc) (hts : ∀ w ∈ Ts, w.before args s = true) (hin : ∀ w ∈ wsX00, w ∈ Ts) (hown : s.vm.findClass RX0 = some m.cls) (hK : va_K (dC, dI) vwCl (tyX cL cZ cO) s) (hP : va_P (dC, dI) vwCl (wX ad cL cZ cO S) H) {index : Nat} (hlink : (Cond.fieldLink RX0 index RX0 "locality" "I").before args s = true) (hdg : decode cc pc = .ok (.getfield index, 3))
    (kk : W p l e R s m args below meth c H locs cells slots Q (F0 m (pc + 3) ls (.int (x_lo S) :: rest))) : W p l e R s m args below meth c H locs cells slots Q (F0 m pc ls (.ref (ad 0) :: rest)) :=
  va_get (D := (dC, dI)) (ci := 0) (v := .int (x_lo S)) (C := RX0) (T := TX0) (N := 15) hx hb hts hin hown hK hP 0 rfl rfl 2 (by decide) hlink (fun _ h9 => h9) rfl hdg kk
theorem p_x_lo (hx : p.tables.exec = Jvm.exec) (hb : c.code = cc) (hts : ∀ w ∈ Ts, w.before args s = true) (hin : ∀ w ∈ wsX00, w ∈ Ts) (hown : s.vm.findClass RX0 = some m.cls) (hK : va_K (dC, dI) vwCl (tyX cL cZ cO) s) (hP : va_P (dC, dI) vwCl (wX ad cL cZ cO S) H) (hD : va_D A (wX ad cL cZ cO S)) (hS : va_S A H0 H locs) {index : Nat} {v : Int32} (hlink : (Cond.fieldLink RX0 index RX0 "locality" "I").before args s = true) (hdg : decode cc pc = .ok (.putfield index, 3))
    (kk : ∀ (H1 : Heap) (locs1 : List Loc), va_P (dC, dI) vwCl (wX ad cL cZ cO (xu_lo S v)) H1 → va_D A (wX ad cL cZ cO (xu_lo S v)) → va_S A H0 H1 locs1 → W p l e R s m args below meth c H1 locs1 cells slots Q (F0 m (pc + 3) ls rest)) : W p l e R s m args below meth c H locs cells slots Q (F0 m pc ls (.int v :: .ref (ad 0) :: rest)) :=
  va_put (D := (dC, dI)) (ci := 0) (v := .int v) (ty := .int) (C := RX0) (T := TX0) (N := 15) hx hb hts hin tyX0 tyX0_ok nmX0 hown hK hP hD hS 0 rfl rfl 2 (by decide) hlink (fun _ h9 => h9) rfl (by decide +kernel) rfl rfl (Nat.le_of_ble_eq_true rfl) hdg kk
theorem g_x_fa (hx : p.tables.exec = Jvm.exec) (hb : c.code = cc) (hts : ∀ w ∈ Ts, w.before args s = true) (hin : ∀ w ∈ wsX00, w ∈ Ts) (hown : s.vm.findClass RX0 = some m.cls) (hK : va_K (dC, dI) vwCl (tyX cL cZ cO) s) (hP : va_P (dC, dI) vwCl (wX ad cL cZ cO S) H) {index : Nat} (hlink : (Cond.fieldLink RX0 index RX0 "failures" "I").before args s = true) (hdg : decode cc pc = .ok (.getfield index, 3))
    (kk : W p l e R s m args below meth c H locs cells slots Q (F0 m (pc + 3) ls (.int (x_fa S) :: rest))) : W p l e R s m args below meth c H locs cells slots Q (F0 m pc ls (.ref (ad 0) :: rest)) :=
  va_get (D := (dC, dI)) (ci := 0) (v := .int (x_fa S)) (C := RX0) (T := TX0) (N := 15) hx hb hts hin hown hK hP 0 rfl rfl 3 (by decide) hlink (fun _ h9 => h9) rfl hdg kk
theorem p_x_fa (hx : p.tables.exec = Jvm.exec) (hb : c.code = cc) (hts : ∀ w ∈ Ts, w.before args s = true) (hin : ∀ w ∈ wsX00, w ∈ Ts) (hown : s.vm.findClass RX0 = some m.cls) (hK : va_K (dC, dI) vwCl (tyX cL cZ cO) s) (hP : va_P (dC, dI) vwCl (wX ad cL cZ cO S) H) (hD : va_D A (wX ad cL cZ cO S)) (hS : va_S A H0 H locs) {index : Nat} {v : Int32} (hlink : (Cond.fieldLink RX0 index RX0 "failures" "I").before args s = true) (hdg : decode cc pc = .ok (.putfield index, 3))
    (kk : ∀ (H1 : Heap) (locs1 : List Loc), va_P (dC, dI) vwCl (wX ad cL cZ cO (xu_fa S v)) H1 → va_D A (wX ad cL cZ cO (xu_fa S v)) → va_S A H0 H1 locs1 → W p l e R s m args below meth c H1 locs1 cells slots Q (F0 m (pc + 3) ls rest)) : W p l e R s m args below meth c H locs cells slots Q (F0 m pc ls (.int v :: .ref (ad 0) :: rest)) :=
  va_put (D := (dC, dI)) (ci := 0) (v := .int v) (ty := .int) (C := RX0) (T := TX0) (N := 15) hx hb hts hin tyX0 tyX0_ok nmX0 hown hK hP hD hS 0 rfl rfl 3 (by decide) hlink (fun _ h9 => h9) rfl (by decide +kernel) rfl rfl (Nat.le_of_ble_eq_true rfl) hdg kk
theorem g_x_pr (hx : p.tables.exec = Jvm.exec) (hb : c.code = cc) (hts : ∀ w ∈ Ts, w.before args s = true) (hin : ∀ w ∈ wsX00, w ∈ Ts) (hown : s.vm.findClass RX0 = some m.cls) (hK : va_K (dC, dI) vwCl (tyX cL cZ cO) s) (hP : va_P (dC, dI) vwCl (wX ad cL cZ cO S) H) {index : Nat} (hlink : (Cond.fieldLink RX0 index RX0 "proof" "J").before args s = true) (hdg : decode cc pc = .ok (.getfield index, 3))
    (kk : W p l e R s m args below meth c H locs cells slots Q (F0 m (pc + 3) ls (.long (x_pr S) :: rest))) : W p l e R s m args below meth c H locs cells slots Q (F0 m pc ls (.ref (ad 0) :: rest)) :=
  va_get (D := (dC, dI)) (ci := 0) (v := .long (x_pr S)) (C := RX0) (T := TX0) (N := 15) hx hb hts hin hown hK hP 0 rfl rfl 4 (by decide) hlink (fun _ h9 => h9) rfl hdg kk
theorem p_x_pr (hx : p.tables.exec = Jvm.exec) (hb : c.code = cc) (hts : ∀ w ∈ Ts, w.before args s = true) (hin : ∀ w ∈ wsX00, w ∈ Ts) (hown : s.vm.findClass RX0 = some m.cls) (hK : va_K (dC, dI) vwCl (tyX cL cZ cO) s) (hP : va_P (dC, dI) vwCl (wX ad cL cZ cO S) H) (hD : va_D A (wX ad cL cZ cO S)) (hS : va_S A H0 H locs) {index : Nat} {v : Int64} (hlink : (Cond.fieldLink RX0 index RX0 "proof" "J").before args s = true) (hdg : decode cc pc = .ok (.putfield index, 3))
    (kk : ∀ (H1 : Heap) (locs1 : List Loc), va_P (dC, dI) vwCl (wX ad cL cZ cO (xu_pr S v)) H1 → va_D A (wX ad cL cZ cO (xu_pr S v)) → va_S A H0 H1 locs1 → W p l e R s m args below meth c H1 locs1 cells slots Q (F0 m (pc + 3) ls rest)) : W p l e R s m args below meth c H locs cells slots Q (F0 m pc ls (.long v :: .ref (ad 0) :: rest)) :=
  va_put (D := (dC, dI)) (ci := 0) (v := .long v) (ty := .long) (C := RX0) (T := TX0) (N := 15) hx hb hts hin tyX0 tyX0_ok nmX0 hown hK hP hD hS 0 rfl rfl 4 (by decide) hlink (fun _ h9 => h9) rfl (by decide +kernel) rfl rfl (Nat.le_of_ble_eq_true rfl) hdg kk
theorem g_x_ou (hx : p.tables.exec = Jvm.exec) (hb : c.code = cc) (hts : ∀ w ∈ Ts, w.before args s = true) (hin : ∀ w ∈ wsX00, w ∈ Ts) (hown : s.vm.findClass RX0 = some m.cls) (hK : va_K (dC, dI) vwCl (tyX cL cZ cO) s) (hP : va_P (dC, dI) vwCl (wX ad cL cZ cO S) H) {index : Nat} (hlink : (Cond.fieldLink RX0 index RX0 "output" "J").before args s = true) (hdg : decode cc pc = .ok (.getfield index, 3))
    (kk : W p l e R s m args below meth c H locs cells slots Q (F0 m (pc + 3) ls (.long (x_ou S) :: rest))) : W p l e R s m args below meth c H locs cells slots Q (F0 m pc ls (.ref (ad 0) :: rest)) :=
  va_get (D := (dC, dI)) (ci := 0) (v := .long (x_ou S)) (C := RX0) (T := TX0) (N := 15) hx hb hts hin hown hK hP 0 rfl rfl 5 (by decide) hlink (fun _ h9 => h9) rfl hdg kk
theorem p_x_ou (hx : p.tables.exec = Jvm.exec) (hb : c.code = cc) (hts : ∀ w ∈ Ts, w.before args s = true) (hin : ∀ w ∈ wsX00, w ∈ Ts) (hown : s.vm.findClass RX0 = some m.cls) (hK : va_K (dC, dI) vwCl (tyX cL cZ cO) s) (hP : va_P (dC, dI) vwCl (wX ad cL cZ cO S) H) (hD : va_D A (wX ad cL cZ cO S)) (hS : va_S A H0 H locs) {index : Nat} {v : Int64} (hlink : (Cond.fieldLink RX0 index RX0 "output" "J").before args s = true) (hdg : decode cc pc = .ok (.putfield index, 3))
    (kk : ∀ (H1 : Heap) (locs1 : List Loc), va_P (dC, dI) vwCl (wX ad cL cZ cO (xu_ou S v)) H1 → va_D A (wX ad cL cZ cO (xu_ou S v)) → va_S A H0 H1 locs1 → W p l e R s m args below meth c H1 locs1 cells slots Q (F0 m (pc + 3) ls rest)) : W p l e R s m args below meth c H locs cells slots Q (F0 m pc ls (.long v :: .ref (ad 0) :: rest)) :=
  va_put (D := (dC, dI)) (ci := 0) (v := .long v) (ty := .long) (C := RX0) (T := TX0) (N := 15) hx hb hts hin tyX0 tyX0_ok nmX0 hown hK hP hD hS 0 rfl rfl 5 (by decide) hlink (fun _ h9 => h9) rfl (by decide +kernel) rfl rfl (Nat.le_of_ble_eq_true rfl) hdg kk
theorem g_x_bc (hx : p.tables.exec = Jvm.exec) (hb : c.code = cc) (hts : ∀ w ∈ Ts, w.before args s = true) (hin : ∀ w ∈ wsX00, w ∈ Ts) (hown : s.vm.findClass RX0 = some m.cls) (hK : va_K (dC, dI) vwCl (tyX cL cZ cO) s) (hP : va_P (dC, dI) vwCl (wX ad cL cZ cO S) H) {index : Nat} (hlink : (Cond.fieldLink RX0 index RX0 "blobCount" "I").before args s = true) (hdg : decode cc pc = .ok (.getfield index, 3))
    (kk : W p l e R s m args below meth c H locs cells slots Q (F0 m (pc + 3) ls (.int (x_bc S) :: rest))) : W p l e R s m args below meth c H locs cells slots Q (F0 m pc ls (.ref (ad 0) :: rest)) :=
  va_get (D := (dC, dI)) (ci := 0) (v := .int (x_bc S)) (C := RX0) (T := TX0) (N := 15) hx hb hts hin hown hK hP 0 rfl rfl 13 (by decide) hlink (fun _ h9 => h9) rfl hdg kk
theorem p_x_bc (hx : p.tables.exec = Jvm.exec) (hb : c.code = cc) (hts : ∀ w ∈ Ts, w.before args s = true) (hin : ∀ w ∈ wsX00, w ∈ Ts) (hown : s.vm.findClass RX0 = some m.cls) (hK : va_K (dC, dI) vwCl (tyX cL cZ cO) s) (hP : va_P (dC, dI) vwCl (wX ad cL cZ cO S) H) (hD : va_D A (wX ad cL cZ cO S)) (hS : va_S A H0 H locs) {index : Nat} {v : Int32} (hlink : (Cond.fieldLink RX0 index RX0 "blobCount" "I").before args s = true) (hdg : decode cc pc = .ok (.putfield index, 3))
    (kk : ∀ (H1 : Heap) (locs1 : List Loc), va_P (dC, dI) vwCl (wX ad cL cZ cO (xu_bc S v)) H1 → va_D A (wX ad cL cZ cO (xu_bc S v)) → va_S A H0 H1 locs1 → W p l e R s m args below meth c H1 locs1 cells slots Q (F0 m (pc + 3) ls rest)) : W p l e R s m args below meth c H locs cells slots Q (F0 m pc ls (.int v :: .ref (ad 0) :: rest)) :=
  va_put (D := (dC, dI)) (ci := 0) (v := .int v) (ty := .int) (C := RX0) (T := TX0) (N := 15) hx hb hts hin tyX0 tyX0_ok nmX0 hown hK hP hD hS 0 rfl rfl 13 (by decide) hlink (fun _ h9 => h9) rfl (by decide +kernel) rfl rfl (Nat.le_of_ble_eq_true rfl) hdg kk
theorem g_x_arg (hx : p.tables.exec = Jvm.exec) (hb : c.code = cc) (hts : ∀ w ∈ Ts, w.before args s = true) (hin : ∀ w ∈ wsX00, w ∈ Ts) (hown : s.vm.findClass RX0 = some m.cls) (hK : va_K (dC, dI) vwCl (tyX cL cZ cO) s) (hP : va_P (dC, dI) vwCl (wX ad cL cZ cO S) H) {index : Nat} (hlink : (Cond.fieldLink RX0 index RX0 "registers" "[J").before args s = true) (hdg : decode cc pc = .ok (.getfield index, 3))
    (kk : W p l e R s m args below meth c H locs cells slots Q (F0 m (pc + 3) ls (.ref (ad 1) :: rest))) : W p l e R s m args below meth c H locs cells slots Q (F0 m pc ls (.ref (ad 0) :: rest)) :=
  va_get (D := (dC, dI)) (ci := 0) (v := .ref (ad 1)) (C := RX0) (T := TX0) (N := 15) hx hb hts hin hown hK hP 0 rfl rfl 6 (by decide) hlink (fun _ h9 => h9) rfl hdg kk
theorem g_x_akt (hx : p.tables.exec = Jvm.exec) (hb : c.code = cc) (hts : ∀ w ∈ Ts, w.before args s = true) (hin : ∀ w ∈ wsX00, w ∈ Ts) (hown : s.vm.findClass RX0 = some m.cls) (hK : va_K (dC, dI) vwCl (tyX cL cZ cO) s) (hP : va_P (dC, dI) vwCl (wX ad cL cZ cO S) H) {index : Nat} (hlink : (Cond.fieldLink RX0 index RX0 "keyThere" "[Z").before args s = true) (hdg : decode cc pc = .ok (.getfield index, 3))
    (kk : W p l e R s m args below meth c H locs cells slots Q (F0 m (pc + 3) ls (.ref (ad 2) :: rest))) : W p l e R s m args below meth c H locs cells slots Q (F0 m pc ls (.ref (ad 0) :: rest)) :=
  va_get (D := (dC, dI)) (ci := 0) (v := .ref (ad 2)) (C := RX0) (T := TX0) (N := 15) hx hb hts hin hown hK hP 0 rfl rfl 7 (by decide) hlink (fun _ h9 => h9) rfl hdg kk
theorem g_x_aks (hx : p.tables.exec = Jvm.exec) (hb : c.code = cc) (hts : ∀ w ∈ Ts, w.before args s = true) (hin : ∀ w ∈ wsX00, w ∈ Ts) (hown : s.vm.findClass RX0 = some m.cls) (hK : va_K (dC, dI) vwCl (tyX cL cZ cO) s) (hP : va_P (dC, dI) vwCl (wX ad cL cZ cO S) H) {index : Nat} (hlink : (Cond.fieldLink RX0 index RX0 "keySecrets" "[J").before args s = true) (hdg : decode cc pc = .ok (.getfield index, 3))
    (kk : W p l e R s m args below meth c H locs cells slots Q (F0 m (pc + 3) ls (.ref (ad 3) :: rest))) : W p l e R s m args below meth c H locs cells slots Q (F0 m pc ls (.ref (ad 0) :: rest)) :=
  va_get (D := (dC, dI)) (ci := 0) (v := .ref (ad 3)) (C := RX0) (T := TX0) (N := 15) hx hb hts hin hown hK hP 0 rfl rfl 8 (by decide) hlink (fun _ h9 => h9) rfl hdg kk
theorem g_x_akn (hx : p.tables.exec = Jvm.exec) (hb : c.code = cc) (hts : ∀ w ∈ Ts, w.before args s = true) (hin : ∀ w ∈ wsX00, w ∈ Ts) (hown : s.vm.findClass RX0 = some m.cls) (hK : va_K (dC, dI) vwCl (tyX cL cZ cO) s) (hP : va_P (dC, dI) vwCl (wX ad cL cZ cO S) H) {index : Nat} (hlink : (Cond.fieldLink RX0 index RX0 "keyNames" "[J").before args s = true) (hdg : decode cc pc = .ok (.getfield index, 3))
    (kk : W p l e R s m args below meth c H locs cells slots Q (F0 m (pc + 3) ls (.ref (ad 4) :: rest))) : W p l e R s m args below meth c H locs cells slots Q (F0 m pc ls (.ref (ad 0) :: rest)) :=
  va_get (D := (dC, dI)) (ci := 0) (v := .ref (ad 4)) (C := RX0) (T := TX0) (N := 15) hx hb hts hin hown hK hP 0 rfl rfl 9 (by decide) hlink (fun _ h9 => h9) rfl hdg kk
theorem g_x_ast (hx : p.tables.exec = Jvm.exec) (hb : c.code = cc) (hts : ∀ w ∈ Ts, w.before args s = true) (hin : ∀ w ∈ wsX00, w ∈ Ts) (hown : s.vm.findClass RX0 = some m.cls) (hK : va_K (dC, dI) vwCl (tyX cL cZ cO) s) (hP : va_P (dC, dI) vwCl (wX ad cL cZ cO S) H) {index : Nat} (hlink : (Cond.fieldLink RX0 index RX0 "sessionThere" "[Z").before args s = true) (hdg : decode cc pc = .ok (.getfield index, 3))
    (kk : W p l e R s m args below meth c H locs cells slots Q (F0 m (pc + 3) ls (.ref (ad 5) :: rest))) : W p l e R s m args below meth c H locs cells slots Q (F0 m pc ls (.ref (ad 0) :: rest)) :=
  va_get (D := (dC, dI)) (ci := 0) (v := .ref (ad 5)) (C := RX0) (T := TX0) (N := 15) hx hb hts hin hown hK hP 0 rfl rfl 10 (by decide) hlink (fun _ h9 => h9) rfl hdg kk
theorem g_x_acn (hx : p.tables.exec = Jvm.exec) (hb : c.code = cc) (hts : ∀ w ∈ Ts, w.before args s = true) (hin : ∀ w ∈ wsX00, w ∈ Ts) (hown : s.vm.findClass RX0 = some m.cls) (hK : va_K (dC, dI) vwCl (tyX cL cZ cO) s) (hP : va_P (dC, dI) vwCl (wX ad cL cZ cO S) H) {index : Nat} (hlink : (Cond.fieldLink RX0 index RX0 "callerNonces" "[J").before args s = true) (hdg : decode cc pc = .ok (.getfield index, 3))
    (kk : W p l e R s m args below meth c H locs cells slots Q (F0 m (pc + 3) ls (.ref (ad 6) :: rest))) : W p l e R s m args below meth c H locs cells slots Q (F0 m pc ls (.ref (ad 0) :: rest)) :=
  va_get (D := (dC, dI)) (ci := 0) (v := .ref (ad 6)) (C := RX0) (T := TX0) (N := 15) hx hb hts hin hown hK hP 0 rfl rfl 11 (by decide) hlink (fun _ h9 => h9) rfl hdg kk
theorem g_x_amn (hx : p.tables.exec = Jvm.exec) (hb : c.code = cc) (hts : ∀ w ∈ Ts, w.before args s = true) (hin : ∀ w ∈ wsX00, w ∈ Ts) (hown : s.vm.findClass RX0 = some m.cls) (hK : va_K (dC, dI) vwCl (tyX cL cZ cO) s) (hP : va_P (dC, dI) vwCl (wX ad cL cZ cO S) H) {index : Nat} (hlink : (Cond.fieldLink RX0 index RX0 "machineNonces" "[J").before args s = true) (hdg : decode cc pc = .ok (.getfield index, 3))
    (kk : W p l e R s m args below meth c H locs cells slots Q (F0 m (pc + 3) ls (.ref (ad 7) :: rest))) : W p l e R s m args below meth c H locs cells slots Q (F0 m pc ls (.ref (ad 0) :: rest)) :=
  va_get (D := (dC, dI)) (ci := 0) (v := .ref (ad 7)) (C := RX0) (T := TX0) (N := 15) hx hb hts hin hown hK hP 0 rfl rfl 12 (by decide) hlink (fun _ h9 => h9) rfl hdg kk
theorem g_x_abl (hx : p.tables.exec = Jvm.exec) (hb : c.code = cc) (hts : ∀ w ∈ Ts, w.before args s = true) (hin : ∀ w ∈ wsX00, w ∈ Ts) (hown : s.vm.findClass RX0 = some m.cls) (hK : va_K (dC, dI) vwCl (tyX cL cZ cO) s) (hP : va_P (dC, dI) vwCl (wX ad cL cZ cO S) H) {index : Nat} (hlink : (Cond.fieldLink RX0 index RX0 "blobs" "[[J").before args s = true) (hdg : decode cc pc = .ok (.getfield index, 3))
    (kk : W p l e R s m args below meth c H locs cells slots Q (F0 m (pc + 3) ls (.ref (ad 8) :: rest))) : W p l e R s m args below meth c H locs cells slots Q (F0 m pc ls (.ref (ad 0) :: rest)) :=
  va_get (D := (dC, dI)) (ci := 0) (v := .ref (ad 8)) (C := RX0) (T := TX0) (N := 15) hx hb hts hin hown hK hP 0 rfl rfl 14 (by decide) hlink (fun _ h9 => h9) rfl hdg kk
theorem l_x_rg (hx : p.tables.exec = Jvm.exec) (hb : c.code = cc) (hK : va_K (dC, dI) vwCl (tyX cL cZ cO) s) (hP : va_P (dC, dI) vwCl (wX ad cL cZ cO S) H) {i : Int32} {k : Nat} (hat : xat i k 8) (hdg : decode cc pc = .ok (.laload, 1))
    (kk : W p l e R s m args below meth c H locs cells slots Q (F0 m (pc + 1) ls (.long (x_rg S k) :: rest))) : W p l e R s m args below meth c H locs cells slots Q (F0 m pc ls (.int i :: .ref (ad 1) :: rest)) :=
  xv_lald hx hb hK hP 1 0 rfl rfl hat hdg kk
theorem s_x_rg (hx : p.tables.exec = Jvm.exec) (hb : c.code = cc) (hK : va_K (dC, dI) vwCl (tyX cL cZ cO) s) (hP : va_P (dC, dI) vwCl (wX ad cL cZ cO S) H) (hD : va_D A (wX ad cL cZ cO S)) (hS : va_S A H0 H locs) {i : Int32} {k : Nat} {v : Int64} (hat : xat i k 8) (hdg : decode cc pc = .ok (.lastore, 1))
    (kk : ∀ (H1 : Heap) (locs1 : List Loc), va_P (dC, dI) vwCl (wX ad cL cZ cO (xu_rg S (vp_updL (x_rg S) k v))) H1 → va_D A (wX ad cL cZ cO (xu_rg S (vp_updL (x_rg S) k v))) → va_S A H0 H1 locs1 → W p l e R s m args below meth c H1 locs1 cells slots Q (F0 m (pc + 1) ls rest)) : W p l e R s m args below meth c H locs cells slots Q (F0 m pc ls (.long v :: .int i :: .ref (ad 1) :: rest)) :=
  xv_last hx hb hK hP hD hS 1 0 rfl rfl hat rfl hdg kk
theorem l_x_kt (hx : p.tables.exec = Jvm.exec) (hb : c.code = cc) (hK : va_K (dC, dI) vwCl (tyX cL cZ cO) s) (hP : va_P (dC, dI) vwCl (wX ad cL cZ cO S) H) {i : Int32} {k : Nat} (hat : xat i k 6) (hdg : decode cc pc = .ok (.baload, 1))
    (kk : W p l e R s m args below meth c H locs cells slots Q (F0 m (pc + 1) ls (.int (x_kt S k) :: rest))) : W p l e R s m args below meth c H locs cells slots Q (F0 m pc ls (.int i :: .ref (ad 2) :: rest)) :=
  xv_zald hx hb hK hP 2 1 rfl rfl hat hdg kk
theorem s_x_kt (hx : p.tables.exec = Jvm.exec) (hb : c.code = cc) (hK : va_K (dC, dI) vwCl (tyX cL cZ cO) s) (hP : va_P (dC, dI) vwCl (wX ad cL cZ cO S) H) (hD : va_D A (wX ad cL cZ cO S)) (hS : va_S A H0 H locs) {i : Int32} {k : Nat} {v : Int32} (hv : vp_nar .boolean v = v) (hat : xat i k 6) (hdg : decode cc pc = .ok (.bastore, 1))
    (kk : ∀ (H1 : Heap) (locs1 : List Loc), va_P (dC, dI) vwCl (wX ad cL cZ cO (xu_kt S (upd (x_kt S) k v))) H1 → va_D A (wX ad cL cZ cO (xu_kt S (upd (x_kt S) k v))) → va_S A H0 H1 locs1 → W p l e R s m args below meth c H1 locs1 cells slots Q (F0 m (pc + 1) ls rest)) : W p l e R s m args below meth c H locs cells slots Q (F0 m pc ls (.int v :: .int i :: .ref (ad 2) :: rest)) :=
  xv_zast hx hb hK hP hD hS 2 1 rfl rfl hv hat rfl hdg kk
theorem l_x_ks (hx : p.tables.exec = Jvm.exec) (hb : c.code = cc) (hK : va_K (dC, dI) vwCl (tyX cL cZ cO) s) (hP : va_P (dC, dI) vwCl (wX ad cL cZ cO S) H) {i : Int32} {k : Nat} (hat : xat i k 6) (hdg : decode cc pc = .ok (.laload, 1))
    (kk : W p l e R s m args below meth c H locs cells slots Q (F0 m (pc + 1) ls (.long (x_ks S k) :: rest))) : W p l e R s m args below meth c H locs cells slots Q (F0 m pc ls (.int i :: .ref (ad 3) :: rest)) :=
  xv_lald hx hb hK hP 3 0 rfl rfl hat hdg kk
theorem s_x_ks (hx : p.tables.exec = Jvm.exec) (hb : c.code = cc) (hK : va_K (dC, dI) vwCl (tyX cL cZ cO) s) (hP : va_P (dC, dI) vwCl (wX ad cL cZ cO S) H) (hD : va_D A (wX ad cL cZ cO S)) (hS : va_S A H0 H locs) {i : Int32} {k : Nat} {v : Int64} (hat : xat i k 6) (hdg : decode cc pc = .ok (.lastore, 1))
    (kk : ∀ (H1 : Heap) (locs1 : List Loc), va_P (dC, dI) vwCl (wX ad cL cZ cO (xu_ks S (vp_updL (x_ks S) k v))) H1 → va_D A (wX ad cL cZ cO (xu_ks S (vp_updL (x_ks S) k v))) → va_S A H0 H1 locs1 → W p l e R s m args below meth c H1 locs1 cells slots Q (F0 m (pc + 1) ls rest)) : W p l e R s m args below meth c H locs cells slots Q (F0 m pc ls (.long v :: .int i :: .ref (ad 3) :: rest)) :=
  xv_last hx hb hK hP hD hS 3 0 rfl rfl hat rfl hdg kk
theorem l_x_kn (hx : p.tables.exec = Jvm.exec) (hb : c.code = cc) (hK : va_K (dC, dI) vwCl (tyX cL cZ cO) s) (hP : va_P (dC, dI) vwCl (wX ad cL cZ cO S) H) {i : Int32} {k : Nat} (hat : xat i k 6) (hdg : decode cc pc = .ok (.laload, 1))
    (kk : W p l e R s m args below meth c H locs cells slots Q (F0 m (pc + 1) ls (.long (x_kn S k) :: rest))) : W p l e R s m args below meth c H locs cells slots Q (F0 m pc ls (.int i :: .ref (ad 4) :: rest)) :=
  xv_lald hx hb hK hP 4 0 rfl rfl hat hdg kk
theorem s_x_kn (hx : p.tables.exec = Jvm.exec) (hb : c.code = cc) (hK : va_K (dC, dI) vwCl (tyX cL cZ cO) s) (hP : va_P (dC, dI) vwCl (wX ad cL cZ cO S) H) (hD : va_D A (wX ad cL cZ cO S)) (hS : va_S A H0 H locs) {i : Int32} {k : Nat} {v : Int64} (hat : xat i k 6) (hdg : decode cc pc = .ok (.lastore, 1))
    (kk : ∀ (H1 : Heap) (locs1 : List Loc), va_P (dC, dI) vwCl (wX ad cL cZ cO (xu_kn S (vp_updL (x_kn S) k v))) H1 → va_D A (wX ad cL cZ cO (xu_kn S (vp_updL (x_kn S) k v))) → va_S A H0 H1 locs1 → W p l e R s m args below meth c H1 locs1 cells slots Q (F0 m (pc + 1) ls rest)) : W p l e R s m args below meth c H locs cells slots Q (F0 m pc ls (.long v :: .int i :: .ref (ad 4) :: rest)) :=
  xv_last hx hb hK hP hD hS 4 0 rfl rfl hat rfl hdg kk
theorem l_x_st (hx : p.tables.exec = Jvm.exec) (hb : c.code = cc) (hK : va_K (dC, dI) vwCl (tyX cL cZ cO) s) (hP : va_P (dC, dI) vwCl (wX ad cL cZ cO S) H) {i : Int32} {k : Nat} (hat : xat i k 4) (hdg : decode cc pc = .ok (.baload, 1))
    (kk : W p l e R s m args below meth c H locs cells slots Q (F0 m (pc + 1) ls (.int (x_st S k) :: rest))) : W p l e R s m args below meth c H locs cells slots Q (F0 m pc ls (.int i :: .ref (ad 5) :: rest)) :=
  xv_zald hx hb hK hP 5 1 rfl rfl hat hdg kk
theorem s_x_st (hx : p.tables.exec = Jvm.exec) (hb : c.code = cc) (hK : va_K (dC, dI) vwCl (tyX cL cZ cO) s) (hP : va_P (dC, dI) vwCl (wX ad cL cZ cO S) H) (hD : va_D A (wX ad cL cZ cO S)) (hS : va_S A H0 H locs) {i : Int32} {k : Nat} {v : Int32} (hv : vp_nar .boolean v = v) (hat : xat i k 4) (hdg : decode cc pc = .ok (.bastore, 1))
    (kk : ∀ (H1 : Heap) (locs1 : List Loc), va_P (dC, dI) vwCl (wX ad cL cZ cO (xu_st S (upd (x_st S) k v))) H1 → va_D A (wX ad cL cZ cO (xu_st S (upd (x_st S) k v))) → va_S A H0 H1 locs1 → W p l e R s m args below meth c H1 locs1 cells slots Q (F0 m (pc + 1) ls rest)) : W p l e R s m args below meth c H locs cells slots Q (F0 m pc ls (.int v :: .int i :: .ref (ad 5) :: rest)) :=
  xv_zast hx hb hK hP hD hS 5 1 rfl rfl hv hat rfl hdg kk
theorem l_x_cn (hx : p.tables.exec = Jvm.exec) (hb : c.code = cc) (hK : va_K (dC, dI) vwCl (tyX cL cZ cO) s) (hP : va_P (dC, dI) vwCl (wX ad cL cZ cO S) H) {i : Int32} {k : Nat} (hat : xat i k 4) (hdg : decode cc pc = .ok (.laload, 1))
    (kk : W p l e R s m args below meth c H locs cells slots Q (F0 m (pc + 1) ls (.long (x_cn S k) :: rest))) : W p l e R s m args below meth c H locs cells slots Q (F0 m pc ls (.int i :: .ref (ad 6) :: rest)) :=
  xv_lald hx hb hK hP 6 0 rfl rfl hat hdg kk
theorem s_x_cn (hx : p.tables.exec = Jvm.exec) (hb : c.code = cc) (hK : va_K (dC, dI) vwCl (tyX cL cZ cO) s) (hP : va_P (dC, dI) vwCl (wX ad cL cZ cO S) H) (hD : va_D A (wX ad cL cZ cO S)) (hS : va_S A H0 H locs) {i : Int32} {k : Nat} {v : Int64} (hat : xat i k 4) (hdg : decode cc pc = .ok (.lastore, 1))
    (kk : ∀ (H1 : Heap) (locs1 : List Loc), va_P (dC, dI) vwCl (wX ad cL cZ cO (xu_cn S (vp_updL (x_cn S) k v))) H1 → va_D A (wX ad cL cZ cO (xu_cn S (vp_updL (x_cn S) k v))) → va_S A H0 H1 locs1 → W p l e R s m args below meth c H1 locs1 cells slots Q (F0 m (pc + 1) ls rest)) : W p l e R s m args below meth c H locs cells slots Q (F0 m pc ls (.long v :: .int i :: .ref (ad 6) :: rest)) :=
  xv_last hx hb hK hP hD hS 6 0 rfl rfl hat rfl hdg kk
theorem l_x_mn (hx : p.tables.exec = Jvm.exec) (hb : c.code = cc) (hK : va_K (dC, dI) vwCl (tyX cL cZ cO) s) (hP : va_P (dC, dI) vwCl (wX ad cL cZ cO S) H) {i : Int32} {k : Nat} (hat : xat i k 4) (hdg : decode cc pc = .ok (.laload, 1))
    (kk : W p l e R s m args below meth c H locs cells slots Q (F0 m (pc + 1) ls (.long (x_mn S k) :: rest))) : W p l e R s m args below meth c H locs cells slots Q (F0 m pc ls (.int i :: .ref (ad 7) :: rest)) :=
  xv_lald hx hb hK hP 7 0 rfl rfl hat hdg kk
theorem s_x_mn (hx : p.tables.exec = Jvm.exec) (hb : c.code = cc) (hK : va_K (dC, dI) vwCl (tyX cL cZ cO) s) (hP : va_P (dC, dI) vwCl (wX ad cL cZ cO S) H) (hD : va_D A (wX ad cL cZ cO S)) (hS : va_S A H0 H locs) {i : Int32} {k : Nat} {v : Int64} (hat : xat i k 4) (hdg : decode cc pc = .ok (.lastore, 1))
    (kk : ∀ (H1 : Heap) (locs1 : List Loc), va_P (dC, dI) vwCl (wX ad cL cZ cO (xu_mn S (vp_updL (x_mn S) k v))) H1 → va_D A (wX ad cL cZ cO (xu_mn S (vp_updL (x_mn S) k v))) → va_S A H0 H1 locs1 → W p l e R s m args below meth c H1 locs1 cells slots Q (F0 m (pc + 1) ls rest)) : W p l e R s m args below meth c H locs cells slots Q (F0 m pc ls (.long v :: .int i :: .ref (ad 7) :: rest)) :=
  xv_last hx hb hK hP hD hS 7 0 rfl rfl hat rfl hdg kk
end XS
section XSR
variable {p : Program} {l : Launch} {e : Env} {R : Room} {s : State} {m : MethodId} {args : Array Value} {below : List Frame} {meth : Method} {c : Code} {H : Heap} {locs : List Loc} {cells slots : Nat} {Q : State → Prop}
variable {cc : ByteArray} {pc : Nat} {ls : Array Slot} {rest : List Value} {dC : Nat → ClassId} {dI : Nat → Nat → Nat} {A : Nat → Prop} {H0 : Heap} {Ts : List Cond}
variable {ad : Nat → Nat} {cL cZ cO : ClassId} {S : SX}
theorem l_x_bl (hx : p.tables.exec = Jvm.exec) (hb : c.code = cc) (hK : va_K (dC, dI) vwCl (tyX cL cZ cO) s) (hP : va_P (dC, dI) vwCl (wX ad cL cZ cO S) H) {i : Int32} {k : Nat} (hat : xat i k 10) (hdg : decode cc pc = .ok (.aaload, 1))
    (kk : W p l e R s m args below meth c H locs cells slots Q (F0 m (pc + 1) ls (.ref (ad (9 + k)) :: rest))) : W p l e R s m args below meth c H locs cells slots Q (F0 m pc ls (.int i :: .ref (ad 8) :: rest)) :=
  xv_aald hx hb hK hP 8 2 rfl rfl hat (wX_tab (xat_lt hat)) hdg kk
theorem l_x_row (hx : p.tables.exec = Jvm.exec) (hb : c.code = cc) (hK : va_K (dC, dI) vwCl (tyX cL cZ cO) s) (hP : va_P (dC, dI) vwCl (wX ad cL cZ cO S) H) {q : Nat} (hq : q < 10) {i : Int32} {k : Nat} (hat : xat i k 6) (hdg : decode cc pc = .ok (.laload, 1))
    (kk : W p l e R s m args below meth c H locs cells slots Q (F0 m (pc + 1) ls (.long (x_bl S q k) :: rest))) : W p l e R s m args below meth c H locs cells slots Q (F0 m pc ls (.int i :: .ref (ad (9 + q)) :: rest)) :=
  xv_lald hx hb hK hP (9 + q) 0 (wX_row hq) rfl hat hdg kk
theorem s_x_row (hx : p.tables.exec = Jvm.exec) (hb : c.code = cc) (hK : va_K (dC, dI) vwCl (tyX cL cZ cO) s) (hP : va_P (dC, dI) vwCl (wX ad cL cZ cO S) H) (hD : va_D A (wX ad cL cZ cO S)) (hS : va_S A H0 H locs) {q : Nat} (hq : q < 10) {i : Int32} {k : Nat} {v : Int64} (hat : xat i k 6) (hdg : decode cc pc = .ok (.lastore, 1))
    (kk : ∀ (H1 : Heap) (locs1 : List Loc), va_P (dC, dI) vwCl (wX ad cL cZ cO (xu_bl S (up2 (x_bl S) q k v))) H1 → va_D A (wX ad cL cZ cO (xu_bl S (up2 (x_bl S) q k v))) → va_S A H0 H1 locs1 → W p l e R s m args below meth c H1 locs1 cells slots Q (F0 m (pc + 1) ls rest)) : W p l e R s m args below meth c H locs cells slots Q (F0 m pc ls (.long v :: .int i :: .ref (ad (9 + q)) :: rest)) :=
  xv_last hx hb hK hP hD hS (9 + q) 0 (wX_row hq) rfl hat (wX_set hq k v) hdg kk
end XSR
section MS
variable {p : Program} {l : Launch} {e : Env} {R : Room} {s : State} {m : MethodId} {args : Array Value} {below : List Frame} {meth : Method} {c : Code} {H : Heap} {locs : List Loc} {cells slots : Nat} {Q : State → Prop}
variable {cc : ByteArray} {pc : Nat} {ls : Array Slot} {rest : List Value} {dC : Nat → ClassId} {dI : Nat → Nat → Nat} {A : Nat → Prop} {H0 : Heap} {Ts : List Cond}
variable {ad : Nat → Nat} {cL cZ cI : ClassId} {S : SM} {ro hd : Nat → Int64}
theorem g_m_m (hx : p.tables.exec = Jvm.exec) (hb : c.code = cc) (hts : ∀ w ∈ Ts, w.before args s = true) (hin : ∀ w ∈ wsX10, w ∈ Ts) (hown : s.vm.findClass RX1 = some m.cls) (hK : va_K (dC, dI) vwCl (tyM cL cZ cI) s) (hP : va_P (dC, dI) vwCl (wM ad cL cZ cI S ro hd) H) {index : Nat} (hlink : (Cond.fieldLink RX1 index RX1 "machine" "J").before args s = true) (hdg : decode cc pc = .ok (.getfield index, 3))
    (kk : W p l e R s m args below meth c H locs cells slots Q (F0 m (pc + 3) ls (.long (m_m S) :: rest))) : W p l e R s m args below meth c H locs cells slots Q (F0 m pc ls (.ref (ad 0) :: rest)) :=
  va_get (D := (dC, dI)) (ci := 1) (v := .long (m_m S)) (C := RX1) (T := TX1) (N := 19) hx hb hts hin hown hK hP 0 rfl rfl 0 (by decide) hlink (fun _ h9 => h9) rfl hdg kk
theorem g_m_dr (hx : p.tables.exec = Jvm.exec) (hb : c.code = cc) (hts : ∀ w ∈ Ts, w.before args s = true) (hin : ∀ w ∈ wsX10, w ∈ Ts) (hown : s.vm.findClass RX1 = some m.cls) (hK : va_K (dC, dI) vwCl (tyM cL cZ cI) s) (hP : va_P (dC, dI) vwCl (wM ad cL cZ cI S ro hd) H) {index : Nat} (hlink : (Cond.fieldLink RX1 index RX1 "drawn" "J").before args s = true) (hdg : decode cc pc = .ok (.getfield index, 3))
    (kk : W p l e R s m args below meth c H locs cells slots Q (F0 m (pc + 3) ls (.long (m_dr S) :: rest))) : W p l e R s m args below meth c H locs cells slots Q (F0 m pc ls (.ref (ad 0) :: rest)) :=
  va_get (D := (dC, dI)) (ci := 1) (v := .long (m_dr S)) (C := RX1) (T := TX1) (N := 19) hx hb hts hin hown hK hP 0 rfl rfl 1 (by decide) hlink (fun _ h9 => h9) rfl hdg kk
theorem p_m_dr (hx : p.tables.exec = Jvm.exec) (hb : c.code = cc) (hts : ∀ w ∈ Ts, w.before args s = true) (hin : ∀ w ∈ wsX10, w ∈ Ts) (hown : s.vm.findClass RX1 = some m.cls) (hK : va_K (dC, dI) vwCl (tyM cL cZ cI) s) (hP : va_P (dC, dI) vwCl (wM ad cL cZ cI S ro hd) H) (hD : va_D A (wM ad cL cZ cI S ro hd)) (hS : va_S A H0 H locs) {index : Nat} {v : Int64} (hlink : (Cond.fieldLink RX1 index RX1 "drawn" "J").before args s = true) (hdg : decode cc pc = .ok (.putfield index, 3))
    (kk : ∀ (H1 : Heap) (locs1 : List Loc), va_P (dC, dI) vwCl (wM ad cL cZ cI (mu_dr S v) ro hd) H1 → va_D A (wM ad cL cZ cI (mu_dr S v) ro hd) → va_S A H0 H1 locs1 → W p l e R s m args below meth c H1 locs1 cells slots Q (F0 m (pc + 3) ls rest)) : W p l e R s m args below meth c H locs cells slots Q (F0 m pc ls (.long v :: .ref (ad 0) :: rest)) :=
  va_put (D := (dC, dI)) (ci := 1) (v := .long v) (ty := .long) (C := RX1) (T := TX1) (N := 19) hx hb hts hin tyX1 tyX1_ok nmX1 hown hK hP hD hS 0 rfl rfl 1 (by decide) hlink (fun _ h9 => h9) rfl (by decide +kernel) rfl rfl (Nat.le_of_ble_eq_true rfl) hdg kk
theorem g_m_lo (hx : p.tables.exec = Jvm.exec) (hb : c.code = cc) (hts : ∀ w ∈ Ts, w.before args s = true) (hin : ∀ w ∈ wsX10, w ∈ Ts) (hown : s.vm.findClass RX1 = some m.cls) (hK : va_K (dC, dI) vwCl (tyM cL cZ cI) s) (hP : va_P (dC, dI) vwCl (wM ad cL cZ cI S ro hd) H) {index : Nat} (hlink : (Cond.fieldLink RX1 index RX1 "locality" "I").before args s = true) (hdg : decode cc pc = .ok (.getfield index, 3))
    (kk : W p l e R s m args below meth c H locs cells slots Q (F0 m (pc + 3) ls (.int (m_lo S) :: rest))) : W p l e R s m args below meth c H locs cells slots Q (F0 m pc ls (.ref (ad 0) :: rest)) :=
  va_get (D := (dC, dI)) (ci := 1) (v := .int (m_lo S)) (C := RX1) (T := TX1) (N := 19) hx hb hts hin hown hK hP 0 rfl rfl 2 (by decide) hlink (fun _ h9 => h9) rfl hdg kk
theorem p_m_lo (hx : p.tables.exec = Jvm.exec) (hb : c.code = cc) (hts : ∀ w ∈ Ts, w.before args s = true) (hin : ∀ w ∈ wsX10, w ∈ Ts) (hown : s.vm.findClass RX1 = some m.cls) (hK : va_K (dC, dI) vwCl (tyM cL cZ cI) s) (hP : va_P (dC, dI) vwCl (wM ad cL cZ cI S ro hd) H) (hD : va_D A (wM ad cL cZ cI S ro hd)) (hS : va_S A H0 H locs) {index : Nat} {v : Int32} (hlink : (Cond.fieldLink RX1 index RX1 "locality" "I").before args s = true) (hdg : decode cc pc = .ok (.putfield index, 3))
    (kk : ∀ (H1 : Heap) (locs1 : List Loc), va_P (dC, dI) vwCl (wM ad cL cZ cI (mu_lo S v) ro hd) H1 → va_D A (wM ad cL cZ cI (mu_lo S v) ro hd) → va_S A H0 H1 locs1 → W p l e R s m args below meth c H1 locs1 cells slots Q (F0 m (pc + 3) ls rest)) : W p l e R s m args below meth c H locs cells slots Q (F0 m pc ls (.int v :: .ref (ad 0) :: rest)) :=
  va_put (D := (dC, dI)) (ci := 1) (v := .int v) (ty := .int) (C := RX1) (T := TX1) (N := 19) hx hb hts hin tyX1 tyX1_ok nmX1 hown hK hP hD hS 0 rfl rfl 2 (by decide) hlink (fun _ h9 => h9) rfl (by decide +kernel) rfl rfl (Nat.le_of_ble_eq_true rfl) hdg kk
theorem g_m_fa (hx : p.tables.exec = Jvm.exec) (hb : c.code = cc) (hts : ∀ w ∈ Ts, w.before args s = true) (hin : ∀ w ∈ wsX10, w ∈ Ts) (hown : s.vm.findClass RX1 = some m.cls) (hK : va_K (dC, dI) vwCl (tyM cL cZ cI) s) (hP : va_P (dC, dI) vwCl (wM ad cL cZ cI S ro hd) H) {index : Nat} (hlink : (Cond.fieldLink RX1 index RX1 "failures" "I").before args s = true) (hdg : decode cc pc = .ok (.getfield index, 3))
    (kk : W p l e R s m args below meth c H locs cells slots Q (F0 m (pc + 3) ls (.int (m_fa S) :: rest))) : W p l e R s m args below meth c H locs cells slots Q (F0 m pc ls (.ref (ad 0) :: rest)) :=
  va_get (D := (dC, dI)) (ci := 1) (v := .int (m_fa S)) (C := RX1) (T := TX1) (N := 19) hx hb hts hin hown hK hP 0 rfl rfl 3 (by decide) hlink (fun _ h9 => h9) rfl hdg kk
theorem p_m_fa (hx : p.tables.exec = Jvm.exec) (hb : c.code = cc) (hts : ∀ w ∈ Ts, w.before args s = true) (hin : ∀ w ∈ wsX10, w ∈ Ts) (hown : s.vm.findClass RX1 = some m.cls) (hK : va_K (dC, dI) vwCl (tyM cL cZ cI) s) (hP : va_P (dC, dI) vwCl (wM ad cL cZ cI S ro hd) H) (hD : va_D A (wM ad cL cZ cI S ro hd)) (hS : va_S A H0 H locs) {index : Nat} {v : Int32} (hlink : (Cond.fieldLink RX1 index RX1 "failures" "I").before args s = true) (hdg : decode cc pc = .ok (.putfield index, 3))
    (kk : ∀ (H1 : Heap) (locs1 : List Loc), va_P (dC, dI) vwCl (wM ad cL cZ cI (mu_fa S v) ro hd) H1 → va_D A (wM ad cL cZ cI (mu_fa S v) ro hd) → va_S A H0 H1 locs1 → W p l e R s m args below meth c H1 locs1 cells slots Q (F0 m (pc + 3) ls rest)) : W p l e R s m args below meth c H locs cells slots Q (F0 m pc ls (.int v :: .ref (ad 0) :: rest)) :=
  va_put (D := (dC, dI)) (ci := 1) (v := .int v) (ty := .int) (C := RX1) (T := TX1) (N := 19) hx hb hts hin tyX1 tyX1_ok nmX1 hown hK hP hD hS 0 rfl rfl 3 (by decide) hlink (fun _ h9 => h9) rfl (by decide +kernel) rfl rfl (Nat.le_of_ble_eq_true rfl) hdg kk
theorem g_m_pr (hx : p.tables.exec = Jvm.exec) (hb : c.code = cc) (hts : ∀ w ∈ Ts, w.before args s = true) (hin : ∀ w ∈ wsX10, w ∈ Ts) (hown : s.vm.findClass RX1 = some m.cls) (hK : va_K (dC, dI) vwCl (tyM cL cZ cI) s) (hP : va_P (dC, dI) vwCl (wM ad cL cZ cI S ro hd) H) {index : Nat} (hlink : (Cond.fieldLink RX1 index RX1 "proof" "J").before args s = true) (hdg : decode cc pc = .ok (.getfield index, 3))
    (kk : W p l e R s m args below meth c H locs cells slots Q (F0 m (pc + 3) ls (.long (m_pr S) :: rest))) : W p l e R s m args below meth c H locs cells slots Q (F0 m pc ls (.ref (ad 0) :: rest)) :=
  va_get (D := (dC, dI)) (ci := 1) (v := .long (m_pr S)) (C := RX1) (T := TX1) (N := 19) hx hb hts hin hown hK hP 0 rfl rfl 4 (by decide) hlink (fun _ h9 => h9) rfl hdg kk
theorem p_m_pr (hx : p.tables.exec = Jvm.exec) (hb : c.code = cc) (hts : ∀ w ∈ Ts, w.before args s = true) (hin : ∀ w ∈ wsX10, w ∈ Ts) (hown : s.vm.findClass RX1 = some m.cls) (hK : va_K (dC, dI) vwCl (tyM cL cZ cI) s) (hP : va_P (dC, dI) vwCl (wM ad cL cZ cI S ro hd) H) (hD : va_D A (wM ad cL cZ cI S ro hd)) (hS : va_S A H0 H locs) {index : Nat} {v : Int64} (hlink : (Cond.fieldLink RX1 index RX1 "proof" "J").before args s = true) (hdg : decode cc pc = .ok (.putfield index, 3))
    (kk : ∀ (H1 : Heap) (locs1 : List Loc), va_P (dC, dI) vwCl (wM ad cL cZ cI (mu_pr S v) ro hd) H1 → va_D A (wM ad cL cZ cI (mu_pr S v) ro hd) → va_S A H0 H1 locs1 → W p l e R s m args below meth c H1 locs1 cells slots Q (F0 m (pc + 3) ls rest)) : W p l e R s m args below meth c H locs cells slots Q (F0 m pc ls (.long v :: .ref (ad 0) :: rest)) :=
  va_put (D := (dC, dI)) (ci := 1) (v := .long v) (ty := .long) (C := RX1) (T := TX1) (N := 19) hx hb hts hin tyX1 tyX1_ok nmX1 hown hK hP hD hS 0 rfl rfl 4 (by decide) hlink (fun _ h9 => h9) rfl (by decide +kernel) rfl rfl (Nat.le_of_ble_eq_true rfl) hdg kk
theorem g_m_ou (hx : p.tables.exec = Jvm.exec) (hb : c.code = cc) (hts : ∀ w ∈ Ts, w.before args s = true) (hin : ∀ w ∈ wsX10, w ∈ Ts) (hown : s.vm.findClass RX1 = some m.cls) (hK : va_K (dC, dI) vwCl (tyM cL cZ cI) s) (hP : va_P (dC, dI) vwCl (wM ad cL cZ cI S ro hd) H) {index : Nat} (hlink : (Cond.fieldLink RX1 index RX1 "output" "J").before args s = true) (hdg : decode cc pc = .ok (.getfield index, 3))
    (kk : W p l e R s m args below meth c H locs cells slots Q (F0 m (pc + 3) ls (.long (m_ou S) :: rest))) : W p l e R s m args below meth c H locs cells slots Q (F0 m pc ls (.ref (ad 0) :: rest)) :=
  va_get (D := (dC, dI)) (ci := 1) (v := .long (m_ou S)) (C := RX1) (T := TX1) (N := 19) hx hb hts hin hown hK hP 0 rfl rfl 5 (by decide) hlink (fun _ h9 => h9) rfl hdg kk
theorem p_m_ou (hx : p.tables.exec = Jvm.exec) (hb : c.code = cc) (hts : ∀ w ∈ Ts, w.before args s = true) (hin : ∀ w ∈ wsX10, w ∈ Ts) (hown : s.vm.findClass RX1 = some m.cls) (hK : va_K (dC, dI) vwCl (tyM cL cZ cI) s) (hP : va_P (dC, dI) vwCl (wM ad cL cZ cI S ro hd) H) (hD : va_D A (wM ad cL cZ cI S ro hd)) (hS : va_S A H0 H locs) {index : Nat} {v : Int64} (hlink : (Cond.fieldLink RX1 index RX1 "output" "J").before args s = true) (hdg : decode cc pc = .ok (.putfield index, 3))
    (kk : ∀ (H1 : Heap) (locs1 : List Loc), va_P (dC, dI) vwCl (wM ad cL cZ cI (mu_ou S v) ro hd) H1 → va_D A (wM ad cL cZ cI (mu_ou S v) ro hd) → va_S A H0 H1 locs1 → W p l e R s m args below meth c H1 locs1 cells slots Q (F0 m (pc + 3) ls rest)) : W p l e R s m args below meth c H locs cells slots Q (F0 m pc ls (.long v :: .ref (ad 0) :: rest)) :=
  va_put (D := (dC, dI)) (ci := 1) (v := .long v) (ty := .long) (C := RX1) (T := TX1) (N := 19) hx hb hts hin tyX1 tyX1_ok nmX1 hown hK hP hD hS 0 rfl rfl 5 (by decide) hlink (fun _ h9 => h9) rfl (by decide +kernel) rfl rfl (Nat.le_of_ble_eq_true rfl) hdg kk
theorem g_m_dn (hx : p.tables.exec = Jvm.exec) (hb : c.code = cc) (hts : ∀ w ∈ Ts, w.before args s = true) (hin : ∀ w ∈ wsX10, w ∈ Ts) (hown : s.vm.findClass RX1 = some m.cls) (hK : va_K (dC, dI) vwCl (tyM cL cZ cI) s) (hP : va_P (dC, dI) vwCl (wM ad cL cZ cI S ro hd) H) {index : Nat} (hlink : (Cond.fieldLink RX1 index RX1 "done" "I").before args s = true) (hdg : decode cc pc = .ok (.getfield index, 3))
    (kk : W p l e R s m args below meth c H locs cells slots Q (F0 m (pc + 3) ls (.int (m_dn S) :: rest))) : W p l e R s m args below meth c H locs cells slots Q (F0 m pc ls (.ref (ad 0) :: rest)) :=
  va_get (D := (dC, dI)) (ci := 1) (v := .int (m_dn S)) (C := RX1) (T := TX1) (N := 19) hx hb hts hin hown hK hP 0 rfl rfl 6 (by decide) hlink (fun _ h9 => h9) rfl hdg kk
theorem p_m_dn (hx : p.tables.exec = Jvm.exec) (hb : c.code = cc) (hts : ∀ w ∈ Ts, w.before args s = true) (hin : ∀ w ∈ wsX10, w ∈ Ts) (hown : s.vm.findClass RX1 = some m.cls) (hK : va_K (dC, dI) vwCl (tyM cL cZ cI) s) (hP : va_P (dC, dI) vwCl (wM ad cL cZ cI S ro hd) H) (hD : va_D A (wM ad cL cZ cI S ro hd)) (hS : va_S A H0 H locs) {index : Nat} {v : Int32} (hlink : (Cond.fieldLink RX1 index RX1 "done" "I").before args s = true) (hdg : decode cc pc = .ok (.putfield index, 3))
    (kk : ∀ (H1 : Heap) (locs1 : List Loc), va_P (dC, dI) vwCl (wM ad cL cZ cI (mu_dn S v) ro hd) H1 → va_D A (wM ad cL cZ cI (mu_dn S v) ro hd) → va_S A H0 H1 locs1 → W p l e R s m args below meth c H1 locs1 cells slots Q (F0 m (pc + 3) ls rest)) : W p l e R s m args below meth c H locs cells slots Q (F0 m pc ls (.int v :: .ref (ad 0) :: rest)) :=
  va_put (D := (dC, dI)) (ci := 1) (v := .int v) (ty := .int) (C := RX1) (T := TX1) (N := 19) hx hb hts hin tyX1 tyX1_ok nmX1 hown hK hP hD hS 0 rfl rfl 6 (by decide) hlink (fun _ h9 => h9) rfl (by decide +kernel) rfl rfl (Nat.le_of_ble_eq_true rfl) hdg kk
theorem g_m_bc (hx : p.tables.exec = Jvm.exec) (hb : c.code = cc) (hts : ∀ w ∈ Ts, w.before args s = true) (hin : ∀ w ∈ wsX10, w ∈ Ts) (hown : s.vm.findClass RX1 = some m.cls) (hK : va_K (dC, dI) vwCl (tyM cL cZ cI) s) (hP : va_P (dC, dI) vwCl (wM ad cL cZ cI S ro hd) H) {index : Nat} (hlink : (Cond.fieldLink RX1 index RX1 "blobs" "I").before args s = true) (hdg : decode cc pc = .ok (.getfield index, 3))
    (kk : W p l e R s m args below meth c H locs cells slots Q (F0 m (pc + 3) ls (.int (m_bc S) :: rest))) : W p l e R s m args below meth c H locs cells slots Q (F0 m pc ls (.ref (ad 0) :: rest)) :=
  va_get (D := (dC, dI)) (ci := 1) (v := .int (m_bc S)) (C := RX1) (T := TX1) (N := 19) hx hb hts hin hown hK hP 0 rfl rfl 15 (by decide) hlink (fun _ h9 => h9) rfl hdg kk
theorem p_m_bc (hx : p.tables.exec = Jvm.exec) (hb : c.code = cc) (hts : ∀ w ∈ Ts, w.before args s = true) (hin : ∀ w ∈ wsX10, w ∈ Ts) (hown : s.vm.findClass RX1 = some m.cls) (hK : va_K (dC, dI) vwCl (tyM cL cZ cI) s) (hP : va_P (dC, dI) vwCl (wM ad cL cZ cI S ro hd) H) (hD : va_D A (wM ad cL cZ cI S ro hd)) (hS : va_S A H0 H locs) {index : Nat} {v : Int32} (hlink : (Cond.fieldLink RX1 index RX1 "blobs" "I").before args s = true) (hdg : decode cc pc = .ok (.putfield index, 3))
    (kk : ∀ (H1 : Heap) (locs1 : List Loc), va_P (dC, dI) vwCl (wM ad cL cZ cI (mu_bc S v) ro hd) H1 → va_D A (wM ad cL cZ cI (mu_bc S v) ro hd) → va_S A H0 H1 locs1 → W p l e R s m args below meth c H1 locs1 cells slots Q (F0 m (pc + 3) ls rest)) : W p l e R s m args below meth c H locs cells slots Q (F0 m pc ls (.int v :: .ref (ad 0) :: rest)) :=
  va_put (D := (dC, dI)) (ci := 1) (v := .int v) (ty := .int) (C := RX1) (T := TX1) (N := 19) hx hb hts hin tyX1 tyX1_ok nmX1 hown hK hP hD hS 0 rfl rfl 15 (by decide) hlink (fun _ h9 => h9) rfl (by decide +kernel) rfl rfl (Nat.le_of_ble_eq_true rfl) hdg kk
theorem g_m_awh (hx : p.tables.exec = Jvm.exec) (hb : c.code = cc) (hts : ∀ w ∈ Ts, w.before args s = true) (hin : ∀ w ∈ wsX10, w ∈ Ts) (hown : s.vm.findClass RX1 = some m.cls) (hK : va_K (dC, dI) vwCl (tyM cL cZ cI) s) (hP : va_P (dC, dI) vwCl (wM ad cL cZ cI S ro hd) H) {index : Nat} (hlink : (Cond.fieldLink RX1 index RX1 "what" "[I").before args s = true) (hdg : decode cc pc = .ok (.getfield index, 3))
    (kk : W p l e R s m args below meth c H locs cells slots Q (F0 m (pc + 3) ls (.ref (ad 1) :: rest))) : W p l e R s m args below meth c H locs cells slots Q (F0 m pc ls (.ref (ad 0) :: rest)) :=
  va_get (D := (dC, dI)) (ci := 1) (v := .ref (ad 1)) (C := RX1) (T := TX1) (N := 19) hx hb hts hin hown hK hP 0 rfl rfl 7 (by decide) hlink (fun _ h9 => h9) rfl hdg kk
theorem g_m_awi (hx : p.tables.exec = Jvm.exec) (hb : c.code = cc) (hts : ∀ w ∈ Ts, w.before args s = true) (hin : ∀ w ∈ wsX10, w ∈ Ts) (hown : s.vm.findClass RX1 = some m.cls) (hK : va_K (dC, dI) vwCl (tyM cL cZ cI) s) (hP : va_P (dC, dI) vwCl (wM ad cL cZ cI S ro hd) H) {index : Nat} (hlink : (Cond.fieldLink RX1 index RX1 "with" "[J").before args s = true) (hdg : decode cc pc = .ok (.getfield index, 3))
    (kk : W p l e R s m args below meth c H locs cells slots Q (F0 m (pc + 3) ls (.ref (ad 2) :: rest))) : W p l e R s m args below meth c H locs cells slots Q (F0 m pc ls (.ref (ad 0) :: rest)) :=
  va_get (D := (dC, dI)) (ci := 1) (v := .ref (ad 2)) (C := RX1) (T := TX1) (N := 19) hx hb hts hin hown hK hP 0 rfl rfl 8 (by decide) hlink (fun _ h9 => h9) rfl hdg kk
theorem g_m_akt (hx : p.tables.exec = Jvm.exec) (hb : c.code = cc) (hts : ∀ w ∈ Ts, w.before args s = true) (hin : ∀ w ∈ wsX10, w ∈ Ts) (hown : s.vm.findClass RX1 = some m.cls) (hK : va_K (dC, dI) vwCl (tyM cL cZ cI) s) (hP : va_P (dC, dI) vwCl (wM ad cL cZ cI S ro hd) H) {index : Nat} (hlink : (Cond.fieldLink RX1 index RX1 "keyThere" "[Z").before args s = true) (hdg : decode cc pc = .ok (.getfield index, 3))
    (kk : W p l e R s m args below meth c H locs cells slots Q (F0 m (pc + 3) ls (.ref (ad 3) :: rest))) : W p l e R s m args below meth c H locs cells slots Q (F0 m pc ls (.ref (ad 0) :: rest)) :=
  va_get (D := (dC, dI)) (ci := 1) (v := .ref (ad 3)) (C := RX1) (T := TX1) (N := 19) hx hb hts hin hown hK hP 0 rfl rfl 9 (by decide) hlink (fun _ h9 => h9) rfl hdg kk
theorem g_m_aks (hx : p.tables.exec = Jvm.exec) (hb : c.code = cc) (hts : ∀ w ∈ Ts, w.before args s = true) (hin : ∀ w ∈ wsX10, w ∈ Ts) (hown : s.vm.findClass RX1 = some m.cls) (hK : va_K (dC, dI) vwCl (tyM cL cZ cI) s) (hP : va_P (dC, dI) vwCl (wM ad cL cZ cI S ro hd) H) {index : Nat} (hlink : (Cond.fieldLink RX1 index RX1 "keySecret" "[J").before args s = true) (hdg : decode cc pc = .ok (.getfield index, 3))
    (kk : W p l e R s m args below meth c H locs cells slots Q (F0 m (pc + 3) ls (.ref (ad 4) :: rest))) : W p l e R s m args below meth c H locs cells slots Q (F0 m pc ls (.ref (ad 0) :: rest)) :=
  va_get (D := (dC, dI)) (ci := 1) (v := .ref (ad 4)) (C := RX1) (T := TX1) (N := 19) hx hb hts hin hown hK hP 0 rfl rfl 10 (by decide) hlink (fun _ h9 => h9) rfl hdg kk
theorem g_m_akd (hx : p.tables.exec = Jvm.exec) (hb : c.code = cc) (hts : ∀ w ∈ Ts, w.before args s = true) (hin : ∀ w ∈ wsX10, w ∈ Ts) (hown : s.vm.findClass RX1 = some m.cls) (hK : va_K (dC, dI) vwCl (tyM cL cZ cI) s) (hP : va_P (dC, dI) vwCl (wM ad cL cZ cI S ro hd) H) {index : Nat} (hlink : (Cond.fieldLink RX1 index RX1 "keyDrawn" "[J").before args s = true) (hdg : decode cc pc = .ok (.getfield index, 3))
    (kk : W p l e R s m args below meth c H locs cells slots Q (F0 m (pc + 3) ls (.ref (ad 5) :: rest))) : W p l e R s m args below meth c H locs cells slots Q (F0 m pc ls (.ref (ad 0) :: rest)) :=
  va_get (D := (dC, dI)) (ci := 1) (v := .ref (ad 5)) (C := RX1) (T := TX1) (N := 19) hx hb hts hin hown hK hP 0 rfl rfl 11 (by decide) hlink (fun _ h9 => h9) rfl hdg kk
theorem g_m_ast (hx : p.tables.exec = Jvm.exec) (hb : c.code = cc) (hts : ∀ w ∈ Ts, w.before args s = true) (hin : ∀ w ∈ wsX10, w ∈ Ts) (hown : s.vm.findClass RX1 = some m.cls) (hK : va_K (dC, dI) vwCl (tyM cL cZ cI) s) (hP : va_P (dC, dI) vwCl (wM ad cL cZ cI S ro hd) H) {index : Nat} (hlink : (Cond.fieldLink RX1 index RX1 "sessionThere" "[Z").before args s = true) (hdg : decode cc pc = .ok (.getfield index, 3))
    (kk : W p l e R s m args below meth c H locs cells slots Q (F0 m (pc + 3) ls (.ref (ad 6) :: rest))) : W p l e R s m args below meth c H locs cells slots Q (F0 m pc ls (.ref (ad 0) :: rest)) :=
  va_get (D := (dC, dI)) (ci := 1) (v := .ref (ad 6)) (C := RX1) (T := TX1) (N := 19) hx hb hts hin hown hK hP 0 rfl rfl 12 (by decide) hlink (fun _ h9 => h9) rfl hdg kk
theorem g_m_acn (hx : p.tables.exec = Jvm.exec) (hb : c.code = cc) (hts : ∀ w ∈ Ts, w.before args s = true) (hin : ∀ w ∈ wsX10, w ∈ Ts) (hown : s.vm.findClass RX1 = some m.cls) (hK : va_K (dC, dI) vwCl (tyM cL cZ cI) s) (hP : va_P (dC, dI) vwCl (wM ad cL cZ cI S ro hd) H) {index : Nat} (hlink : (Cond.fieldLink RX1 index RX1 "caller" "[J").before args s = true) (hdg : decode cc pc = .ok (.getfield index, 3))
    (kk : W p l e R s m args below meth c H locs cells slots Q (F0 m (pc + 3) ls (.ref (ad 7) :: rest))) : W p l e R s m args below meth c H locs cells slots Q (F0 m pc ls (.ref (ad 0) :: rest)) :=
  va_get (D := (dC, dI)) (ci := 1) (v := .ref (ad 7)) (C := RX1) (T := TX1) (N := 19) hx hb hts hin hown hK hP 0 rfl rfl 13 (by decide) hlink (fun _ h9 => h9) rfl hdg kk
theorem g_m_asd (hx : p.tables.exec = Jvm.exec) (hb : c.code = cc) (hts : ∀ w ∈ Ts, w.before args s = true) (hin : ∀ w ∈ wsX10, w ∈ Ts) (hown : s.vm.findClass RX1 = some m.cls) (hK : va_K (dC, dI) vwCl (tyM cL cZ cI) s) (hP : va_P (dC, dI) vwCl (wM ad cL cZ cI S ro hd) H) {index : Nat} (hlink : (Cond.fieldLink RX1 index RX1 "sessionDrawn" "[J").before args s = true) (hdg : decode cc pc = .ok (.getfield index, 3))
    (kk : W p l e R s m args below meth c H locs cells slots Q (F0 m (pc + 3) ls (.ref (ad 8) :: rest))) : W p l e R s m args below meth c H locs cells slots Q (F0 m pc ls (.ref (ad 0) :: rest)) :=
  va_get (D := (dC, dI)) (ci := 1) (v := .ref (ad 8)) (C := RX1) (T := TX1) (N := 19) hx hb hts hin hown hK hP 0 rfl rfl 14 (by decide) hlink (fun _ h9 => h9) rfl hdg kk
theorem g_m_abw (hx : p.tables.exec = Jvm.exec) (hb : c.code = cc) (hts : ∀ w ∈ Ts, w.before args s = true) (hin : ∀ w ∈ wsX10, w ∈ Ts) (hown : s.vm.findClass RX1 = some m.cls) (hK : va_K (dC, dI) vwCl (tyM cL cZ cI) s) (hP : va_P (dC, dI) vwCl (wM ad cL cZ cI S ro hd) H) {index : Nat} (hlink : (Cond.fieldLink RX1 index RX1 "blobWord" "[J").before args s = true) (hdg : decode cc pc = .ok (.getfield index, 3))
    (kk : W p l e R s m args below meth c H locs cells slots Q (F0 m (pc + 3) ls (.ref (ad 9) :: rest))) : W p l e R s m args below meth c H locs cells slots Q (F0 m pc ls (.ref (ad 0) :: rest)) :=
  va_get (D := (dC, dI)) (ci := 1) (v := .ref (ad 9)) (C := RX1) (T := TX1) (N := 19) hx hb hts hin hown hK hP 0 rfl rfl 16 (by decide) hlink (fun _ h9 => h9) rfl hdg kk
theorem g_m_arw (hx : p.tables.exec = Jvm.exec) (hb : c.code = cc) (hts : ∀ w ∈ Ts, w.before args s = true) (hin : ∀ w ∈ wsX10, w ∈ Ts) (hown : s.vm.findClass RX1 = some m.cls) (hK : va_K (dC, dI) vwCl (tyM cL cZ cI) s) (hP : va_P (dC, dI) vwCl (wM ad cL cZ cI S ro hd) H) {index : Nat} (hlink : (Cond.fieldLink RX1 index RX1 "row" "[J").before args s = true) (hdg : decode cc pc = .ok (.getfield index, 3))
    (kk : W p l e R s m args below meth c H locs cells slots Q (F0 m (pc + 3) ls (.ref (ad 10) :: rest))) : W p l e R s m args below meth c H locs cells slots Q (F0 m pc ls (.ref (ad 0) :: rest)) :=
  va_get (D := (dC, dI)) (ci := 1) (v := .ref (ad 10)) (C := RX1) (T := TX1) (N := 19) hx hb hts hin hown hK hP 0 rfl rfl 17 (by decide) hlink (fun _ h9 => h9) rfl hdg kk
theorem g_m_ahd (hx : p.tables.exec = Jvm.exec) (hb : c.code = cc) (hts : ∀ w ∈ Ts, w.before args s = true) (hin : ∀ w ∈ wsX10, w ∈ Ts) (hown : s.vm.findClass RX1 = some m.cls) (hK : va_K (dC, dI) vwCl (tyM cL cZ cI) s) (hP : va_P (dC, dI) vwCl (wM ad cL cZ cI S ro hd) H) {index : Nat} (hlink : (Cond.fieldLink RX1 index RX1 "held" "[J").before args s = true) (hdg : decode cc pc = .ok (.getfield index, 3))
    (kk : W p l e R s m args below meth c H locs cells slots Q (F0 m (pc + 3) ls (.ref (ad 11) :: rest))) : W p l e R s m args below meth c H locs cells slots Q (F0 m pc ls (.ref (ad 0) :: rest)) :=
  va_get (D := (dC, dI)) (ci := 1) (v := .ref (ad 11)) (C := RX1) (T := TX1) (N := 19) hx hb hts hin hown hK hP 0 rfl rfl 18 (by decide) hlink (fun _ h9 => h9) rfl hdg kk
theorem l_m_wh (hx : p.tables.exec = Jvm.exec) (hb : c.code = cc) (hK : va_K (dC, dI) vwCl (tyM cL cZ cI) s) (hP : va_P (dC, dI) vwCl (wM ad cL cZ cI S ro hd) H) {i : Int32} {k : Nat} (hat : xat i k 512) (hdg : decode cc pc = .ok (.iaload, 1))
    (kk : W p l e R s m args below meth c H locs cells slots Q (F0 m (pc + 1) ls (.int (m_wh S k) :: rest))) : W p l e R s m args below meth c H locs cells slots Q (F0 m pc ls (.int i :: .ref (ad 1) :: rest)) :=
  xv_iald hx hb hK hP 1 2 rfl rfl hat hdg kk
theorem s_m_wh (hx : p.tables.exec = Jvm.exec) (hb : c.code = cc) (hK : va_K (dC, dI) vwCl (tyM cL cZ cI) s) (hP : va_P (dC, dI) vwCl (wM ad cL cZ cI S ro hd) H) (hD : va_D A (wM ad cL cZ cI S ro hd)) (hS : va_S A H0 H locs) {i : Int32} {k : Nat} {v : Int32} (hat : xat i k 512) (hdg : decode cc pc = .ok (.iastore, 1))
    (kk : ∀ (H1 : Heap) (locs1 : List Loc), va_P (dC, dI) vwCl (wM ad cL cZ cI (mu_wh S (upd (m_wh S) k v)) ro hd) H1 → va_D A (wM ad cL cZ cI (mu_wh S (upd (m_wh S) k v)) ro hd) → va_S A H0 H1 locs1 → W p l e R s m args below meth c H1 locs1 cells slots Q (F0 m (pc + 1) ls rest)) : W p l e R s m args below meth c H locs cells slots Q (F0 m pc ls (.int v :: .int i :: .ref (ad 1) :: rest)) :=
  xv_iast hx hb hK hP hD hS 1 2 rfl rfl hat rfl hdg kk
theorem l_m_wi (hx : p.tables.exec = Jvm.exec) (hb : c.code = cc) (hK : va_K (dC, dI) vwCl (tyM cL cZ cI) s) (hP : va_P (dC, dI) vwCl (wM ad cL cZ cI S ro hd) H) {i : Int32} {k : Nat} (hat : xat i k 512) (hdg : decode cc pc = .ok (.laload, 1))
    (kk : W p l e R s m args below meth c H locs cells slots Q (F0 m (pc + 1) ls (.long (m_wi S k) :: rest))) : W p l e R s m args below meth c H locs cells slots Q (F0 m pc ls (.int i :: .ref (ad 2) :: rest)) :=
  xv_lald hx hb hK hP 2 0 rfl rfl hat hdg kk
theorem s_m_wi (hx : p.tables.exec = Jvm.exec) (hb : c.code = cc) (hK : va_K (dC, dI) vwCl (tyM cL cZ cI) s) (hP : va_P (dC, dI) vwCl (wM ad cL cZ cI S ro hd) H) (hD : va_D A (wM ad cL cZ cI S ro hd)) (hS : va_S A H0 H locs) {i : Int32} {k : Nat} {v : Int64} (hat : xat i k 512) (hdg : decode cc pc = .ok (.lastore, 1))
    (kk : ∀ (H1 : Heap) (locs1 : List Loc), va_P (dC, dI) vwCl (wM ad cL cZ cI (mu_wi S (vp_updL (m_wi S) k v)) ro hd) H1 → va_D A (wM ad cL cZ cI (mu_wi S (vp_updL (m_wi S) k v)) ro hd) → va_S A H0 H1 locs1 → W p l e R s m args below meth c H1 locs1 cells slots Q (F0 m (pc + 1) ls rest)) : W p l e R s m args below meth c H locs cells slots Q (F0 m pc ls (.long v :: .int i :: .ref (ad 2) :: rest)) :=
  xv_last hx hb hK hP hD hS 2 0 rfl rfl hat rfl hdg kk
theorem l_m_kt (hx : p.tables.exec = Jvm.exec) (hb : c.code = cc) (hK : va_K (dC, dI) vwCl (tyM cL cZ cI) s) (hP : va_P (dC, dI) vwCl (wM ad cL cZ cI S ro hd) H) {i : Int32} {k : Nat} (hat : xat i k 6) (hdg : decode cc pc = .ok (.baload, 1))
    (kk : W p l e R s m args below meth c H locs cells slots Q (F0 m (pc + 1) ls (.int (m_kt S k) :: rest))) : W p l e R s m args below meth c H locs cells slots Q (F0 m pc ls (.int i :: .ref (ad 3) :: rest)) :=
  xv_zald hx hb hK hP 3 1 rfl rfl hat hdg kk
theorem s_m_kt (hx : p.tables.exec = Jvm.exec) (hb : c.code = cc) (hK : va_K (dC, dI) vwCl (tyM cL cZ cI) s) (hP : va_P (dC, dI) vwCl (wM ad cL cZ cI S ro hd) H) (hD : va_D A (wM ad cL cZ cI S ro hd)) (hS : va_S A H0 H locs) {i : Int32} {k : Nat} {v : Int32} (hv : vp_nar .boolean v = v) (hat : xat i k 6) (hdg : decode cc pc = .ok (.bastore, 1))
    (kk : ∀ (H1 : Heap) (locs1 : List Loc), va_P (dC, dI) vwCl (wM ad cL cZ cI (mu_kt S (upd (m_kt S) k v)) ro hd) H1 → va_D A (wM ad cL cZ cI (mu_kt S (upd (m_kt S) k v)) ro hd) → va_S A H0 H1 locs1 → W p l e R s m args below meth c H1 locs1 cells slots Q (F0 m (pc + 1) ls rest)) : W p l e R s m args below meth c H locs cells slots Q (F0 m pc ls (.int v :: .int i :: .ref (ad 3) :: rest)) :=
  xv_zast hx hb hK hP hD hS 3 1 rfl rfl hv hat rfl hdg kk
theorem l_m_ks (hx : p.tables.exec = Jvm.exec) (hb : c.code = cc) (hK : va_K (dC, dI) vwCl (tyM cL cZ cI) s) (hP : va_P (dC, dI) vwCl (wM ad cL cZ cI S ro hd) H) {i : Int32} {k : Nat} (hat : xat i k 6) (hdg : decode cc pc = .ok (.laload, 1))
    (kk : W p l e R s m args below meth c H locs cells slots Q (F0 m (pc + 1) ls (.long (m_ks S k) :: rest))) : W p l e R s m args below meth c H locs cells slots Q (F0 m pc ls (.int i :: .ref (ad 4) :: rest)) :=
  xv_lald hx hb hK hP 4 0 rfl rfl hat hdg kk
theorem s_m_ks (hx : p.tables.exec = Jvm.exec) (hb : c.code = cc) (hK : va_K (dC, dI) vwCl (tyM cL cZ cI) s) (hP : va_P (dC, dI) vwCl (wM ad cL cZ cI S ro hd) H) (hD : va_D A (wM ad cL cZ cI S ro hd)) (hS : va_S A H0 H locs) {i : Int32} {k : Nat} {v : Int64} (hat : xat i k 6) (hdg : decode cc pc = .ok (.lastore, 1))
    (kk : ∀ (H1 : Heap) (locs1 : List Loc), va_P (dC, dI) vwCl (wM ad cL cZ cI (mu_ks S (vp_updL (m_ks S) k v)) ro hd) H1 → va_D A (wM ad cL cZ cI (mu_ks S (vp_updL (m_ks S) k v)) ro hd) → va_S A H0 H1 locs1 → W p l e R s m args below meth c H1 locs1 cells slots Q (F0 m (pc + 1) ls rest)) : W p l e R s m args below meth c H locs cells slots Q (F0 m pc ls (.long v :: .int i :: .ref (ad 4) :: rest)) :=
  xv_last hx hb hK hP hD hS 4 0 rfl rfl hat rfl hdg kk
theorem l_m_kd (hx : p.tables.exec = Jvm.exec) (hb : c.code = cc) (hK : va_K (dC, dI) vwCl (tyM cL cZ cI) s) (hP : va_P (dC, dI) vwCl (wM ad cL cZ cI S ro hd) H) {i : Int32} {k : Nat} (hat : xat i k 6) (hdg : decode cc pc = .ok (.laload, 1))
    (kk : W p l e R s m args below meth c H locs cells slots Q (F0 m (pc + 1) ls (.long (m_kd S k) :: rest))) : W p l e R s m args below meth c H locs cells slots Q (F0 m pc ls (.int i :: .ref (ad 5) :: rest)) :=
  xv_lald hx hb hK hP 5 0 rfl rfl hat hdg kk
theorem s_m_kd (hx : p.tables.exec = Jvm.exec) (hb : c.code = cc) (hK : va_K (dC, dI) vwCl (tyM cL cZ cI) s) (hP : va_P (dC, dI) vwCl (wM ad cL cZ cI S ro hd) H) (hD : va_D A (wM ad cL cZ cI S ro hd)) (hS : va_S A H0 H locs) {i : Int32} {k : Nat} {v : Int64} (hat : xat i k 6) (hdg : decode cc pc = .ok (.lastore, 1))
    (kk : ∀ (H1 : Heap) (locs1 : List Loc), va_P (dC, dI) vwCl (wM ad cL cZ cI (mu_kd S (vp_updL (m_kd S) k v)) ro hd) H1 → va_D A (wM ad cL cZ cI (mu_kd S (vp_updL (m_kd S) k v)) ro hd) → va_S A H0 H1 locs1 → W p l e R s m args below meth c H1 locs1 cells slots Q (F0 m (pc + 1) ls rest)) : W p l e R s m args below meth c H locs cells slots Q (F0 m pc ls (.long v :: .int i :: .ref (ad 5) :: rest)) :=
  xv_last hx hb hK hP hD hS 5 0 rfl rfl hat rfl hdg kk
theorem l_m_st (hx : p.tables.exec = Jvm.exec) (hb : c.code = cc) (hK : va_K (dC, dI) vwCl (tyM cL cZ cI) s) (hP : va_P (dC, dI) vwCl (wM ad cL cZ cI S ro hd) H) {i : Int32} {k : Nat} (hat : xat i k 4) (hdg : decode cc pc = .ok (.baload, 1))
    (kk : W p l e R s m args below meth c H locs cells slots Q (F0 m (pc + 1) ls (.int (m_st S k) :: rest))) : W p l e R s m args below meth c H locs cells slots Q (F0 m pc ls (.int i :: .ref (ad 6) :: rest)) :=
  xv_zald hx hb hK hP 6 1 rfl rfl hat hdg kk
theorem s_m_st (hx : p.tables.exec = Jvm.exec) (hb : c.code = cc) (hK : va_K (dC, dI) vwCl (tyM cL cZ cI) s) (hP : va_P (dC, dI) vwCl (wM ad cL cZ cI S ro hd) H) (hD : va_D A (wM ad cL cZ cI S ro hd)) (hS : va_S A H0 H locs) {i : Int32} {k : Nat} {v : Int32} (hv : vp_nar .boolean v = v) (hat : xat i k 4) (hdg : decode cc pc = .ok (.bastore, 1))
    (kk : ∀ (H1 : Heap) (locs1 : List Loc), va_P (dC, dI) vwCl (wM ad cL cZ cI (mu_st S (upd (m_st S) k v)) ro hd) H1 → va_D A (wM ad cL cZ cI (mu_st S (upd (m_st S) k v)) ro hd) → va_S A H0 H1 locs1 → W p l e R s m args below meth c H1 locs1 cells slots Q (F0 m (pc + 1) ls rest)) : W p l e R s m args below meth c H locs cells slots Q (F0 m pc ls (.int v :: .int i :: .ref (ad 6) :: rest)) :=
  xv_zast hx hb hK hP hD hS 6 1 rfl rfl hv hat rfl hdg kk
theorem l_m_cn (hx : p.tables.exec = Jvm.exec) (hb : c.code = cc) (hK : va_K (dC, dI) vwCl (tyM cL cZ cI) s) (hP : va_P (dC, dI) vwCl (wM ad cL cZ cI S ro hd) H) {i : Int32} {k : Nat} (hat : xat i k 4) (hdg : decode cc pc = .ok (.laload, 1))
    (kk : W p l e R s m args below meth c H locs cells slots Q (F0 m (pc + 1) ls (.long (m_cn S k) :: rest))) : W p l e R s m args below meth c H locs cells slots Q (F0 m pc ls (.int i :: .ref (ad 7) :: rest)) :=
  xv_lald hx hb hK hP 7 0 rfl rfl hat hdg kk
theorem s_m_cn (hx : p.tables.exec = Jvm.exec) (hb : c.code = cc) (hK : va_K (dC, dI) vwCl (tyM cL cZ cI) s) (hP : va_P (dC, dI) vwCl (wM ad cL cZ cI S ro hd) H) (hD : va_D A (wM ad cL cZ cI S ro hd)) (hS : va_S A H0 H locs) {i : Int32} {k : Nat} {v : Int64} (hat : xat i k 4) (hdg : decode cc pc = .ok (.lastore, 1))
    (kk : ∀ (H1 : Heap) (locs1 : List Loc), va_P (dC, dI) vwCl (wM ad cL cZ cI (mu_cn S (vp_updL (m_cn S) k v)) ro hd) H1 → va_D A (wM ad cL cZ cI (mu_cn S (vp_updL (m_cn S) k v)) ro hd) → va_S A H0 H1 locs1 → W p l e R s m args below meth c H1 locs1 cells slots Q (F0 m (pc + 1) ls rest)) : W p l e R s m args below meth c H locs cells slots Q (F0 m pc ls (.long v :: .int i :: .ref (ad 7) :: rest)) :=
  xv_last hx hb hK hP hD hS 7 0 rfl rfl hat rfl hdg kk
theorem l_m_sd (hx : p.tables.exec = Jvm.exec) (hb : c.code = cc) (hK : va_K (dC, dI) vwCl (tyM cL cZ cI) s) (hP : va_P (dC, dI) vwCl (wM ad cL cZ cI S ro hd) H) {i : Int32} {k : Nat} (hat : xat i k 4) (hdg : decode cc pc = .ok (.laload, 1))
    (kk : W p l e R s m args below meth c H locs cells slots Q (F0 m (pc + 1) ls (.long (m_sd S k) :: rest))) : W p l e R s m args below meth c H locs cells slots Q (F0 m pc ls (.int i :: .ref (ad 8) :: rest)) :=
  xv_lald hx hb hK hP 8 0 rfl rfl hat hdg kk
theorem s_m_sd (hx : p.tables.exec = Jvm.exec) (hb : c.code = cc) (hK : va_K (dC, dI) vwCl (tyM cL cZ cI) s) (hP : va_P (dC, dI) vwCl (wM ad cL cZ cI S ro hd) H) (hD : va_D A (wM ad cL cZ cI S ro hd)) (hS : va_S A H0 H locs) {i : Int32} {k : Nat} {v : Int64} (hat : xat i k 4) (hdg : decode cc pc = .ok (.lastore, 1))
    (kk : ∀ (H1 : Heap) (locs1 : List Loc), va_P (dC, dI) vwCl (wM ad cL cZ cI (mu_sd S (vp_updL (m_sd S) k v)) ro hd) H1 → va_D A (wM ad cL cZ cI (mu_sd S (vp_updL (m_sd S) k v)) ro hd) → va_S A H0 H1 locs1 → W p l e R s m args below meth c H1 locs1 cells slots Q (F0 m (pc + 1) ls rest)) : W p l e R s m args below meth c H locs cells slots Q (F0 m pc ls (.long v :: .int i :: .ref (ad 8) :: rest)) :=
  xv_last hx hb hK hP hD hS 8 0 rfl rfl hat rfl hdg kk
theorem l_m_bw (hx : p.tables.exec = Jvm.exec) (hb : c.code = cc) (hK : va_K (dC, dI) vwCl (tyM cL cZ cI) s) (hP : va_P (dC, dI) vwCl (wM ad cL cZ cI S ro hd) H) {i : Int32} {k : Nat} (hat : xat i k 60) (hdg : decode cc pc = .ok (.laload, 1))
    (kk : W p l e R s m args below meth c H locs cells slots Q (F0 m (pc + 1) ls (.long (m_bw S k) :: rest))) : W p l e R s m args below meth c H locs cells slots Q (F0 m pc ls (.int i :: .ref (ad 9) :: rest)) :=
  xv_lald hx hb hK hP 9 0 rfl rfl hat hdg kk
theorem s_m_bw (hx : p.tables.exec = Jvm.exec) (hb : c.code = cc) (hK : va_K (dC, dI) vwCl (tyM cL cZ cI) s) (hP : va_P (dC, dI) vwCl (wM ad cL cZ cI S ro hd) H) (hD : va_D A (wM ad cL cZ cI S ro hd)) (hS : va_S A H0 H locs) {i : Int32} {k : Nat} {v : Int64} (hat : xat i k 60) (hdg : decode cc pc = .ok (.lastore, 1))
    (kk : ∀ (H1 : Heap) (locs1 : List Loc), va_P (dC, dI) vwCl (wM ad cL cZ cI (mu_bw S (vp_updL (m_bw S) k v)) ro hd) H1 → va_D A (wM ad cL cZ cI (mu_bw S (vp_updL (m_bw S) k v)) ro hd) → va_S A H0 H1 locs1 → W p l e R s m args below meth c H1 locs1 cells slots Q (F0 m (pc + 1) ls rest)) : W p l e R s m args below meth c H locs cells slots Q (F0 m pc ls (.long v :: .int i :: .ref (ad 9) :: rest)) :=
  xv_last hx hb hK hP hD hS 9 0 rfl rfl hat rfl hdg kk
theorem l_m_rw (hx : p.tables.exec = Jvm.exec) (hb : c.code = cc) (hK : va_K (dC, dI) vwCl (tyM cL cZ cI) s) (hP : va_P (dC, dI) vwCl (wM ad cL cZ cI S ro hd) H) {i : Int32} {k : Nat} (hat : xat i k 9) (hdg : decode cc pc = .ok (.laload, 1))
    (kk : W p l e R s m args below meth c H locs cells slots Q (F0 m (pc + 1) ls (.long (ro k) :: rest))) : W p l e R s m args below meth c H locs cells slots Q (F0 m pc ls (.int i :: .ref (ad 10) :: rest)) :=
  xv_lald hx hb hK hP 10 0 rfl rfl hat hdg kk
theorem s_m_rw (hx : p.tables.exec = Jvm.exec) (hb : c.code = cc) (hK : va_K (dC, dI) vwCl (tyM cL cZ cI) s) (hP : va_P (dC, dI) vwCl (wM ad cL cZ cI S ro hd) H) (hD : va_D A (wM ad cL cZ cI S ro hd)) (hS : va_S A H0 H locs) {i : Int32} {k : Nat} {v : Int64} (hat : xat i k 9) (hdg : decode cc pc = .ok (.lastore, 1))
    (kk : ∀ (H1 : Heap) (locs1 : List Loc), va_P (dC, dI) vwCl (wM ad cL cZ cI S (vp_updL (ro) k v) hd) H1 → va_D A (wM ad cL cZ cI S (vp_updL (ro) k v) hd) → va_S A H0 H1 locs1 → W p l e R s m args below meth c H1 locs1 cells slots Q (F0 m (pc + 1) ls rest)) : W p l e R s m args below meth c H locs cells slots Q (F0 m pc ls (.long v :: .int i :: .ref (ad 10) :: rest)) :=
  xv_last hx hb hK hP hD hS 10 0 rfl rfl hat rfl hdg kk
theorem l_m_hd (hx : p.tables.exec = Jvm.exec) (hb : c.code = cc) (hK : va_K (dC, dI) vwCl (tyM cL cZ cI) s) (hP : va_P (dC, dI) vwCl (wM ad cL cZ cI S ro hd) H) {i : Int32} {k : Nat} (hat : xat i k 8) (hdg : decode cc pc = .ok (.laload, 1))
    (kk : W p l e R s m args below meth c H locs cells slots Q (F0 m (pc + 1) ls (.long (hd k) :: rest))) : W p l e R s m args below meth c H locs cells slots Q (F0 m pc ls (.int i :: .ref (ad 11) :: rest)) :=
  xv_lald hx hb hK hP 11 0 rfl rfl hat hdg kk
theorem s_m_hd (hx : p.tables.exec = Jvm.exec) (hb : c.code = cc) (hK : va_K (dC, dI) vwCl (tyM cL cZ cI) s) (hP : va_P (dC, dI) vwCl (wM ad cL cZ cI S ro hd) H) (hD : va_D A (wM ad cL cZ cI S ro hd)) (hS : va_S A H0 H locs) {i : Int32} {k : Nat} {v : Int64} (hat : xat i k 8) (hdg : decode cc pc = .ok (.lastore, 1))
    (kk : ∀ (H1 : Heap) (locs1 : List Loc), va_P (dC, dI) vwCl (wM ad cL cZ cI S ro (vp_updL (hd) k v)) H1 → va_D A (wM ad cL cZ cI S ro (vp_updL (hd) k v)) → va_S A H0 H1 locs1 → W p l e R s m args below meth c H1 locs1 cells slots Q (F0 m (pc + 1) ls rest)) : W p l e R s m args below meth c H locs cells slots Q (F0 m pc ls (.long v :: .int i :: .ref (ad 11) :: rest)) :=
  xv_last hx hb hK hP hD hS 11 0 rfl rfl hat rfl hdg kk
end MS
end
section
/-! what each method answers, as functions of the state -/
def fo (h w : Int64) : Int64 := ((h ^^^ w) * 3141592653589793239) ^^^ (((h ^^^ w) * 3141592653589793239).toUInt64 >>> ((29 : Int32).toInt64.toUInt64 &&& Int64.toUInt64 63)).toInt64
def h2 (a b : Int64) : Int64 := fo (fo 2 a) b
def mB (k : Int64) (n : Int32) : Int64 := fo (n + 1).toInt64 (k ^^^ 92)
def mE (k i : Int64) : Int64 := h2 (k ^^^ 54) i
def ushr (x y : Int32) : Int32 := (x.toUInt32 >>> (y.toUInt32 &&& Int32.toUInt32 31)).toInt32
def bcA (x : Int32) : Int32 := x - (ushr x 1 &&& 1431655765)
def bcB (x : Int32) : Int32 := (x &&& 858993459) + (ushr x 2 &&& 858993459)
def bcC (x : Int32) : Int32 := (x + ushr x 4) &&& 252645135
def bcD (x : Int32) : Int32 := x + ushr x 8
def bcE (x : Int32) : Int32 := x + ushr x 16
def bc32 (x : Int32) : Int32 := bcE (bcD (bcC (bcB (bcA x)))) &&& 63
/-- f folded from 0 on, n words, into h -/
def foN (h : Int64) (f : Nat → Int64) : Nat → Int64
  | 0 => h
  | n + 1 => fo (foN h f n) (f n)
def dgX (rg : Nat → Int64) (mask : Int32) (h : Int64) : Nat → Int64
  | 0 => h
  | n + 1 => if (mask >>> (nI n &&& 31)) &&& 1 = 0 then dgX rg mask h n else fo (dgX rg mask h n) (rg n)
def lfN (f : Nat → Int32) : Nat → Nat → Int32
  | _, 0 => -1
  | i, r + 1 => if f i = 0 then nI i else lfN f (i + 1) r
def lkN (kt : Nat → Int32) (kn : Nat → Int64) (name : Int64) : Nat → Nat → Int32
  | _, 0 => -1
  | i, r + 1 => if kt i = 0 then lkN kt kn name (i + 1) r else if lg_cmp (kn i) name = 0 then nI i else lkN kt kn name (i + 1) r
def X_isRegister (p : Int32) : Int32 := if p < 0 then 0 else if 8 ≤ p then 0 else 1
def X_isOpen (S : SX) (p : Int32) : Int32 := if x_lo S < p / 2 then 0 else 1
def X_isMask (w : Int64) : Int32 := if lg_cmp w 0 < 0 then 0 else if 0 < lg_cmp w 255 then 0 else 1
def X_isKey (S : SX) (k : Int32) : Int32 := if k < 0 then 0 else if 6 ≤ k then 0 else if x_kt S k.toNatClampNeg = 0 then 0 else 1
def X_isSession (S : SX) (k : Int32) : Int32 := if k < 0 then 0 else if 4 ≤ k then 0 else if x_st S k.toNatClampNeg = 0 then 0 else 1
def X_isBlob (S : SX) (k : Int32) : Int32 := if k < 0 then 0 else if x_bc S ≤ k then 0 else 1
def X_isBlobWord (S : SX) (k i : Int32) : Int32 := if X_isBlob S k = 0 then 0 else if i < 0 then 0 else if 6 ≤ i then 0 else 1
def X_isLocked (S : SX) : Int32 := if x_fa S < 3 then 0 else 1
def X_digestNow (S : SX) (mask : Int32) : Int64 := dgX (x_rg S) mask (fo (1 + bc32 mask).toInt64 mask.toInt64) 8
def X_isPolicyMet (S : SX) (q : Nat) : Int32 := if X_isMask (x_bl S q 1) = 0 then 0 else if lg_cmp (X_digestNow S (x_bl S q 1).toInt32) (x_bl S q 2) = 0 then 1 else 0
def X_leastKeyNamed (S : SX) (name : Int64) : Int32 := lkN (x_kt S) (x_kn S) name 0 6
def X_rightProof (S : SX) (secret : Int64) (ss command : Int32) (param : Int64) : Int64 := mE secret (fo (fo (fo (fo (mB secret 4) (x_mn S ss.toNatClampNeg)) (x_cn S ss.toNatClampNeg)) command.toInt64) param)
def X_signature (S : SX) (secret : Int64) (mask : Int32) (ch : Int64) : Int64 := mE secret (fo (fo (fo (mB secret 3) mask.toInt64) (X_digestNow S mask)) ch)
def X_sealOf (S : SX) (q : Nat) : Int64 := mE (x_m S) (foN (mB (x_m S) 5) (x_bl S q) 5)
def X_cover (S : SX) (salt dg : Int64) : Int64 := fo (fo (fo 3 (x_m S)) salt) dg
def X_draw (S : SX) : Int64 × SX := (h2 (x_m S) (x_dr S + 1), xu_dr S (x_dr S + 1))
/-- the nonce drawn anew -/
def X_anew (S : SX) (ss : Int32) : SX := xu_mn (X_draw S).2 (vp_updL (x_mn (X_draw S).2) ss.toNatClampNeg (X_draw S).1)
def X_passesProving (S : SX) (secret : Int64) (ss command : Int32) (param : Int64) : Int32 × SX :=
  if lg_cmp (x_pr S) (X_rightProof S secret ss command param) = 0 then (1, xu_fa (X_anew S ss) 0) else (0, xu_ou (xu_fa (X_anew S ss) (x_fa (X_anew S ss) + 1)) 0)
def X_put (S : SX) (q i : Nat) (v : Int64) : SX := xu_bl S (up2 (x_bl S) q i v)
def X_ab5 (S T : SX) (q : Nat) (name : Int64) (mask : Int32) (data salt : Int64) : SX :=
  X_put (X_put (X_put (X_put (X_put T q 0 name) q 1 mask.toInt64) q 2 (X_digestNow S mask)) q 3 salt) q 4 (data ^^^ X_cover T salt (X_digestNow S mask))
def X_addBlob (S : SX) (name : Int64) (mask : Int32) (data : Int64) : Int32 × SX :=
  (x_bc S, xu_bc (X_put (X_ab5 S (X_draw S).2 (x_bc S).toNatClampNeg name mask data (X_draw S).1) (x_bc S).toNatClampNeg 5 (X_sealOf (X_ab5 S (X_draw S).2 (x_bc S).toNatClampNeg name mask data (X_draw S).1) (x_bc S).toNatClampNeg)) (x_bc S + 1))
def X_locality (S : SX) (q : Int32) : Int32 × SX := if q < 0 then (0, S) else if q ≤ 3 then (1, xu_lo S q) else (0, S)
def X_extend (S : SX) (q : Int32) (v : Int64) : Int32 × SX := if X_isRegister q = 0 then (0, S) else if X_isOpen S q = 0 then (0, S) else (1, xu_rg S (vp_updL (x_rg S) q.toNatClampNeg (h2 (x_rg S q.toNatClampNeg) v)))
def X_reset (S : SX) (q : Int32) : Int32 × SX := if X_isRegister q = 0 then (0, S) else if q < 4 then (0, S) else if X_isOpen S q = 0 then (0, S) else (1, xu_rg S (vp_updL (x_rg S) q.toNatClampNeg 0))
def X_register (S : SX) (q : Int32) : Int64 := if X_isRegister q = 0 then 0 else x_rg S q.toNatClampNeg
def X_digest (S : SX) (mask : Int32) : Int64 := if X_isMask mask.toInt64 = 0 then 0 else X_digestNow S mask
def X_create (S : SX) (secret : Int64) : Int32 × SX := if 0 ≤ lfN (x_kt S) 0 6 then (lfN (x_kt S) 0 6, xu_kn (X_draw (xu_ks (xu_kt S (upd (x_kt S) (lfN (x_kt S) 0 6).toNatClampNeg 1)) (vp_updL (x_ks S) (lfN (x_kt S) 0 6).toNatClampNeg secret))).2 (vp_updL (x_kn S) (lfN (x_kt S) 0 6).toNatClampNeg (h2 secret (X_draw S).1))) else (-5, S)
def X_destroy (S : SX) (k : Int32) : Int32 × SX := if X_isKey S k = 0 then (0, S) else (1, xu_kt S (upd (x_kt S) k.toNatClampNeg 0))
def X_name (S : SX) (k : Int32) : Int64 := if X_isKey S k = 0 then 0 else x_kn S k.toNatClampNeg
def X_begin (S : SX) (nonce : Int64) : Int32 × SX := if 0 ≤ lfN (x_st S) 0 4 then (lfN (x_st S) 0 4, xu_mn (X_draw (xu_cn (xu_st S (upd (x_st S) (lfN (x_st S) 0 4).toNatClampNeg 1)) (vp_updL (x_cn S) (lfN (x_st S) 0 4).toNatClampNeg nonce))).2 (vp_updL (x_mn S) (lfN (x_st S) 0 4).toNatClampNeg (X_draw S).1)) else (-5, S)
def X_end (S : SX) (k : Int32) : Int32 × SX := if X_isSession S k = 0 then (0, S) else (1, xu_st S (upd (x_st S) k.toNatClampNeg 0))
def X_nonce (S : SX) (k : Int32) : Int64 := if X_isSession S k = 0 then 0 else x_mn S k.toNatClampNeg
def X_param (S : SX) (command a : Int32) (b : Int64) : Int64 := if command = 2 then x_bl S a.toNatClampNeg 5 else h2 a.toInt64 b
def X_prove (S : SX) (secret : Int64) (ss command a : Int32) (b : Int64) : Int32 × SX :=
  if X_isSession S ss = 0 then (0, S) else if command < 1 then (0, S) else if command ≤ 3 then
    (if command = 2 then (if X_isBlob S a = 0 then (0, S) else (1, xu_pr S (X_rightProof S secret ss command (X_param S command a b)))) else (1, xu_pr S (X_rightProof S secret ss command (X_param S command a b)))) else (0, S)
def X_seal (S : SX) (ss k mask : Int32) (data : Int64) : Int32 × SX :=
  if X_isSession S ss = 0 then (-1, S) else if X_isKey S k = 0 then (-1, S) else if X_isMask mask.toInt64 = 0 then (-1, S) else if X_isLocked S = 0 then
    (if x_bc S < 10 then
      (if (X_passesProving S (x_ks S k.toNatClampNeg) ss 1 (h2 mask.toInt64 data)).1 = 0 then (-6, (X_passesProving S (x_ks S k.toNatClampNeg) ss 1 (h2 mask.toInt64 data)).2)
       else X_addBlob (X_passesProving S (x_ks S k.toNatClampNeg) ss 1 (h2 mask.toInt64 data)).2 (x_kn (X_passesProving S (x_ks S k.toNatClampNeg) ss 1 (h2 mask.toInt64 data)).2 k.toNatClampNeg) mask data)
     else (-5, S)) else (-2, S)
def X_unsealP (S : SX) (ss a : Int32) : Int32 × SX := X_passesProving S (x_ks S (X_leastKeyNamed S (x_bl S a.toNatClampNeg 0)).toNatClampNeg) ss 2 (x_bl S a.toNatClampNeg 5)
def X_unseal (S : SX) (ss a : Int32) : Int32 × SX :=
  if X_isSession S ss = 0 then (-1, S) else if X_isBlob S a = 0 then (-1, S) else if X_isLocked S = 0 then
    (if lg_cmp (x_bl S a.toNatClampNeg 5) (X_sealOf S a.toNatClampNeg) = 0 then
      (if 0 ≤ X_leastKeyNamed S (x_bl S a.toNatClampNeg 0) then
        (if (X_unsealP S ss a).1 = 0 then (-6, (X_unsealP S ss a).2)
         else if X_isPolicyMet (X_unsealP S ss a).2 a.toNatClampNeg = 0 then (-7, xu_ou (X_unsealP S ss a).2 0)
         else (0, xu_ou (X_unsealP S ss a).2 (x_bl (X_unsealP S ss a).2 a.toNatClampNeg 4 ^^^ X_cover (X_unsealP S ss a).2 (x_bl (X_unsealP S ss a).2 a.toNatClampNeg 3) (x_bl (X_unsealP S ss a).2 a.toNatClampNeg 2))))
       else (-4, S))
     else (-3, S)) else (-2, S)
def X_quote (S : SX) (ss k mask : Int32) (ch : Int64) : Int32 × SX :=
  if X_isSession S ss = 0 then (-1, S) else if X_isKey S k = 0 then (-1, S) else if X_isMask mask.toInt64 = 0 then (-1, S) else if X_isLocked S = 0 then
    (if (X_passesProving S (x_ks S k.toNatClampNeg) ss 3 (h2 mask.toInt64 ch)).1 = 0 then (-6, (X_passesProving S (x_ks S k.toNatClampNeg) ss 3 (h2 mask.toInt64 ch)).2)
     else (0, xu_ou (X_passesProving S (x_ks S k.toNatClampNeg) ss 3 (h2 mask.toInt64 ch)).2 (X_signature (X_passesProving S (x_ks S k.toNatClampNeg) ss 3 (h2 mask.toInt64 ch)).2 (x_ks S k.toNatClampNeg) mask ch))) else (-2, S)
def X_blob (S : SX) (k i : Int32) : Int64 := if X_isBlobWord S k i = 0 then 0 else x_bl S k.toNatClampNeg i.toNatClampNeg
def X_change (S : SX) (k i : Int32) (v : Int64) : Int32 × SX := if X_isBlobWord S k i = 0 then (0, S) else (1, X_put S k.toNatClampNeg i.toNatClampNeg v)
/-- the first n words 0 -/
def zJ (f : Nat → Int64) : Nat → Nat → Int64
  | 0 => f
  | n + 1 => vp_updL (zJ f n) n 0
def zI (f : Nat → Int32) : Nat → Nat → Int32
  | 0 => f
  | n + 1 => upd (zI f n) n 0
def X_reboot (S : SX) : SX := xu_ou (xu_fa (xu_lo (xu_st (xu_rg S (zJ (x_rg S) 8)) (zI (x_st S) 4)) 0) 0) 0
/-! facts of places that the tests give -/
theorem xge {i n : Nat} (hn : n < 2 ^ 31) (hi : i ≤ n) (h : nI n ≤ nI i) : i = n := by
  have := (nI_leI hn (Nat.lt_of_le_of_lt hi hn)).mp h
  omega
theorem xlt {i n : Nat} (hn : n < 2 ^ 31) (hi : i ≤ n) (h : ¬ nI n ≤ nI i) : i < n := by
  rcases Nat.lt_or_ge i n with q | q
  · exact q
  · exact absurd ((nI_leI hn (Nat.lt_of_le_of_lt hi hn)).mpr q) h
theorem X_isRegister_in {q : Int32} (h : ¬ X_isRegister q = 0) : vp_in q 8 := by
  unfold X_isRegister at h
  by_cases h0 : q < 0
  · exact absurd (if_pos h0) h
  · rw [if_neg h0] at h
    by_cases h1 : 8 ≤ q
    · exact absurd (if_pos h1) h
    · exact xin_of (M := 8) rfl (by decide) h0 h1
theorem X_isKey_in {S : SX} {k : Int32} (h : ¬ X_isKey S k = 0) : vp_in k 6 := by
  unfold X_isKey at h
  by_cases h0 : k < 0
  · exact absurd (if_pos h0) h
  · rw [if_neg h0] at h
    by_cases h1 : 6 ≤ k
    · exact absurd (if_pos h1) h
    · exact xin_of (M := 6) rfl (by decide) h0 h1
theorem X_isSession_in {S : SX} {k : Int32} (h : ¬ X_isSession S k = 0) : vp_in k 4 := by
  unfold X_isSession at h
  by_cases h0 : k < 0
  · exact absurd (if_pos h0) h
  · rw [if_neg h0] at h
    by_cases h1 : 4 ≤ k
    · exact absurd (if_pos h1) h
    · exact xin_of (M := 4) rfl (by decide) h0 h1
/-- how many blobs there are: 0 .. 10 -/
def okB (x : Int32) : Prop := ∃ n : Nat, n ≤ 10 ∧ x = nI n
theorem X_isBlob_in {S : SX} {k : Int32} (hB : okB (x_bc S)) (h : ¬ X_isBlob S k = 0) : vp_in k 10 := by
  obtain ⟨n, hn, e⟩ := hB
  unfold X_isBlob at h
  rw [e] at h
  by_cases h0 : k < 0
  · exact absurd (if_pos h0) h
  · rw [if_neg h0] at h
    by_cases h1 : nI n ≤ k
    · exact absurd (if_pos h1) h
    · obtain ⟨j, hj, rfl⟩ := nI_of h0
      rw [nI_leI (by omega) hj] at h1
      exact vp_in_nI (by omega) (by decide)
theorem X_isBlobWord_in {S : SX} {k i : Int32} (hB : okB (x_bc S)) (h : ¬ X_isBlobWord S k i = 0) : vp_in k 10 ∧ vp_in i 6 := by
  unfold X_isBlobWord at h
  by_cases h0 : X_isBlob S k = 0
  · exact absurd (if_pos h0) h
  · rw [if_neg h0] at h
    refine ⟨X_isBlob_in hB h0, ?_⟩
    by_cases h1 : i < 0
    · exact absurd (if_pos h1) h
    · rw [if_neg h1] at h
      by_cases h2 : 6 ≤ i
      · exact absurd (if_pos h2) h
      · exact xin_of (M := 6) rfl (by decide) h1 h2
theorem lfN_in (f : Nat → Int32) : ∀ (r i : Nat), i + r < 2 ^ 31 → 0 ≤ lfN f i r → ∃ k : Nat, k < i + r ∧ lfN f i r = nI k
  | 0, i, _, h => absurd h (by simp only [lfN]; decide)
  | r + 1, i, hi, h => by
    unfold lfN at h ⊢
    by_cases h0 : f i = 0
    · rw [if_pos h0]
      exact ⟨i, by omega, rfl⟩
    · rw [if_neg h0] at h ⊢
      obtain ⟨k, hk, e⟩ := lfN_in f r (i + 1) (by omega) h
      exact ⟨k, by omega, e⟩
theorem lfN_at {f : Nat → Int32} {n : Nat} (hn : n < 2 ^ 31) (h : 0 ≤ lfN f 0 n) : vp_in (lfN f 0 n) n := by
  obtain ⟨k, hk, e⟩ := lfN_in f n 0 (by omega) h
  rw [e]
  exact vp_in_nI (by omega) hn
theorem lkN_in (kt : Nat → Int32) (kn : Nat → Int64) (name : Int64) : ∀ (r i : Nat), i + r < 2 ^ 31 → 0 ≤ lkN kt kn name i r → ∃ k : Nat, k < i + r ∧ lkN kt kn name i r = nI k
  | 0, i, _, h => absurd h (by simp only [lkN]; decide)
  | r + 1, i, hi, h => by
    unfold lkN at h ⊢
    by_cases h0 : kt i = 0
    · rw [if_pos h0] at h ⊢
      obtain ⟨k, hk, e⟩ := lkN_in kt kn name r (i + 1) (by omega) h
      exact ⟨k, by omega, e⟩
    · rw [if_neg h0] at h ⊢
      by_cases h1 : lg_cmp (kn i) name = 0
      · rw [if_pos h1]
        exact ⟨i, by omega, rfl⟩
      · rw [if_neg h1] at h ⊢
        obtain ⟨k, hk, e⟩ := lkN_in kt kn name r (i + 1) (by omega) h
        exact ⟨k, by omega, e⟩
theorem lkN_at {kt : Nat → Int32} {kn : Nat → Int64} {name : Int64} (h : 0 ≤ lkN kt kn name 0 6) : vp_in (lkN kt kn name 0 6) 6 := by
  obtain ⟨k, hk, e⟩ := lkN_in kt kn name 6 0 (by decide) h
  rw [e]
  exact vp_in_nI (by omega) (by decide)
theorem lfN_hit {f : Nat → Int32} {i n : Nat} (h : i < n) (h0 : f i = 0) : lfN f i (n - i) = nI i := by
  obtain ⟨r, hr⟩ : ∃ r, n - i = r + 1 := ⟨n - i - 1, by omega⟩
  rw [hr]
  exact if_pos h0
theorem lfN_miss {f : Nat → Int32} {i n : Nat} (h : i < n) (h0 : ¬ f i = 0) : lfN f i (n - i) = lfN f (i + 1) (n - (i + 1)) := by
  obtain ⟨r, hr⟩ : ∃ r, n - i = r + 1 := ⟨n - i - 1, by omega⟩
  rw [show n - (i + 1) = r by omega, hr]
  exact if_neg h0
theorem lkN_skip {kt : Nat → Int32} {kn : Nat → Int64} {name : Int64} {i n : Nat} (h : i < n) (h0 : kt i = 0) : lkN kt kn name i (n - i) = lkN kt kn name (i + 1) (n - (i + 1)) := by
  obtain ⟨r, hr⟩ : ∃ r, n - i = r + 1 := ⟨n - i - 1, by omega⟩
  rw [show n - (i + 1) = r by omega, hr]
  exact if_pos h0
theorem lkN_hit {kt : Nat → Int32} {kn : Nat → Int64} {name : Int64} {i n : Nat} (h : i < n) (h0 : ¬ kt i = 0) (h1 : lg_cmp (kn i) name = 0) : lkN kt kn name i (n - i) = nI i := by
  obtain ⟨r, hr⟩ : ∃ r, n - i = r + 1 := ⟨n - i - 1, by omega⟩
  rw [hr]
  unfold lkN
  rw [if_neg h0, if_pos h1]
theorem lkN_miss {kt : Nat → Int32} {kn : Nat → Int64} {name : Int64} {i n : Nat} (h : i < n) (h0 : ¬ kt i = 0) (h1 : ¬ lg_cmp (kn i) name = 0) : lkN kt kn name i (n - i) = lkN kt kn name (i + 1) (n - (i + 1)) := by
  obtain ⟨r, hr⟩ : ∃ r, n - i = r + 1 := ⟨n - i - 1, by omega⟩
  rw [show n - (i + 1) = r by omega, hr, lkN, if_neg h0, if_neg h1]
theorem okB_lt {x : Int32} (h : okB x) (h1 : x < 10) : vp_in x 10 := by
  obtain ⟨n, hn, rfl⟩ := h
  have : n < 10 := (nI_ltI (by omega) (by decide)).mp (show nI n < nI 10 from h1)
  exact vp_in_nI this (by decide)
theorem X_pass_bc (S : SX) (k : Int64) (q cm : Int32) (pa : Int64) : x_bc (X_passesProving S k q cm pa).2 = x_bc S := by
  unfold X_passesProving
  by_cases h : lg_cmp (x_pr S) (X_rightProof S k q cm pa) = 0
  · rw [if_pos h]
    rfl
  · rw [if_neg h]
    rfl
theorem X_pass_in {S : SX} {k : Int64} {q cm : Int32} {pa : Int64} (h : vp_in (x_bc S) 10) : vp_in (x_bc (X_passesProving S k q cm pa).2) 10 := by
  rw [X_pass_bc]
  exact h
end
section
set_option maxHeartbeats 4000000 in
set_option maxRecDepth 100000 in
theorem c_X0_fold (l : Launch)  (h : Int64) (w : Int64)  : Met l yX0_fold wsX0_fold ({ frames := 0, cells := 0, slots := 0, locals := 0 }) (va_Pc [.long h, .long w] (fun _ => True)) (vp_Sl (fun r => r = fo h w)) 0 0 (fun _ => False) := by
  refine Met.ofW (cc := cX0_fold) (maxL := 6) (ret := (some .long)) (by decide) rfl ?_
  intro p e s m args below meth c s₁ B hml hv
  obtain ⟨rfl, -⟩ := hv
  have hx := B.exec
  have hb := B.bytes
  have hr := B.returns
  have hts := atoms_spec (ws := wsX0_fold) B.pre
  have hown : s.vm.findClass RX0 = some m.cls := findClass_of_methodNamed B.named
  have hlocks := B.notSynchronized
  have hl := lv_entry ([.long h, .long w]) (n := 6) (Nat.le_of_ble_eq_true rfl)
  rw [lg_entry_eq]
  generalize (lg_sl ([.long h, .long w]) ++ List.replicate (6 - (lg_sl ([.long h, .long w])).length) Slot.unset).toArray = ls at hl ⊢
  have hl : lv_has ls 6 [(0, .long h), (2, .long w)] := hl
  refine lv_lload_n hx hb dX0_fold_0 rfl (lv_at hl 0 rfl) ?_
  refine lv_lload_n hx hb dX0_fold_1 rfl (lv_at hl 1 rfl) ?_
  refine lv_lxor hx hb dX0_fold_2 ?_
  refine lv_ldc2 (v := 3141592653589793239) hx hb hown (hts (.constantLong RX0 161 (3141592653589793239)) (by decide +kernel)) dX0_fold_3 ?_
  refine lv_lmul hx hb dX0_fold_6 ?_
  refine lv_lstore (lv' := [(4, .long ((h ^^^ w) * (3141592653589793239 : Int64))), (0, .long h), (2, .long w)]) hx hb dX0_fold_7 hl (by decide) rfl (fun ls hl => ?_)
  refine lv_lload hx hb dX0_fold_9 (lv_at hl 0 rfl) ?_
  refine lv_lload hx hb dX0_fold_11 (lv_at hl 0 rfl) ?_
  refine lv_bipush (v := 29) hx hb dX0_fold_13 (by decide) ?_
  refine lv_lushr hx hb dX0_fold_15 rfl ?_
  refine lv_lxor hx hb dX0_fold_16 ?_
  exact W.lret (v := (((h ^^^ w) * (3141592653589793239 : Int64)) ^^^ (((h ^^^ w) * (3141592653589793239 : Int64)).toUInt64 >>> ((29 : Int32).toInt64.toUInt64 &&& Int64.toUInt64 63)).toInt64)) hx hb hr (fun t ht hW => ⟨_, rfl, rfl, ht⟩) (fun _ h => by cases h) dX0_fold_17
set_option maxHeartbeats 4000000 in
set_option maxRecDepth 100000 in
theorem c_X0_hash2 (l : Launch)  (a : Int64) (b : Int64)  : Met l yX0_hash2 wsX0_hash2 ({ frames := 1, cells := 0, slots := 0, locals := 25 }) (va_Pc [.long a, .long b] (fun _ => True)) (vp_Sl (fun r => r = h2 a b)) 0 0 (fun _ => False) := by
  refine Met.ofW (cc := cX0_hash2) (maxL := 4) (ret := (some .long)) (by decide) rfl ?_
  intro p e s m args below meth c s₁ B hml hv
  obtain ⟨rfl, -⟩ := hv
  have hx := B.exec
  have hb := B.bytes
  have hr := B.returns
  have hts := atoms_spec (ws := wsX0_hash2) B.pre
  have hown : s.vm.findClass RX0 = some m.cls := findClass_of_methodNamed B.named
  have hlocks := B.notSynchronized
  have hl := lv_entry ([.long a, .long b]) (n := 4) (Nat.le_of_ble_eq_true rfl)
  rw [lg_entry_eq]
  generalize (lg_sl ([.long a, .long b]) ++ List.replicate (4 - (lg_sl ([.long a, .long b])).length) Slot.unset).toArray = ls at hl ⊢
  have hl : lv_has ls 4 [(0, .long a), (2, .long b)] := hl
  refine lv_ldc2 (v := 2) hx hb hown (hts (.constantLong RX0 159 (2)) (by decide +kernel)) dX0_hash2_0 ?_
  refine lv_lload_n hx hb dX0_hash2_3 rfl (lv_at hl 0 rfl) ?_
  refine vp_callSl (va_Run.run (va_runS (As := [.long (2 : Int64), .long a]) (rest := []) ⟨hx, hb, hml, hown, hts⟩ (c_X0_fold l (2 : Int64) a ) (va_cwS 2 hts gX0_hash2_X0_fold rfl rfl rfl (by decide +kernel) ⟨Nat.le_of_ble_eq_true rfl, Nat.le_of_ble_eq_true rfl⟩) (xpS_n _) rfl rfl hl.1 rfl (lv_room (Nat.le_of_ble_eq_true rfl)) dX0_hash2_4 ⟨Nat.le_of_ble_eq_true rfl, Nat.le_of_ble_eq_true rfl⟩)) (fun r hr9 => ?_)
  subst hr9
  refine lv_lload_n hx hb dX0_hash2_7 rfl (lv_at hl 1 rfl) ?_
  refine vp_callSl (va_Run.run (va_runS (As := [.long (fo (2 : Int64) a), .long b]) (rest := []) ⟨hx, hb, hml, hown, hts⟩ (c_X0_fold l (fo (2 : Int64) a) b ) (va_cwS 2 hts gX0_hash2_X0_fold rfl rfl rfl (by decide +kernel) ⟨Nat.le_of_ble_eq_true rfl, Nat.le_of_ble_eq_true rfl⟩) (xpS_n _) rfl rfl hl.1 rfl (lv_room (Nat.le_of_ble_eq_true rfl)) dX0_hash2_8 ⟨Nat.le_of_ble_eq_true rfl, Nat.le_of_ble_eq_true rfl⟩)) (fun r hr9 => ?_)
  subst hr9
  exact W.lret (v := (fo (fo (2 : Int64) a) b)) hx hb hr (fun t ht hW => ⟨_, rfl, rfl, ht⟩) (fun _ h => by cases h) dX0_hash2_11
set_option maxHeartbeats 4000000 in
set_option maxRecDepth 100000 in
theorem c_X0_macBegin (l : Launch)  (k : Int64) (n : Int32)  : Met l yX0_macBegin wsX0_macBegin ({ frames := 1, cells := 0, slots := 0, locals := 25 }) (va_Pc [.long k, .int n] (fun _ => True)) (vp_Sl (fun r => r = mB k n)) 0 0 (fun _ => False) := by
  refine Met.ofW (cc := cX0_macBegin) (maxL := 3) (ret := (some .long)) (by decide) rfl ?_
  intro p e s m args below meth c s₁ B hml hv
  obtain ⟨rfl, -⟩ := hv
  have hx := B.exec
  have hb := B.bytes
  have hr := B.returns
  have hts := atoms_spec (ws := wsX0_macBegin) B.pre
  have hown : s.vm.findClass RX0 = some m.cls := findClass_of_methodNamed B.named
  have hlocks := B.notSynchronized
  have hl := lv_entry ([.long k, .int n]) (n := 3) (Nat.le_of_ble_eq_true rfl)
  rw [lg_entry_eq]
  generalize (lg_sl ([.long k, .int n]) ++ List.replicate (3 - (lg_sl ([.long k, .int n])).length) Slot.unset).toArray = ls at hl ⊢
  have hl : lv_has ls 3 [(0, .long k), (2, .int n)] := hl
  refine lv_iload_n hx hb dX0_macBegin_0 rfl (lv_at hl 1 rfl) ?_
  refine lv_iconst (v := 1) hx hb dX0_macBegin_1 (by decide) ?_
  refine lv_iadd hx hb dX0_macBegin_2 ?_
  refine lv_i2l hx hb dX0_macBegin_3 rfl ?_
  refine lv_lload_n hx hb dX0_macBegin_4 rfl (lv_at hl 0 rfl) ?_
  refine lv_ldc2 (v := 92) hx hb hown (hts (.constantLong RX0 155 (92)) (by decide +kernel)) dX0_macBegin_5 ?_
  refine lv_lxor hx hb dX0_macBegin_8 ?_
  refine vp_callSl (va_Run.run (va_runS (As := [.long ((n + (1 : Int32)).toInt64), .long (k ^^^ (92 : Int64))]) (rest := []) ⟨hx, hb, hml, hown, hts⟩ (c_X0_fold l ((n + (1 : Int32)).toInt64) (k ^^^ (92 : Int64)) ) (va_cwS 2 hts gX0_macBegin_X0_fold rfl rfl rfl (by decide +kernel) ⟨Nat.le_of_ble_eq_true rfl, Nat.le_of_ble_eq_true rfl⟩) (xpS_n _) rfl rfl hl.1 rfl (lv_room (Nat.le_of_ble_eq_true rfl)) dX0_macBegin_9 ⟨Nat.le_of_ble_eq_true rfl, Nat.le_of_ble_eq_true rfl⟩)) (fun r hr9 => ?_)
  subst hr9
  exact W.lret (v := (fo ((n + (1 : Int32)).toInt64) (k ^^^ (92 : Int64)))) hx hb hr (fun t ht hW => ⟨_, rfl, rfl, ht⟩) (fun _ h => by cases h) dX0_macBegin_12
set_option maxHeartbeats 4000000 in
set_option maxRecDepth 100000 in
theorem c_X0_macEnd (l : Launch)  (k : Int64) (i : Int64)  : Met l yX0_macEnd wsX0_macEnd ({ frames := 2, cells := 0, slots := 0, locals := 48 }) (va_Pc [.long k, .long i] (fun _ => True)) (vp_Sl (fun r => r = mE k i)) 0 0 (fun _ => False) := by
  refine Met.ofW (cc := cX0_macEnd) (maxL := 4) (ret := (some .long)) (by decide) rfl ?_
  intro p e s m args below meth c s₁ B hml hv
  obtain ⟨rfl, -⟩ := hv
  have hx := B.exec
  have hb := B.bytes
  have hr := B.returns
  have hts := atoms_spec (ws := wsX0_macEnd) B.pre
  have hown : s.vm.findClass RX0 = some m.cls := findClass_of_methodNamed B.named
  have hlocks := B.notSynchronized
  have hl := lv_entry ([.long k, .long i]) (n := 4) (Nat.le_of_ble_eq_true rfl)
  rw [lg_entry_eq]
  generalize (lg_sl ([.long k, .long i]) ++ List.replicate (4 - (lg_sl ([.long k, .long i])).length) Slot.unset).toArray = ls at hl ⊢
  have hl : lv_has ls 4 [(0, .long k), (2, .long i)] := hl
  refine lv_lload_n hx hb dX0_macEnd_0 rfl (lv_at hl 0 rfl) ?_
  refine lv_ldc2 (v := 54) hx hb hown (hts (.constantLong RX0 157 (54)) (by decide +kernel)) dX0_macEnd_1 ?_
  refine lv_lxor hx hb dX0_macEnd_4 ?_
  refine lv_lload_n hx hb dX0_macEnd_5 rfl (lv_at hl 1 rfl) ?_
  refine vp_callSl (va_Run.run (va_runS (As := [.long (k ^^^ (54 : Int64)), .long i]) (rest := []) ⟨hx, hb, hml, hown, hts⟩ (c_X0_hash2 l (k ^^^ (54 : Int64)) i ) (va_cwS 2 hts gX0_macEnd_X0_hash2 rfl rfl rfl (by decide +kernel) ⟨Nat.le_of_ble_eq_true rfl, Nat.le_of_ble_eq_true rfl⟩) (xpS_n _) rfl rfl hl.1 rfl (lv_room (Nat.le_of_ble_eq_true rfl)) dX0_macEnd_6 ⟨Nat.le_of_ble_eq_true rfl, Nat.le_of_ble_eq_true rfl⟩)) (fun r hr9 => ?_)
  subst hr9
  exact W.lret (v := (h2 (k ^^^ (54 : Int64)) i)) hx hb hr (fun t ht hW => ⟨_, rfl, rfl, ht⟩) (fun _ h => by cases h) dX0_macEnd_9
set_option maxHeartbeats 4000000 in
set_option maxRecDepth 100000 in
theorem c_X0_isRegister (l : Launch)  (q : Int32)  : Met l yX0_isRegister wsX0_isRegister ({ frames := 0, cells := 0, slots := 0, locals := 0 }) (va_Pc [.int q] (fun _ => True)) (vp_Si (fun r => r = X_isRegister q)) 0 0 (fun _ => False) := by
  refine Met.ofW (cc := cX0_isRegister) (maxL := 1) (ret := (some .boolean)) (by decide) rfl ?_
  intro p e s m args below meth c s₁ B hml hv
  obtain ⟨rfl, -⟩ := hv
  have hx := B.exec
  have hb := B.bytes
  have hr := B.returns
  have hts := atoms_spec (ws := wsX0_isRegister) B.pre
  have hown : s.vm.findClass RX0 = some m.cls := findClass_of_methodNamed B.named
  have hlocks := B.notSynchronized
  have hl := lv_entry ([.int q]) (n := 1) (Nat.le_of_ble_eq_true rfl)
  rw [lg_entry_eq]
  generalize (lg_sl ([.int q]) ++ List.replicate (1 - (lg_sl ([.int q])).length) Slot.unset).toArray = ls at hl ⊢
  have hl : lv_has ls 1 [(0, .int q)] := hl
  refine lv_iload_n hx hb dX0_isRegister_0 rfl (lv_at hl 0 rfl) ?_
  refine lv_if_lt (tgt := 14) hx hb dX0_isRegister_1 (by decide) (fun c1 => ?_) (fun c1 => ?_)
  · skip
    refine lv_iconst (v := 0) hx hb dX0_isRegister_14 (by decide) ?_
    exact W.zret (v := (0 : Int32)) hx hb hr rfl (fun t ht hW => ⟨_, rfl, (by simp only [X_isRegister, if_pos c1] <;> rfl), ht⟩) (fun _ h => by cases h) dX0_isRegister_15
  · skip
    refine lv_iload_n hx hb dX0_isRegister_4 rfl (lv_at hl 0 rfl) ?_
    refine lv_bipush (v := 8) hx hb dX0_isRegister_5 (by decide) ?_
    refine lv_icmp_ge (tgt := 14) hx hb dX0_isRegister_7 (by decide) (fun c7 => ?_) (fun c7 => ?_)
    · skip
      refine lv_iconst (v := 0) hx hb dX0_isRegister_14 (by decide) ?_
      exact W.zret (v := (0 : Int32)) hx hb hr rfl (fun t ht hW => ⟨_, rfl, (by simp only [X_isRegister, if_neg c1, if_pos c7] <;> rfl), ht⟩) (fun _ h => by cases h) dX0_isRegister_15
    · skip
      refine lv_iconst (v := 1) hx hb dX0_isRegister_10 (by decide) ?_
      refine lv_goto (tgt := 15) hx hb dX0_isRegister_11 (by decide) ?_
      exact W.zret (v := (1 : Int32)) hx hb hr rfl (fun t ht hW => ⟨_, rfl, (by simp only [X_isRegister, if_neg c1, if_neg c7] <;> rfl), ht⟩) (fun _ h => by cases h) dX0_isRegister_15
set_option maxHeartbeats 4000000 in
set_option maxRecDepth 100000 in
theorem c_X0_isMask (l : Launch)  (q : Int64)  : Met l yX0_isMask wsX0_isMask ({ frames := 0, cells := 0, slots := 0, locals := 0 }) (va_Pc [.long q] (fun _ => True)) (vp_Si (fun r => r = X_isMask q)) 0 0 (fun _ => False) := by
  refine Met.ofW (cc := cX0_isMask) (maxL := 2) (ret := (some .boolean)) (by decide) rfl ?_
  intro p e s m args below meth c s₁ B hml hv
  obtain ⟨rfl, -⟩ := hv
  have hx := B.exec
  have hb := B.bytes
  have hr := B.returns
  have hts := atoms_spec (ws := wsX0_isMask) B.pre
  have hown : s.vm.findClass RX0 = some m.cls := findClass_of_methodNamed B.named
  have hlocks := B.notSynchronized
  have hl := lv_entry ([.long q]) (n := 2) (Nat.le_of_ble_eq_true rfl)
  rw [lg_entry_eq]
  generalize (lg_sl ([.long q]) ++ List.replicate (2 - (lg_sl ([.long q])).length) Slot.unset).toArray = ls at hl ⊢
  have hl : lv_has ls 2 [(0, .long q)] := hl
  refine lv_lload_n hx hb dX0_isMask_0 rfl (lv_at hl 0 rfl) ?_
  refine lv_lconst (v := 0) hx hb dX0_isMask_1 (by decide) ?_
  refine W.lcmp hx hb dX0_isMask_2 ?_
  refine lv_if_lt (tgt := 18) hx hb dX0_isMask_3 (by decide) (fun c3 => ?_) (fun c3 => ?_)
  · skip
    refine lv_iconst (v := 0) hx hb dX0_isMask_18 (by decide) ?_
    exact W.zret (v := (0 : Int32)) hx hb hr rfl (fun t ht hW => ⟨_, rfl, (by simp only [X_isMask, if_pos c3] <;> rfl), ht⟩) (fun _ h => by cases h) dX0_isMask_19
  · skip
    refine lv_lload_n hx hb dX0_isMask_6 rfl (lv_at hl 0 rfl) ?_
    refine lv_ldc2 (v := 255) hx hb hown (hts (.constantLong RX0 132 (255)) (by decide +kernel)) dX0_isMask_7 ?_
    refine W.lcmp hx hb dX0_isMask_10 ?_
    refine lv_if_gt (tgt := 18) hx hb dX0_isMask_11 (by decide) (fun c11 => ?_) (fun c11 => ?_)
    · skip
      refine lv_iconst (v := 0) hx hb dX0_isMask_18 (by decide) ?_
      exact W.zret (v := (0 : Int32)) hx hb hr rfl (fun t ht hW => ⟨_, rfl, (by simp only [X_isMask, if_neg c3, if_pos c11] <;> rfl), ht⟩) (fun _ h => by cases h) dX0_isMask_19
    · skip
      refine lv_iconst (v := 1) hx hb dX0_isMask_14 (by decide) ?_
      refine lv_goto (tgt := 19) hx hb dX0_isMask_15 (by decide) ?_
      exact W.zret (v := (1 : Int32)) hx hb hr rfl (fun t ht hW => ⟨_, rfl, (by simp only [X_isMask, if_neg c3, if_neg c11] <;> rfl), ht⟩) (fun _ h => by cases h) dX0_isMask_19
set_option maxHeartbeats 4000000 in
set_option maxRecDepth 100000 in
theorem c_J6_bitCount_0f7a4 (l : Launch)  (q : Int32) : Met l yJ6_bitCount_0f7a4 wsJ6_bitCount_0f7a4 ({ frames := 0, cells := 0, slots := 0, locals := 0 }) (va_Pc [.int q] (fun _ => True)) (vp_Si (fun r => r = bc32 q)) 0 0 (fun _ => False) := by
  refine Met.ofW (cc := cJ6_bitCount_0f7a4) (maxL := 1) (ret := (some .int)) (by decide) rfl ?_
  intro p e s m args below meth c s₁ B hml hv
  obtain ⟨rfl, -⟩ := hv
  have hx := B.exec
  have hb := B.bytes
  have hr := B.returns
  have hts := atoms_spec (ws := wsJ6_bitCount_0f7a4) B.pre
  have hown : s.vm.findClass RJ6 = some m.cls := findClass_of_methodNamed B.named
  have hlocks := B.notSynchronized
  have hl := lv_entry ([.int q]) (n := 1) (Nat.le_of_ble_eq_true rfl)
  rw [lg_entry_eq]
  generalize (lg_sl ([.int q]) ++ List.replicate (1 - (lg_sl ([.int q])).length) Slot.unset).toArray = ls at hl ⊢
  have hl : lv_has ls 1 [(0, .int q)] := hl
  refine lv_iload_n hx hb dJ6_bitCount_0f7a4_0 rfl (lv_at hl 0 rfl) ?_
  refine lv_iload_n hx hb dJ6_bitCount_0f7a4_1 rfl (lv_at hl 0 rfl) ?_
  refine lv_iconst (v := 1) hx hb dJ6_bitCount_0f7a4_2 (by decide) ?_
  refine lv_iushr hx hb dJ6_bitCount_0f7a4_3 rfl ?_
  refine lv_ldcw (v := 1431655765) hx hb hown (hts (.constant RJ6 265 (1431655765)) (by decide +kernel)) dJ6_bitCount_0f7a4_4 ?_
  refine lv_iand hx hb dJ6_bitCount_0f7a4_7 ?_
  refine lv_isub hx hb dJ6_bitCount_0f7a4_8 ?_
  refine lv_istore_n (lv' := [(0, .int (bcA q))]) hx hb dJ6_bitCount_0f7a4_9 rfl hl (by decide) rfl (fun ls hl => ?_)
  refine lv_iload_n hx hb dJ6_bitCount_0f7a4_10 rfl (lv_at hl 0 rfl) ?_
  refine lv_ldcw (v := 858993459) hx hb hown (hts (.constant RJ6 266 (858993459)) (by decide +kernel)) dJ6_bitCount_0f7a4_11 ?_
  refine lv_iand hx hb dJ6_bitCount_0f7a4_14 ?_
  refine lv_iload_n hx hb dJ6_bitCount_0f7a4_15 rfl (lv_at hl 0 rfl) ?_
  refine lv_iconst (v := 2) hx hb dJ6_bitCount_0f7a4_16 (by decide) ?_
  refine lv_iushr hx hb dJ6_bitCount_0f7a4_17 rfl ?_
  refine lv_ldcw (v := 858993459) hx hb hown (hts (.constant RJ6 266 (858993459)) (by decide +kernel)) dJ6_bitCount_0f7a4_18 ?_
  refine lv_iand hx hb dJ6_bitCount_0f7a4_21 ?_
  refine lv_iadd hx hb dJ6_bitCount_0f7a4_22 ?_
  refine lv_istore_n (lv' := [(0, .int (bcB (bcA q)))]) hx hb dJ6_bitCount_0f7a4_23 rfl hl (by decide) rfl (fun ls hl => ?_)
  refine lv_iload_n hx hb dJ6_bitCount_0f7a4_24 rfl (lv_at hl 0 rfl) ?_
  refine lv_iload_n hx hb dJ6_bitCount_0f7a4_25 rfl (lv_at hl 0 rfl) ?_
  refine lv_iconst (v := 4) hx hb dJ6_bitCount_0f7a4_26 (by decide) ?_
  refine lv_iushr hx hb dJ6_bitCount_0f7a4_27 rfl ?_
  refine lv_iadd hx hb dJ6_bitCount_0f7a4_28 ?_
  refine lv_ldcw (v := 252645135) hx hb hown (hts (.constant RJ6 267 (252645135)) (by decide +kernel)) dJ6_bitCount_0f7a4_29 ?_
  refine lv_iand hx hb dJ6_bitCount_0f7a4_32 ?_
  refine lv_istore_n (lv' := [(0, .int (bcC (bcB (bcA q))))]) hx hb dJ6_bitCount_0f7a4_33 rfl hl (by decide) rfl (fun ls hl => ?_)
  refine lv_iload_n hx hb dJ6_bitCount_0f7a4_34 rfl (lv_at hl 0 rfl) ?_
  refine lv_iload_n hx hb dJ6_bitCount_0f7a4_35 rfl (lv_at hl 0 rfl) ?_
  refine lv_bipush (v := 8) hx hb dJ6_bitCount_0f7a4_36 (by decide) ?_
  refine lv_iushr hx hb dJ6_bitCount_0f7a4_38 rfl ?_
  refine lv_iadd hx hb dJ6_bitCount_0f7a4_39 ?_
  refine lv_istore_n (lv' := [(0, .int (bcD (bcC (bcB (bcA q)))))]) hx hb dJ6_bitCount_0f7a4_40 rfl hl (by decide) rfl (fun ls hl => ?_)
  refine lv_iload_n hx hb dJ6_bitCount_0f7a4_41 rfl (lv_at hl 0 rfl) ?_
  refine lv_iload_n hx hb dJ6_bitCount_0f7a4_42 rfl (lv_at hl 0 rfl) ?_
  refine lv_bipush (v := 16) hx hb dJ6_bitCount_0f7a4_43 (by decide) ?_
  refine lv_iushr hx hb dJ6_bitCount_0f7a4_45 rfl ?_
  refine lv_iadd hx hb dJ6_bitCount_0f7a4_46 ?_
  refine lv_istore_n (lv' := [(0, .int (bcE (bcD (bcC (bcB (bcA q))))))]) hx hb dJ6_bitCount_0f7a4_47 rfl hl (by decide) rfl (fun ls hl => ?_)
  refine lv_iload_n hx hb dJ6_bitCount_0f7a4_48 rfl (lv_at hl 0 rfl) ?_
  refine lv_bipush (v := 63) hx hb dJ6_bitCount_0f7a4_49 (by decide) ?_
  refine lv_iand hx hb dJ6_bitCount_0f7a4_51 ?_
  exact W.iret (v := ((bcE (bcD (bcC (bcB (bcA q))))) &&& (63 : Int32))) hx hb hr (fun t ht hW => ⟨_, rfl, rfl, ht⟩) (fun _ h => by cases h) dJ6_bitCount_0f7a4_52
end
section
set_option maxHeartbeats 4000000 in
set_option maxRecDepth 100000 in
theorem c_X0_isOpen (l : Launch) (dC : Nat → ClassId) (dI : Nat → Nat → Nat) (ad : Nat → Nat) (cL cZ cO : ClassId) (S : SX) (q : Int32)  : Met l yX0_isOpen wsX0_isOpen ({ frames := 0, cells := 0, slots := 0, locals := 0 }) (va_Pc [.ref (ad 0), .int q] (fun U => va_P (dC, dI) vwCl (wX ad cL cZ cO S) U.heap ∧ va_K (dC, dI) vwCl (tyX cL cZ cO) U)) (vp_Si (fun r => r = X_isOpen S q)) 0 0 (fun _ => False) := by
  refine Met.ofW (cc := cX0_isOpen) (maxL := 2) (ret := (some .boolean)) (by decide) rfl ?_
  intro p e s m args below meth c s₁ B hml hv
  obtain ⟨rfl, hP, hK⟩ := hv
  have hx := B.exec
  have hb := B.bytes
  have hr := B.returns
  have hts := atoms_spec (ws := wsX0_isOpen) B.pre
  have hown : s.vm.findClass RX0 = some m.cls := findClass_of_methodNamed B.named
  have hlocks := B.notSynchronized
  have hin : ∀ w ∈ wsX00, w ∈ wsX0_isOpen := fun _ h => List.mem_cons_of_mem _ (List.mem_append_right _ h)
  have hl := lv_entry ([.ref (ad 0), .int q]) (n := 2) (Nat.le_of_ble_eq_true rfl)
  rw [lg_entry_eq]
  generalize (lg_sl ([.ref (ad 0), .int q]) ++ List.replicate (2 - (lg_sl ([.ref (ad 0), .int q])).length) Slot.unset).toArray = ls at hl ⊢
  have hl : lv_has ls 2 [(0, .ref (ad 0)), (1, .int q)] := hl
  refine lv_aload_n hx hb dX0_isOpen_0 rfl (lv_at hl 0 rfl) ?_
  refine g_x_lo hx hb hts hin hown hK hP (hts (.fieldLink RX0 45 RX0 "locality" "I") (by decide +kernel)) dX0_isOpen_1 ?_
  refine lv_iload_n hx hb dX0_isOpen_4 rfl (lv_at hl 1 rfl) ?_
  refine lv_iconst (v := 2) hx hb dX0_isOpen_5 (by decide) ?_
  refine lv_idiv hx hb dX0_isOpen_6 (by decide) ?_
  refine lv_icmp_lt (tgt := 14) hx hb dX0_isOpen_7 (by decide) (fun c7 => ?_) (fun c7 => ?_)
  · skip
    refine lv_iconst (v := 0) hx hb dX0_isOpen_14 (by decide) ?_
    exact W.zret (v := (0 : Int32)) hx hb hr rfl (fun t ht hW => ⟨_, rfl, (by simp only [X_isOpen, if_pos c7] <;> rfl), ht⟩) (fun _ h => by cases h) dX0_isOpen_15
  · skip
    refine lv_iconst (v := 1) hx hb dX0_isOpen_10 (by decide) ?_
    refine lv_goto (tgt := 15) hx hb dX0_isOpen_11 (by decide) ?_
    exact W.zret (v := (1 : Int32)) hx hb hr rfl (fun t ht hW => ⟨_, rfl, (by simp only [X_isOpen, if_neg c7] <;> rfl), ht⟩) (fun _ h => by cases h) dX0_isOpen_15
set_option maxHeartbeats 4000000 in
set_option maxRecDepth 100000 in
theorem c_X0_isKey (l : Launch) (dC : Nat → ClassId) (dI : Nat → Nat → Nat) (ad : Nat → Nat) (cL cZ cO : ClassId) (S : SX) (q : Int32)  : Met l yX0_isKey wsX0_isKey ({ frames := 0, cells := 0, slots := 0, locals := 0 }) (va_Pc [.ref (ad 0), .int q] (fun U => va_P (dC, dI) vwCl (wX ad cL cZ cO S) U.heap ∧ va_K (dC, dI) vwCl (tyX cL cZ cO) U)) (vp_Si (fun r => r = X_isKey S q)) 0 0 (fun _ => False) := by
  refine Met.ofW (cc := cX0_isKey) (maxL := 2) (ret := (some .boolean)) (by decide) rfl ?_
  intro p e s m args below meth c s₁ B hml hv
  obtain ⟨rfl, hP, hK⟩ := hv
  have hx := B.exec
  have hb := B.bytes
  have hr := B.returns
  have hts := atoms_spec (ws := wsX0_isKey) B.pre
  have hown : s.vm.findClass RX0 = some m.cls := findClass_of_methodNamed B.named
  have hlocks := B.notSynchronized
  have hin : ∀ w ∈ wsX00, w ∈ wsX0_isKey := fun _ h => List.mem_cons_of_mem _ (List.mem_append_right _ h)
  have hl := lv_entry ([.ref (ad 0), .int q]) (n := 2) (Nat.le_of_ble_eq_true rfl)
  rw [lg_entry_eq]
  generalize (lg_sl ([.ref (ad 0), .int q]) ++ List.replicate (2 - (lg_sl ([.ref (ad 0), .int q])).length) Slot.unset).toArray = ls at hl ⊢
  have hl : lv_has ls 2 [(0, .ref (ad 0)), (1, .int q)] := hl
  refine lv_iload_n hx hb dX0_isKey_0 rfl (lv_at hl 1 rfl) ?_
  refine lv_if_lt (tgt := 23) hx hb dX0_isKey_1 (by decide) (fun c1 => ?_) (fun c1 => ?_)
  · skip
    refine lv_iconst (v := 0) hx hb dX0_isKey_23 (by decide) ?_
    exact W.zret (v := (0 : Int32)) hx hb hr rfl (fun t ht hW => ⟨_, rfl, (by simp only [X_isKey, if_pos c1] <;> rfl), ht⟩) (fun _ h => by cases h) dX0_isKey_24
  · skip
    refine lv_iload_n hx hb dX0_isKey_4 rfl (lv_at hl 1 rfl) ?_
    refine lv_bipush (v := 6) hx hb dX0_isKey_5 (by decide) ?_
    refine lv_icmp_ge (tgt := 23) hx hb dX0_isKey_7 (by decide) (fun c7 => ?_) (fun c7 => ?_)
    · skip
      refine lv_iconst (v := 0) hx hb dX0_isKey_23 (by decide) ?_
      exact W.zret (v := (0 : Int32)) hx hb hr rfl (fun t ht hW => ⟨_, rfl, (by simp only [X_isKey, if_neg c1, if_pos c7] <;> rfl), ht⟩) (fun _ h => by cases h) dX0_isKey_24
    · skip
      have hq : vp_in q 6 := xin_of (M := 6) rfl (by decide) c1 c7
      refine lv_aload_n hx hb dX0_isKey_10 rfl (lv_at hl 0 rfl) ?_
      refine g_x_akt hx hb hts hin hown hK hP (hts (.fieldLink RX0 21 RX0 "keyThere" "[Z") (by decide +kernel)) dX0_isKey_11 ?_
      refine lv_iload_n hx hb dX0_isKey_14 rfl (lv_at hl 1 rfl) ?_
      refine l_x_kt hx hb hK hP (xat_self hq) dX0_isKey_15 ?_
      refine lv_if_eq (tgt := 23) hx hb dX0_isKey_16 (by decide) (fun c16 => ?_) (fun c16 => ?_)
      · skip
        refine lv_iconst (v := 0) hx hb dX0_isKey_23 (by decide) ?_
        exact W.zret (v := (0 : Int32)) hx hb hr rfl (fun t ht hW => ⟨_, rfl, (by simp only [X_isKey, if_neg c1, if_neg c7, if_pos c16] <;> rfl), ht⟩) (fun _ h => by cases h) dX0_isKey_24
      · skip
        refine lv_iconst (v := 1) hx hb dX0_isKey_19 (by decide) ?_
        refine lv_goto (tgt := 24) hx hb dX0_isKey_20 (by decide) ?_
        exact W.zret (v := (1 : Int32)) hx hb hr rfl (fun t ht hW => ⟨_, rfl, (by simp only [X_isKey, if_neg c1, if_neg c7, if_neg c16] <;> rfl), ht⟩) (fun _ h => by cases h) dX0_isKey_24
set_option maxHeartbeats 4000000 in
set_option maxRecDepth 100000 in
theorem c_X0_isSession (l : Launch) (dC : Nat → ClassId) (dI : Nat → Nat → Nat) (ad : Nat → Nat) (cL cZ cO : ClassId) (S : SX) (q : Int32)  : Met l yX0_isSession wsX0_isSession ({ frames := 0, cells := 0, slots := 0, locals := 0 }) (va_Pc [.ref (ad 0), .int q] (fun U => va_P (dC, dI) vwCl (wX ad cL cZ cO S) U.heap ∧ va_K (dC, dI) vwCl (tyX cL cZ cO) U)) (vp_Si (fun r => r = X_isSession S q)) 0 0 (fun _ => False) := by
  refine Met.ofW (cc := cX0_isSession) (maxL := 2) (ret := (some .boolean)) (by decide) rfl ?_
  intro p e s m args below meth c s₁ B hml hv
  obtain ⟨rfl, hP, hK⟩ := hv
  have hx := B.exec
  have hb := B.bytes
  have hr := B.returns
  have hts := atoms_spec (ws := wsX0_isSession) B.pre
  have hown : s.vm.findClass RX0 = some m.cls := findClass_of_methodNamed B.named
  have hlocks := B.notSynchronized
  have hin : ∀ w ∈ wsX00, w ∈ wsX0_isSession := fun _ h => List.mem_cons_of_mem _ (List.mem_append_right _ h)
  have hl := lv_entry ([.ref (ad 0), .int q]) (n := 2) (Nat.le_of_ble_eq_true rfl)
  rw [lg_entry_eq]
  generalize (lg_sl ([.ref (ad 0), .int q]) ++ List.replicate (2 - (lg_sl ([.ref (ad 0), .int q])).length) Slot.unset).toArray = ls at hl ⊢
  have hl : lv_has ls 2 [(0, .ref (ad 0)), (1, .int q)] := hl
  refine lv_iload_n hx hb dX0_isSession_0 rfl (lv_at hl 1 rfl) ?_
  refine lv_if_lt (tgt := 22) hx hb dX0_isSession_1 (by decide) (fun c1 => ?_) (fun c1 => ?_)
  · skip
    refine lv_iconst (v := 0) hx hb dX0_isSession_22 (by decide) ?_
    exact W.zret (v := (0 : Int32)) hx hb hr rfl (fun t ht hW => ⟨_, rfl, (by simp only [X_isSession, if_pos c1] <;> rfl), ht⟩) (fun _ h => by cases h) dX0_isSession_23
  · skip
    refine lv_iload_n hx hb dX0_isSession_4 rfl (lv_at hl 1 rfl) ?_
    refine lv_iconst (v := 4) hx hb dX0_isSession_5 (by decide) ?_
    refine lv_icmp_ge (tgt := 22) hx hb dX0_isSession_6 (by decide) (fun c6 => ?_) (fun c6 => ?_)
    · skip
      refine lv_iconst (v := 0) hx hb dX0_isSession_22 (by decide) ?_
      exact W.zret (v := (0 : Int32)) hx hb hr rfl (fun t ht hW => ⟨_, rfl, (by simp only [X_isSession, if_neg c1, if_pos c6] <;> rfl), ht⟩) (fun _ h => by cases h) dX0_isSession_23
    · skip
      have hq : vp_in q 4 := xin_of (M := 4) rfl (by decide) c1 c6
      refine lv_aload_n hx hb dX0_isSession_9 rfl (lv_at hl 0 rfl) ?_
      refine g_x_ast hx hb hts hin hown hK hP (hts (.fieldLink RX0 31 RX0 "sessionThere" "[Z") (by decide +kernel)) dX0_isSession_10 ?_
      refine lv_iload_n hx hb dX0_isSession_13 rfl (lv_at hl 1 rfl) ?_
      refine l_x_st hx hb hK hP (xat_self hq) dX0_isSession_14 ?_
      refine lv_if_eq (tgt := 22) hx hb dX0_isSession_15 (by decide) (fun c15 => ?_) (fun c15 => ?_)
      · skip
        refine lv_iconst (v := 0) hx hb dX0_isSession_22 (by decide) ?_
        exact W.zret (v := (0 : Int32)) hx hb hr rfl (fun t ht hW => ⟨_, rfl, (by simp only [X_isSession, if_neg c1, if_neg c6, if_pos c15] <;> rfl), ht⟩) (fun _ h => by cases h) dX0_isSession_23
      · skip
        refine lv_iconst (v := 1) hx hb dX0_isSession_18 (by decide) ?_
        refine lv_goto (tgt := 23) hx hb dX0_isSession_19 (by decide) ?_
        exact W.zret (v := (1 : Int32)) hx hb hr rfl (fun t ht hW => ⟨_, rfl, (by simp only [X_isSession, if_neg c1, if_neg c6, if_neg c15] <;> rfl), ht⟩) (fun _ h => by cases h) dX0_isSession_23
set_option maxHeartbeats 4000000 in
set_option maxRecDepth 100000 in
theorem c_X0_isBlob (l : Launch) (dC : Nat → ClassId) (dI : Nat → Nat → Nat) (ad : Nat → Nat) (cL cZ cO : ClassId) (S : SX) (q : Int32)  : Met l yX0_isBlob wsX0_isBlob ({ frames := 0, cells := 0, slots := 0, locals := 0 }) (va_Pc [.ref (ad 0), .int q] (fun U => va_P (dC, dI) vwCl (wX ad cL cZ cO S) U.heap ∧ va_K (dC, dI) vwCl (tyX cL cZ cO) U)) (vp_Si (fun r => r = X_isBlob S q)) 0 0 (fun _ => False) := by
  refine Met.ofW (cc := cX0_isBlob) (maxL := 2) (ret := (some .boolean)) (by decide) rfl ?_
  intro p e s m args below meth c s₁ B hml hv
  obtain ⟨rfl, hP, hK⟩ := hv
  have hx := B.exec
  have hb := B.bytes
  have hr := B.returns
  have hts := atoms_spec (ws := wsX0_isBlob) B.pre
  have hown : s.vm.findClass RX0 = some m.cls := findClass_of_methodNamed B.named
  have hlocks := B.notSynchronized
  have hin : ∀ w ∈ wsX00, w ∈ wsX0_isBlob := fun _ h => List.mem_cons_of_mem _ (List.mem_append_right _ h)
  have hl := lv_entry ([.ref (ad 0), .int q]) (n := 2) (Nat.le_of_ble_eq_true rfl)
  rw [lg_entry_eq]
  generalize (lg_sl ([.ref (ad 0), .int q]) ++ List.replicate (2 - (lg_sl ([.ref (ad 0), .int q])).length) Slot.unset).toArray = ls at hl ⊢
  have hl : lv_has ls 2 [(0, .ref (ad 0)), (1, .int q)] := hl
  refine lv_iload_n hx hb dX0_isBlob_0 rfl (lv_at hl 1 rfl) ?_
  refine lv_if_lt (tgt := 16) hx hb dX0_isBlob_1 (by decide) (fun c1 => ?_) (fun c1 => ?_)
  · skip
    refine lv_iconst (v := 0) hx hb dX0_isBlob_16 (by decide) ?_
    exact W.zret (v := (0 : Int32)) hx hb hr rfl (fun t ht hW => ⟨_, rfl, (by simp only [X_isBlob, if_pos c1] <;> rfl), ht⟩) (fun _ h => by cases h) dX0_isBlob_17
  · skip
    refine lv_iload_n hx hb dX0_isBlob_4 rfl (lv_at hl 1 rfl) ?_
    refine lv_aload_n hx hb dX0_isBlob_5 rfl (lv_at hl 0 rfl) ?_
    refine g_x_bc hx hb hts hin hown hK hP (hts (.fieldLink RX0 92 RX0 "blobCount" "I") (by decide +kernel)) dX0_isBlob_6 ?_
    refine lv_icmp_ge (tgt := 16) hx hb dX0_isBlob_9 (by decide) (fun c9 => ?_) (fun c9 => ?_)
    · skip
      refine lv_iconst (v := 0) hx hb dX0_isBlob_16 (by decide) ?_
      exact W.zret (v := (0 : Int32)) hx hb hr rfl (fun t ht hW => ⟨_, rfl, (by simp only [X_isBlob, if_neg c1, if_pos c9] <;> rfl), ht⟩) (fun _ h => by cases h) dX0_isBlob_17
    · skip
      refine lv_iconst (v := 1) hx hb dX0_isBlob_12 (by decide) ?_
      refine lv_goto (tgt := 17) hx hb dX0_isBlob_13 (by decide) ?_
      exact W.zret (v := (1 : Int32)) hx hb hr rfl (fun t ht hW => ⟨_, rfl, (by simp only [X_isBlob, if_neg c1, if_neg c9] <;> rfl), ht⟩) (fun _ h => by cases h) dX0_isBlob_17
set_option maxHeartbeats 4000000 in
set_option maxRecDepth 100000 in
theorem c_X0_isBlobWord (l : Launch) (dC : Nat → ClassId) (dI : Nat → Nat → Nat) (ad : Nat → Nat) (cL cZ cO : ClassId) (S : SX) (q : Int32) (i : Int32)  : Met l yX0_isBlobWord wsX0_isBlobWord ({ frames := 1, cells := 0, slots := 0, locals := 21 }) (va_Pc [.ref (ad 0), .int q, .int i] (fun U => va_P (dC, dI) vwCl (wX ad cL cZ cO S) U.heap ∧ va_K (dC, dI) vwCl (tyX cL cZ cO) U)) (vp_Si (fun r => r = X_isBlobWord S q i)) 0 0 (fun _ => False) := by
  refine Met.ofW (cc := cX0_isBlobWord) (maxL := 3) (ret := (some .boolean)) (by decide) rfl ?_
  intro p e s m args below meth c s₁ B hml hv
  obtain ⟨rfl, hP, hK⟩ := hv
  have hx := B.exec
  have hb := B.bytes
  have hr := B.returns
  have hts := atoms_spec (ws := wsX0_isBlobWord) B.pre
  have hown : s.vm.findClass RX0 = some m.cls := findClass_of_methodNamed B.named
  have hlocks := B.notSynchronized
  have hin : ∀ w ∈ wsX00, w ∈ wsX0_isBlobWord := fun _ h => List.mem_cons_of_mem _ (List.mem_append_right _ h)
  have hl := lv_entry ([.ref (ad 0), .int q, .int i]) (n := 3) (Nat.le_of_ble_eq_true rfl)
  rw [lg_entry_eq]
  generalize (lg_sl ([.ref (ad 0), .int q, .int i]) ++ List.replicate (3 - (lg_sl ([.ref (ad 0), .int q, .int i])).length) Slot.unset).toArray = ls at hl ⊢
  have hl : lv_has ls 3 [(0, .ref (ad 0)), (1, .int q), (2, .int i)] := hl
  refine lv_aload_n hx hb dX0_isBlobWord_0 rfl (lv_at hl 0 rfl) ?_
  refine lv_iload_n hx hb dX0_isBlobWord_1 rfl (lv_at hl 1 rfl) ?_
  refine vp_callSi (va_Run.run (va_runV (As := [.int q]) (rest := []) ⟨hx, hb, hml, hown, hts⟩ (c_X0_isBlob l dC dI ad cL cZ cO S q ) (cwV 1 hts gX0_isBlobWord_X0_isBlob rfl rfl rfl (by decide +kernel) ⟨Nat.le_of_ble_eq_true rfl, Nat.le_of_ble_eq_true rfl⟩) (xpV_r [.int q] hK hP (va_recv hK hP (ci := 0) (q0 := 0) rfl rfl)) rfl rfl hl.1 rfl (lv_room (Nat.le_of_ble_eq_true rfl)) dX0_isBlobWord_2 ⟨Nat.le_of_ble_eq_true rfl, Nat.le_of_ble_eq_true rfl⟩)) (fun r hr9 => ?_)
  subst hr9
  refine lv_if_eq (tgt := 22) hx hb dX0_isBlobWord_5 (by decide) (fun c5 => ?_) (fun c5 => ?_)
  · skip
    refine lv_iconst (v := 0) hx hb dX0_isBlobWord_22 (by decide) ?_
    exact W.zret (v := (0 : Int32)) hx hb hr rfl (fun t ht hW => ⟨_, rfl, (by simp only [X_isBlobWord, if_pos c5] <;> rfl), ht⟩) (fun _ h => by cases h) dX0_isBlobWord_23
  · skip
    refine lv_iload_n hx hb dX0_isBlobWord_8 rfl (lv_at hl 2 rfl) ?_
    refine lv_if_lt (tgt := 22) hx hb dX0_isBlobWord_9 (by decide) (fun c9 => ?_) (fun c9 => ?_)
    · skip
      refine lv_iconst (v := 0) hx hb dX0_isBlobWord_22 (by decide) ?_
      exact W.zret (v := (0 : Int32)) hx hb hr rfl (fun t ht hW => ⟨_, rfl, (by simp only [X_isBlobWord, if_neg c5, if_pos c9] <;> rfl), ht⟩) (fun _ h => by cases h) dX0_isBlobWord_23
    · skip
      refine lv_iload_n hx hb dX0_isBlobWord_12 rfl (lv_at hl 2 rfl) ?_
      refine lv_bipush (v := 6) hx hb dX0_isBlobWord_13 (by decide) ?_
      refine lv_icmp_ge (tgt := 22) hx hb dX0_isBlobWord_15 (by decide) (fun c15 => ?_) (fun c15 => ?_)
      · skip
        refine lv_iconst (v := 0) hx hb dX0_isBlobWord_22 (by decide) ?_
        exact W.zret (v := (0 : Int32)) hx hb hr rfl (fun t ht hW => ⟨_, rfl, (by simp only [X_isBlobWord, if_neg c5, if_neg c9, if_pos c15] <;> rfl), ht⟩) (fun _ h => by cases h) dX0_isBlobWord_23
      · skip
        refine lv_iconst (v := 1) hx hb dX0_isBlobWord_18 (by decide) ?_
        refine lv_goto (tgt := 23) hx hb dX0_isBlobWord_19 (by decide) ?_
        exact W.zret (v := (1 : Int32)) hx hb hr rfl (fun t ht hW => ⟨_, rfl, (by simp only [X_isBlobWord, if_neg c5, if_neg c9, if_neg c15] <;> rfl), ht⟩) (fun _ h => by cases h) dX0_isBlobWord_23
set_option maxHeartbeats 4000000 in
set_option maxRecDepth 100000 in
theorem c_X0_isLocked (l : Launch) (dC : Nat → ClassId) (dI : Nat → Nat → Nat) (ad : Nat → Nat) (cL cZ cO : ClassId) (S : SX)   : Met l yX0_isLocked wsX0_isLocked ({ frames := 0, cells := 0, slots := 0, locals := 0 }) (va_Pc [.ref (ad 0)] (fun U => va_P (dC, dI) vwCl (wX ad cL cZ cO S) U.heap ∧ va_K (dC, dI) vwCl (tyX cL cZ cO) U)) (vp_Si (fun r => r = X_isLocked S )) 0 0 (fun _ => False) := by
  refine Met.ofW (cc := cX0_isLocked) (maxL := 1) (ret := (some .boolean)) (by decide) rfl ?_
  intro p e s m args below meth c s₁ B hml hv
  obtain ⟨rfl, hP, hK⟩ := hv
  have hx := B.exec
  have hb := B.bytes
  have hr := B.returns
  have hts := atoms_spec (ws := wsX0_isLocked) B.pre
  have hown : s.vm.findClass RX0 = some m.cls := findClass_of_methodNamed B.named
  have hlocks := B.notSynchronized
  have hin : ∀ w ∈ wsX00, w ∈ wsX0_isLocked := fun _ h => List.mem_cons_of_mem _ (List.mem_append_right _ h)
  have hl := lv_entry ([.ref (ad 0)]) (n := 1) (Nat.le_of_ble_eq_true rfl)
  rw [lg_entry_eq]
  generalize (lg_sl ([.ref (ad 0)]) ++ List.replicate (1 - (lg_sl ([.ref (ad 0)])).length) Slot.unset).toArray = ls at hl ⊢
  have hl : lv_has ls 1 [(0, .ref (ad 0))] := hl
  refine lv_aload_n hx hb dX0_isLocked_0 rfl (lv_at hl 0 rfl) ?_
  refine g_x_fa hx hb hts hin hown hK hP (hts (.fieldLink RX0 129 RX0 "failures" "I") (by decide +kernel)) dX0_isLocked_1 ?_
  refine lv_iconst (v := 3) hx hb dX0_isLocked_4 (by decide) ?_
  refine lv_icmp_lt (tgt := 12) hx hb dX0_isLocked_5 (by decide) (fun c5 => ?_) (fun c5 => ?_)
  · skip
    refine lv_iconst (v := 0) hx hb dX0_isLocked_12 (by decide) ?_
    exact W.zret (v := (0 : Int32)) hx hb hr rfl (fun t ht hW => ⟨_, rfl, (by simp only [X_isLocked, if_pos c5] <;> rfl), ht⟩) (fun _ h => by cases h) dX0_isLocked_13
  · skip
    refine lv_iconst (v := 1) hx hb dX0_isLocked_8 (by decide) ?_
    refine lv_goto (tgt := 13) hx hb dX0_isLocked_9 (by decide) ?_
    exact W.zret (v := (1 : Int32)) hx hb hr rfl (fun t ht hW => ⟨_, rfl, (by simp only [X_isLocked, if_neg c5] <;> rfl), ht⟩) (fun _ h => by cases h) dX0_isLocked_13
set_option maxHeartbeats 4000000 in
set_option maxRecDepth 100000 in
theorem c_X0_output (l : Launch) (dC : Nat → ClassId) (dI : Nat → Nat → Nat) (ad : Nat → Nat) (cL cZ cO : ClassId) (S : SX)   : Met l yX0_output wsX0_output ({ frames := 0, cells := 0, slots := 0, locals := 0 }) (va_Pc [.ref (ad 0)] (fun U => va_P (dC, dI) vwCl (wX ad cL cZ cO S) U.heap ∧ va_K (dC, dI) vwCl (tyX cL cZ cO) U)) (vp_Sl (fun r => r = x_ou S )) 0 0 (fun _ => False) := by
  refine Met.ofW (cc := cX0_output) (maxL := 1) (ret := (some .long)) (by decide) rfl ?_
  intro p e s m args below meth c s₁ B hml hv
  obtain ⟨rfl, hP, hK⟩ := hv
  have hx := B.exec
  have hb := B.bytes
  have hr := B.returns
  have hts := atoms_spec (ws := wsX0_output) B.pre
  have hown : s.vm.findClass RX0 = some m.cls := findClass_of_methodNamed B.named
  have hlocks := B.notSynchronized
  have hin : ∀ w ∈ wsX00, w ∈ wsX0_output := fun _ h => List.mem_cons_of_mem _ (List.mem_append_right _ h)
  have hl := lv_entry ([.ref (ad 0)]) (n := 1) (Nat.le_of_ble_eq_true rfl)
  rw [lg_entry_eq]
  generalize (lg_sl ([.ref (ad 0)]) ++ List.replicate (1 - (lg_sl ([.ref (ad 0)])).length) Slot.unset).toArray = ls at hl ⊢
  have hl : lv_has ls 1 [(0, .ref (ad 0))] := hl
  refine lv_aload_n hx hb dX0_output_0 rfl (lv_at hl 0 rfl) ?_
  refine g_x_ou hx hb hts hin hown hK hP (hts (.fieldLink RX0 115 RX0 "output" "J") (by decide +kernel)) dX0_output_1 ?_
  exact W.lret (v := (x_ou S)) hx hb hr (fun t ht hW => ⟨_, rfl, rfl, ht⟩) (fun _ h => by cases h) dX0_output_4
set_option maxHeartbeats 4000000 in
set_option maxRecDepth 100000 in
theorem c_X0_failures (l : Launch) (dC : Nat → ClassId) (dI : Nat → Nat → Nat) (ad : Nat → Nat) (cL cZ cO : ClassId) (S : SX)   : Met l yX0_failures wsX0_failures ({ frames := 0, cells := 0, slots := 0, locals := 0 }) (va_Pc [.ref (ad 0)] (fun U => va_P (dC, dI) vwCl (wX ad cL cZ cO S) U.heap ∧ va_K (dC, dI) vwCl (tyX cL cZ cO) U)) (vp_Si (fun r => r = x_fa S )) 0 0 (fun _ => False) := by
  refine Met.ofW (cc := cX0_failures) (maxL := 1) (ret := (some .int)) (by decide) rfl ?_
  intro p e s m args below meth c s₁ B hml hv
  obtain ⟨rfl, hP, hK⟩ := hv
  have hx := B.exec
  have hb := B.bytes
  have hr := B.returns
  have hts := atoms_spec (ws := wsX0_failures) B.pre
  have hown : s.vm.findClass RX0 = some m.cls := findClass_of_methodNamed B.named
  have hlocks := B.notSynchronized
  have hin : ∀ w ∈ wsX00, w ∈ wsX0_failures := fun _ h => List.mem_cons_of_mem _ (List.mem_append_right _ h)
  have hl := lv_entry ([.ref (ad 0)]) (n := 1) (Nat.le_of_ble_eq_true rfl)
  rw [lg_entry_eq]
  generalize (lg_sl ([.ref (ad 0)]) ++ List.replicate (1 - (lg_sl ([.ref (ad 0)])).length) Slot.unset).toArray = ls at hl ⊢
  have hl : lv_has ls 1 [(0, .ref (ad 0))] := hl
  refine lv_aload_n hx hb dX0_failures_0 rfl (lv_at hl 0 rfl) ?_
  refine g_x_fa hx hb hts hin hown hK hP (hts (.fieldLink RX0 129 RX0 "failures" "I") (by decide +kernel)) dX0_failures_1 ?_
  exact W.iret (v := (x_fa S)) hx hb hr (fun t ht hW => ⟨_, rfl, rfl, ht⟩) (fun _ h => by cases h) dX0_failures_4
set_option maxHeartbeats 4000000 in
set_option maxRecDepth 100000 in
theorem c_X0_register (l : Launch) (dC : Nat → ClassId) (dI : Nat → Nat → Nat) (ad : Nat → Nat) (cL cZ cO : ClassId) (S : SX) (q : Int32)  : Met l yX0_register wsX0_register ({ frames := 1, cells := 0, slots := 0, locals := 20 }) (va_Pc [.ref (ad 0), .int q] (fun U => va_P (dC, dI) vwCl (wX ad cL cZ cO S) U.heap ∧ va_K (dC, dI) vwCl (tyX cL cZ cO) U)) (vp_Sl (fun r => r = X_register S q)) 0 0 (fun _ => False) := by
  refine Met.ofW (cc := cX0_register) (maxL := 2) (ret := (some .long)) (by decide) rfl ?_
  intro p e s m args below meth c s₁ B hml hv
  obtain ⟨rfl, hP, hK⟩ := hv
  have hx := B.exec
  have hb := B.bytes
  have hr := B.returns
  have hts := atoms_spec (ws := wsX0_register) B.pre
  have hown : s.vm.findClass RX0 = some m.cls := findClass_of_methodNamed B.named
  have hlocks := B.notSynchronized
  have hin : ∀ w ∈ wsX00, w ∈ wsX0_register := fun _ h => List.mem_cons_of_mem _ (List.mem_append_right _ h)
  have hl := lv_entry ([.ref (ad 0), .int q]) (n := 2) (Nat.le_of_ble_eq_true rfl)
  rw [lg_entry_eq]
  generalize (lg_sl ([.ref (ad 0), .int q]) ++ List.replicate (2 - (lg_sl ([.ref (ad 0), .int q])).length) Slot.unset).toArray = ls at hl ⊢
  have hl : lv_has ls 2 [(0, .ref (ad 0)), (1, .int q)] := hl
  refine lv_iload_n hx hb dX0_register_0 rfl (lv_at hl 1 rfl) ?_
  refine vp_callSi (va_Run.run (va_runS (As := [.int q]) (rest := []) ⟨hx, hb, hml, hown, hts⟩ (c_X0_isRegister l q ) (va_cwS 1 hts gX0_register_X0_isRegister rfl rfl rfl (by decide +kernel) ⟨Nat.le_of_ble_eq_true rfl, Nat.le_of_ble_eq_true rfl⟩) (xpS_n _) rfl rfl hl.1 rfl (lv_room (Nat.le_of_ble_eq_true rfl)) dX0_register_1 ⟨Nat.le_of_ble_eq_true rfl, Nat.le_of_ble_eq_true rfl⟩)) (fun r hr9 => ?_)
  subst hr9
  refine lv_if_eq (tgt := 16) hx hb dX0_register_4 (by decide) (fun c4 => ?_) (fun c4 => ?_)
  · skip
    refine lv_lconst (v := 0) hx hb dX0_register_16 (by decide) ?_
    exact W.lret (v := (0 : Int64)) hx hb hr (fun t ht hW => ⟨_, rfl, (by simp only [X_register, if_pos c4] <;> rfl), ht⟩) (fun _ h => by cases h) dX0_register_17
  · skip
    have hq := X_isRegister_in c4
    refine lv_aload_n hx hb dX0_register_7 rfl (lv_at hl 0 rfl) ?_
    refine g_x_arg hx hb hts hin hown hK hP (hts (.fieldLink RX0 17 RX0 "registers" "[J") (by decide +kernel)) dX0_register_8 ?_
    refine lv_iload_n hx hb dX0_register_11 rfl (lv_at hl 1 rfl) ?_
    refine l_x_rg hx hb hK hP (xat_self hq) dX0_register_12 ?_
    refine lv_goto (tgt := 17) hx hb dX0_register_13 (by decide) ?_
    exact W.lret (v := (x_rg S q.toNatClampNeg)) hx hb hr (fun t ht hW => ⟨_, rfl, (by simp only [X_register, if_neg c4] <;> rfl), ht⟩) (fun _ h => by cases h) dX0_register_17
set_option maxHeartbeats 4000000 in
set_option maxRecDepth 100000 in
theorem c_X0_name (l : Launch) (dC : Nat → ClassId) (dI : Nat → Nat → Nat) (ad : Nat → Nat) (cL cZ cO : ClassId) (S : SX) (q : Int32)  : Met l yX0_name wsX0_name ({ frames := 1, cells := 0, slots := 0, locals := 21 }) (va_Pc [.ref (ad 0), .int q] (fun U => va_P (dC, dI) vwCl (wX ad cL cZ cO S) U.heap ∧ va_K (dC, dI) vwCl (tyX cL cZ cO) U)) (vp_Sl (fun r => r = X_name S q)) 0 0 (fun _ => False) := by
  refine Met.ofW (cc := cX0_name) (maxL := 2) (ret := (some .long)) (by decide) rfl ?_
  intro p e s m args below meth c s₁ B hml hv
  obtain ⟨rfl, hP, hK⟩ := hv
  have hx := B.exec
  have hb := B.bytes
  have hr := B.returns
  have hts := atoms_spec (ws := wsX0_name) B.pre
  have hown : s.vm.findClass RX0 = some m.cls := findClass_of_methodNamed B.named
  have hlocks := B.notSynchronized
  have hin : ∀ w ∈ wsX00, w ∈ wsX0_name := fun _ h => List.mem_cons_of_mem _ (List.mem_append_right _ h)
  have hl := lv_entry ([.ref (ad 0), .int q]) (n := 2) (Nat.le_of_ble_eq_true rfl)
  rw [lg_entry_eq]
  generalize (lg_sl ([.ref (ad 0), .int q]) ++ List.replicate (2 - (lg_sl ([.ref (ad 0), .int q])).length) Slot.unset).toArray = ls at hl ⊢
  have hl : lv_has ls 2 [(0, .ref (ad 0)), (1, .int q)] := hl
  refine lv_aload_n hx hb dX0_name_0 rfl (lv_at hl 0 rfl) ?_
  refine lv_iload_n hx hb dX0_name_1 rfl (lv_at hl 1 rfl) ?_
  refine vp_callSi (va_Run.run (va_runV (As := [.int q]) (rest := []) ⟨hx, hb, hml, hown, hts⟩ (c_X0_isKey l dC dI ad cL cZ cO S q ) (cwV 1 hts gX0_name_X0_isKey rfl rfl rfl (by decide +kernel) ⟨Nat.le_of_ble_eq_true rfl, Nat.le_of_ble_eq_true rfl⟩) (xpV_r [.int q] hK hP (va_recv hK hP (ci := 0) (q0 := 0) rfl rfl)) rfl rfl hl.1 rfl (lv_room (Nat.le_of_ble_eq_true rfl)) dX0_name_2 ⟨Nat.le_of_ble_eq_true rfl, Nat.le_of_ble_eq_true rfl⟩)) (fun r hr9 => ?_)
  subst hr9
  refine lv_if_eq (tgt := 17) hx hb dX0_name_5 (by decide) (fun c5 => ?_) (fun c5 => ?_)
  · skip
    refine lv_lconst (v := 0) hx hb dX0_name_17 (by decide) ?_
    exact W.lret (v := (0 : Int64)) hx hb hr (fun t ht hW => ⟨_, rfl, (by simp only [X_name, if_pos c5] <;> rfl), ht⟩) (fun _ h => by cases h) dX0_name_18
  · skip
    have hq := X_isKey_in c5
    refine lv_aload_n hx hb dX0_name_8 rfl (lv_at hl 0 rfl) ?_
    refine g_x_akn hx hb hts hin hown hK hP (hts (.fieldLink RX0 28 RX0 "keyNames" "[J") (by decide +kernel)) dX0_name_9 ?_
    refine lv_iload_n hx hb dX0_name_12 rfl (lv_at hl 1 rfl) ?_
    refine l_x_kn hx hb hK hP (xat_self hq) dX0_name_13 ?_
    refine lv_goto (tgt := 18) hx hb dX0_name_14 (by decide) ?_
    exact W.lret (v := (x_kn S q.toNatClampNeg)) hx hb hr (fun t ht hW => ⟨_, rfl, (by simp only [X_name, if_neg c5] <;> rfl), ht⟩) (fun _ h => by cases h) dX0_name_18
set_option maxHeartbeats 4000000 in
set_option maxRecDepth 100000 in
theorem c_X0_nonce (l : Launch) (dC : Nat → ClassId) (dI : Nat → Nat → Nat) (ad : Nat → Nat) (cL cZ cO : ClassId) (S : SX) (q : Int32)  : Met l yX0_nonce wsX0_nonce ({ frames := 1, cells := 0, slots := 0, locals := 21 }) (va_Pc [.ref (ad 0), .int q] (fun U => va_P (dC, dI) vwCl (wX ad cL cZ cO S) U.heap ∧ va_K (dC, dI) vwCl (tyX cL cZ cO) U)) (vp_Sl (fun r => r = X_nonce S q)) 0 0 (fun _ => False) := by
  refine Met.ofW (cc := cX0_nonce) (maxL := 2) (ret := (some .long)) (by decide) rfl ?_
  intro p e s m args below meth c s₁ B hml hv
  obtain ⟨rfl, hP, hK⟩ := hv
  have hx := B.exec
  have hb := B.bytes
  have hr := B.returns
  have hts := atoms_spec (ws := wsX0_nonce) B.pre
  have hown : s.vm.findClass RX0 = some m.cls := findClass_of_methodNamed B.named
  have hlocks := B.notSynchronized
  have hin : ∀ w ∈ wsX00, w ∈ wsX0_nonce := fun _ h => List.mem_cons_of_mem _ (List.mem_append_right _ h)
  have hl := lv_entry ([.ref (ad 0), .int q]) (n := 2) (Nat.le_of_ble_eq_true rfl)
  rw [lg_entry_eq]
  generalize (lg_sl ([.ref (ad 0), .int q]) ++ List.replicate (2 - (lg_sl ([.ref (ad 0), .int q])).length) Slot.unset).toArray = ls at hl ⊢
  have hl : lv_has ls 2 [(0, .ref (ad 0)), (1, .int q)] := hl
  refine lv_aload_n hx hb dX0_nonce_0 rfl (lv_at hl 0 rfl) ?_
  refine lv_iload_n hx hb dX0_nonce_1 rfl (lv_at hl 1 rfl) ?_
  refine vp_callSi (va_Run.run (va_runV (As := [.int q]) (rest := []) ⟨hx, hb, hml, hown, hts⟩ (c_X0_isSession l dC dI ad cL cZ cO S q ) (cwV 1 hts gX0_nonce_X0_isSession rfl rfl rfl (by decide +kernel) ⟨Nat.le_of_ble_eq_true rfl, Nat.le_of_ble_eq_true rfl⟩) (xpV_r [.int q] hK hP (va_recv hK hP (ci := 0) (q0 := 0) rfl rfl)) rfl rfl hl.1 rfl (lv_room (Nat.le_of_ble_eq_true rfl)) dX0_nonce_2 ⟨Nat.le_of_ble_eq_true rfl, Nat.le_of_ble_eq_true rfl⟩)) (fun r hr9 => ?_)
  subst hr9
  refine lv_if_eq (tgt := 17) hx hb dX0_nonce_5 (by decide) (fun c5 => ?_) (fun c5 => ?_)
  · skip
    refine lv_lconst (v := 0) hx hb dX0_nonce_17 (by decide) ?_
    exact W.lret (v := (0 : Int64)) hx hb hr (fun t ht hW => ⟨_, rfl, (by simp only [X_nonce, if_pos c5] <;> rfl), ht⟩) (fun _ h => by cases h) dX0_nonce_18
  · skip
    have hq := X_isSession_in c5
    refine lv_aload_n hx hb dX0_nonce_8 rfl (lv_at hl 0 rfl) ?_
    refine g_x_amn hx hb hts hin hown hK hP (hts (.fieldLink RX0 37 RX0 "machineNonces" "[J") (by decide +kernel)) dX0_nonce_9 ?_
    refine lv_iload_n hx hb dX0_nonce_12 rfl (lv_at hl 1 rfl) ?_
    refine l_x_mn hx hb hK hP (xat_self hq) dX0_nonce_13 ?_
    refine lv_goto (tgt := 18) hx hb dX0_nonce_14 (by decide) ?_
    exact W.lret (v := (x_mn S q.toNatClampNeg)) hx hb hr (fun t ht hW => ⟨_, rfl, (by simp only [X_nonce, if_neg c5] <;> rfl), ht⟩) (fun _ h => by cases h) dX0_nonce_18
set_option maxHeartbeats 4000000 in
set_option maxRecDepth 100000 in
theorem c_X0_cover (l : Launch) (dC : Nat → ClassId) (dI : Nat → Nat → Nat) (ad : Nat → Nat) (cL cZ cO : ClassId) (S : SX) (sa : Int64) (dg : Int64)  : Met l yX0_cover wsX0_cover ({ frames := 1, cells := 0, slots := 0, locals := 25 }) (va_Pc [.ref (ad 0), .long sa, .long dg] (fun U => va_P (dC, dI) vwCl (wX ad cL cZ cO S) U.heap ∧ va_K (dC, dI) vwCl (tyX cL cZ cO) U)) (vp_Sl (fun r => r = X_cover S sa dg)) 0 0 (fun _ => False) := by
  refine Met.ofW (cc := cX0_cover) (maxL := 5) (ret := (some .long)) (by decide) rfl ?_
  intro p e s m args below meth c s₁ B hml hv
  obtain ⟨rfl, hP, hK⟩ := hv
  have hx := B.exec
  have hb := B.bytes
  have hr := B.returns
  have hts := atoms_spec (ws := wsX0_cover) B.pre
  have hown : s.vm.findClass RX0 = some m.cls := findClass_of_methodNamed B.named
  have hlocks := B.notSynchronized
  have hin : ∀ w ∈ wsX00, w ∈ wsX0_cover := fun _ h => List.mem_cons_of_mem _ (List.mem_append_right _ h)
  have hl := lv_entry ([.ref (ad 0), .long sa, .long dg]) (n := 5) (Nat.le_of_ble_eq_true rfl)
  rw [lg_entry_eq]
  generalize (lg_sl ([.ref (ad 0), .long sa, .long dg]) ++ List.replicate (5 - (lg_sl ([.ref (ad 0), .long sa, .long dg])).length) Slot.unset).toArray = ls at hl ⊢
  have hl : lv_has ls 5 [(0, .ref (ad 0)), (1, .long sa), (3, .long dg)] := hl
  refine lv_ldc2 (v := 3) hx hb hown (hts (.constantLong RX0 153 (3)) (by decide +kernel)) dX0_cover_0 ?_
  refine lv_aload_n hx hb dX0_cover_3 rfl (lv_at hl 0 rfl) ?_
  refine g_x_m hx hb hts hin hown hK hP (hts (.fieldLink RX0 13 RX0 "machineSecret" "J") (by decide +kernel)) dX0_cover_4 ?_
  refine vp_callSl (va_Run.run (va_runS (As := [.long (3 : Int64), .long (x_m S)]) (rest := []) ⟨hx, hb, hml, hown, hts⟩ (c_X0_fold l (3 : Int64) (x_m S) ) (va_cwS 2 hts gX0_cover_X0_fold rfl rfl rfl (by decide +kernel) ⟨Nat.le_of_ble_eq_true rfl, Nat.le_of_ble_eq_true rfl⟩) (xpS_n _) rfl rfl hl.1 rfl (lv_room (Nat.le_of_ble_eq_true rfl)) dX0_cover_7 ⟨Nat.le_of_ble_eq_true rfl, Nat.le_of_ble_eq_true rfl⟩)) (fun r hr9 => ?_)
  subst hr9
  refine lv_lload_n hx hb dX0_cover_10 rfl (lv_at hl 1 rfl) ?_
  refine vp_callSl (va_Run.run (va_runS (As := [.long (fo (3 : Int64) (x_m S)), .long sa]) (rest := []) ⟨hx, hb, hml, hown, hts⟩ (c_X0_fold l (fo (3 : Int64) (x_m S)) sa ) (va_cwS 2 hts gX0_cover_X0_fold rfl rfl rfl (by decide +kernel) ⟨Nat.le_of_ble_eq_true rfl, Nat.le_of_ble_eq_true rfl⟩) (xpS_n _) rfl rfl hl.1 rfl (lv_room (Nat.le_of_ble_eq_true rfl)) dX0_cover_11 ⟨Nat.le_of_ble_eq_true rfl, Nat.le_of_ble_eq_true rfl⟩)) (fun r hr9 => ?_)
  subst hr9
  refine lv_lload_n hx hb dX0_cover_14 rfl (lv_at hl 2 rfl) ?_
  refine vp_callSl (va_Run.run (va_runS (As := [.long (fo (fo (3 : Int64) (x_m S)) sa), .long dg]) (rest := []) ⟨hx, hb, hml, hown, hts⟩ (c_X0_fold l (fo (fo (3 : Int64) (x_m S)) sa) dg ) (va_cwS 2 hts gX0_cover_X0_fold rfl rfl rfl (by decide +kernel) ⟨Nat.le_of_ble_eq_true rfl, Nat.le_of_ble_eq_true rfl⟩) (xpS_n _) rfl rfl hl.1 rfl (lv_room (Nat.le_of_ble_eq_true rfl)) dX0_cover_15 ⟨Nat.le_of_ble_eq_true rfl, Nat.le_of_ble_eq_true rfl⟩)) (fun r hr9 => ?_)
  subst hr9
  exact W.lret (v := (fo (fo (fo (3 : Int64) (x_m S)) sa) dg)) hx hb hr (fun t ht hW => ⟨_, rfl, rfl, ht⟩) (fun _ h => by cases h) dX0_cover_18
set_option maxHeartbeats 4000000 in
set_option maxRecDepth 100000 in
theorem c_X0_rightProof (l : Launch) (dC : Nat → ClassId) (dI : Nat → Nat → Nat) (ad : Nat → Nat) (cL cZ cO : ClassId) (S : SX) (k : Int64) (q : Int32) (cm : Int32) (pa : Int64) (hq : vp_in q 4) : Met l yX0_rightProof wsX0_rightProof ({ frames := 3, cells := 0, slots := 0, locals := 71 }) (va_Pc [.ref (ad 0), .long k, .int q, .int cm, .long pa] (fun U => va_P (dC, dI) vwCl (wX ad cL cZ cO S) U.heap ∧ va_K (dC, dI) vwCl (tyX cL cZ cO) U)) (vp_Sl (fun r => r = X_rightProof S k q cm pa)) 0 0 (fun _ => False) := by
  refine Met.ofW (cc := cX0_rightProof) (maxL := 9) (ret := (some .long)) (by decide) rfl ?_
  intro p e s m args below meth c s₁ B hml hv
  obtain ⟨rfl, hP, hK⟩ := hv
  have hx := B.exec
  have hb := B.bytes
  have hr := B.returns
  have hts := atoms_spec (ws := wsX0_rightProof) B.pre
  have hown : s.vm.findClass RX0 = some m.cls := findClass_of_methodNamed B.named
  have hlocks := B.notSynchronized
  have hin : ∀ w ∈ wsX00, w ∈ wsX0_rightProof := fun _ h => List.mem_cons_of_mem _ (List.mem_append_right _ h)
  have hl := lv_entry ([.ref (ad 0), .long k, .int q, .int cm, .long pa]) (n := 9) (Nat.le_of_ble_eq_true rfl)
  rw [lg_entry_eq]
  generalize (lg_sl ([.ref (ad 0), .long k, .int q, .int cm, .long pa]) ++ List.replicate (9 - (lg_sl ([.ref (ad 0), .long k, .int q, .int cm, .long pa])).length) Slot.unset).toArray = ls at hl ⊢
  have hl : lv_has ls 9 [(0, .ref (ad 0)), (1, .long k), (3, .int q), (4, .int cm), (5, .long pa)] := hl
  refine lv_lload_n hx hb dX0_rightProof_0 rfl (lv_at hl 1 rfl) ?_
  refine lv_iconst (v := 4) hx hb dX0_rightProof_1 (by decide) ?_
  refine vp_callSl (va_Run.run (va_runS (As := [.long k, .int (4 : Int32)]) (rest := []) ⟨hx, hb, hml, hown, hts⟩ (c_X0_macBegin l k (4 : Int32) ) (va_cwS 2 hts gX0_rightProof_X0_macBegin rfl rfl rfl (by decide +kernel) ⟨Nat.le_of_ble_eq_true rfl, Nat.le_of_ble_eq_true rfl⟩) (xpS_n _) rfl rfl hl.1 rfl (lv_room (Nat.le_of_ble_eq_true rfl)) dX0_rightProof_2 ⟨Nat.le_of_ble_eq_true rfl, Nat.le_of_ble_eq_true rfl⟩)) (fun r hr9 => ?_)
  subst hr9
  refine lv_lstore (lv' := [(7, .long (mB k (4 : Int32))), (0, .ref (ad 0)), (1, .long k), (3, .int q), (4, .int cm), (5, .long pa)]) hx hb dX0_rightProof_5 hl (by decide) rfl (fun ls hl => ?_)
  refine lv_lload hx hb dX0_rightProof_7 (lv_at hl 0 rfl) ?_
  refine lv_aload_n hx hb dX0_rightProof_9 rfl (lv_at hl 1 rfl) ?_
  refine g_x_amn hx hb hts hin hown hK hP (hts (.fieldLink RX0 37 RX0 "machineNonces" "[J") (by decide +kernel)) dX0_rightProof_10 ?_
  refine lv_iload_n hx hb dX0_rightProof_13 rfl (lv_at hl 3 rfl) ?_
  refine l_x_mn hx hb hK hP (xat_self hq) dX0_rightProof_14 ?_
  refine vp_callSl (va_Run.run (va_runS (As := [.long (mB k (4 : Int32)), .long (x_mn S q.toNatClampNeg)]) (rest := []) ⟨hx, hb, hml, hown, hts⟩ (c_X0_fold l (mB k (4 : Int32)) (x_mn S q.toNatClampNeg) ) (va_cwS 2 hts gX0_rightProof_X0_fold rfl rfl rfl (by decide +kernel) ⟨Nat.le_of_ble_eq_true rfl, Nat.le_of_ble_eq_true rfl⟩) (xpS_n _) rfl rfl hl.1 rfl (lv_room (Nat.le_of_ble_eq_true rfl)) dX0_rightProof_15 ⟨Nat.le_of_ble_eq_true rfl, Nat.le_of_ble_eq_true rfl⟩)) (fun r hr9 => ?_)
  subst hr9
  refine lv_lstore (lv' := [(7, .long (fo (mB k (4 : Int32)) (x_mn S q.toNatClampNeg))), (0, .ref (ad 0)), (1, .long k), (3, .int q), (4, .int cm), (5, .long pa)]) hx hb dX0_rightProof_18 hl (by decide) rfl (fun ls hl => ?_)
  refine lv_lload hx hb dX0_rightProof_20 (lv_at hl 0 rfl) ?_
  refine lv_aload_n hx hb dX0_rightProof_22 rfl (lv_at hl 1 rfl) ?_
  refine g_x_acn hx hb hts hin hown hK hP (hts (.fieldLink RX0 34 RX0 "callerNonces" "[J") (by decide +kernel)) dX0_rightProof_23 ?_
  refine lv_iload_n hx hb dX0_rightProof_26 rfl (lv_at hl 3 rfl) ?_
  refine l_x_cn hx hb hK hP (xat_self hq) dX0_rightProof_27 ?_
  refine vp_callSl (va_Run.run (va_runS (As := [.long (fo (mB k (4 : Int32)) (x_mn S q.toNatClampNeg)), .long (x_cn S q.toNatClampNeg)]) (rest := []) ⟨hx, hb, hml, hown, hts⟩ (c_X0_fold l (fo (mB k (4 : Int32)) (x_mn S q.toNatClampNeg)) (x_cn S q.toNatClampNeg) ) (va_cwS 2 hts gX0_rightProof_X0_fold rfl rfl rfl (by decide +kernel) ⟨Nat.le_of_ble_eq_true rfl, Nat.le_of_ble_eq_true rfl⟩) (xpS_n _) rfl rfl hl.1 rfl (lv_room (Nat.le_of_ble_eq_true rfl)) dX0_rightProof_28 ⟨Nat.le_of_ble_eq_true rfl, Nat.le_of_ble_eq_true rfl⟩)) (fun r hr9 => ?_)
  subst hr9
  refine lv_lstore (lv' := [(7, .long (fo (fo (mB k (4 : Int32)) (x_mn S q.toNatClampNeg)) (x_cn S q.toNatClampNeg))), (0, .ref (ad 0)), (1, .long k), (3, .int q), (4, .int cm), (5, .long pa)]) hx hb dX0_rightProof_31 hl (by decide) rfl (fun ls hl => ?_)
  refine lv_lload hx hb dX0_rightProof_33 (lv_at hl 0 rfl) ?_
  refine lv_iload hx hb dX0_rightProof_35 (lv_at hl 4 rfl) ?_
  refine lv_i2l hx hb dX0_rightProof_37 rfl ?_
  refine vp_callSl (va_Run.run (va_runS (As := [.long (fo (fo (mB k (4 : Int32)) (x_mn S q.toNatClampNeg)) (x_cn S q.toNatClampNeg)), .long cm.toInt64]) (rest := []) ⟨hx, hb, hml, hown, hts⟩ (c_X0_fold l (fo (fo (mB k (4 : Int32)) (x_mn S q.toNatClampNeg)) (x_cn S q.toNatClampNeg)) cm.toInt64 ) (va_cwS 2 hts gX0_rightProof_X0_fold rfl rfl rfl (by decide +kernel) ⟨Nat.le_of_ble_eq_true rfl, Nat.le_of_ble_eq_true rfl⟩) (xpS_n _) rfl rfl hl.1 rfl (lv_room (Nat.le_of_ble_eq_true rfl)) dX0_rightProof_38 ⟨Nat.le_of_ble_eq_true rfl, Nat.le_of_ble_eq_true rfl⟩)) (fun r hr9 => ?_)
  subst hr9
  refine lv_lstore (lv' := [(7, .long (fo (fo (fo (mB k (4 : Int32)) (x_mn S q.toNatClampNeg)) (x_cn S q.toNatClampNeg)) cm.toInt64)), (0, .ref (ad 0)), (1, .long k), (3, .int q), (4, .int cm), (5, .long pa)]) hx hb dX0_rightProof_41 hl (by decide) rfl (fun ls hl => ?_)
  refine lv_lload hx hb dX0_rightProof_43 (lv_at hl 0 rfl) ?_
  refine lv_lload hx hb dX0_rightProof_45 (lv_at hl 5 rfl) ?_
  refine vp_callSl (va_Run.run (va_runS (As := [.long (fo (fo (fo (mB k (4 : Int32)) (x_mn S q.toNatClampNeg)) (x_cn S q.toNatClampNeg)) cm.toInt64), .long pa]) (rest := []) ⟨hx, hb, hml, hown, hts⟩ (c_X0_fold l (fo (fo (fo (mB k (4 : Int32)) (x_mn S q.toNatClampNeg)) (x_cn S q.toNatClampNeg)) cm.toInt64) pa ) (va_cwS 2 hts gX0_rightProof_X0_fold rfl rfl rfl (by decide +kernel) ⟨Nat.le_of_ble_eq_true rfl, Nat.le_of_ble_eq_true rfl⟩) (xpS_n _) rfl rfl hl.1 rfl (lv_room (Nat.le_of_ble_eq_true rfl)) dX0_rightProof_47 ⟨Nat.le_of_ble_eq_true rfl, Nat.le_of_ble_eq_true rfl⟩)) (fun r hr9 => ?_)
  subst hr9
  refine lv_lstore (lv' := [(7, .long (fo (fo (fo (fo (mB k (4 : Int32)) (x_mn S q.toNatClampNeg)) (x_cn S q.toNatClampNeg)) cm.toInt64) pa)), (0, .ref (ad 0)), (1, .long k), (3, .int q), (4, .int cm), (5, .long pa)]) hx hb dX0_rightProof_50 hl (by decide) rfl (fun ls hl => ?_)
  refine lv_lload_n hx hb dX0_rightProof_52 rfl (lv_at hl 2 rfl) ?_
  refine lv_lload hx hb dX0_rightProof_53 (lv_at hl 0 rfl) ?_
  refine vp_callSl (va_Run.run (va_runS (As := [.long k, .long (fo (fo (fo (fo (mB k (4 : Int32)) (x_mn S q.toNatClampNeg)) (x_cn S q.toNatClampNeg)) cm.toInt64) pa)]) (rest := []) ⟨hx, hb, hml, hown, hts⟩ (c_X0_macEnd l k (fo (fo (fo (fo (mB k (4 : Int32)) (x_mn S q.toNatClampNeg)) (x_cn S q.toNatClampNeg)) cm.toInt64) pa) ) (va_cwS 2 hts gX0_rightProof_X0_macEnd rfl rfl rfl (by decide +kernel) ⟨Nat.le_of_ble_eq_true rfl, Nat.le_of_ble_eq_true rfl⟩) (xpS_n _) rfl rfl hl.1 rfl (lv_room (Nat.le_of_ble_eq_true rfl)) dX0_rightProof_55 ⟨Nat.le_of_ble_eq_true rfl, Nat.le_of_ble_eq_true rfl⟩)) (fun r hr9 => ?_)
  subst hr9
  exact W.lret (v := (mE k (fo (fo (fo (fo (mB k (4 : Int32)) (x_mn S q.toNatClampNeg)) (x_cn S q.toNatClampNeg)) cm.toInt64) pa))) hx hb hr (fun t ht hW => ⟨_, rfl, rfl, ht⟩) (fun _ h => by cases h) dX0_rightProof_58
set_option maxHeartbeats 4000000 in
set_option maxRecDepth 100000 in
theorem c_X0_draw (l : Launch) (dC : Nat → ClassId) (dI : Nat → Nat → Nat) (ad : Nat → Nat) (cL cZ cO : ClassId) (S : SX) (sz : Nat)   : Met l yX0_draw wsX0_draw ({ frames := 2, cells := 0, slots := 0, locals := 48 }) (va_Pc [.ref (ad 0)] (fun U => U.heap.size = sz ∧ va_P (dC, dI) vwCl (wX ad cL cZ cO S) U.heap ∧ va_K (dC, dI) vwCl (tyX cL cZ cO) U ∧ va_D (fun _ => True) (wX ad cL cZ cO S))) (va_Ql (fun r u => r = (X_draw S).1 ∧ u = (X_draw S).2) (xB (dC, dI) (wX ad cL cZ cO) (tyX cL cZ cO) (va_A (wX ad cL cZ cO S) sz)) (va_A (wX ad cL cZ cO S) sz)) 0 0 (va_A (wX ad cL cZ cO S) sz) := by
  refine Met.ofW (cc := cX0_draw) (maxL := 1) (ret := (some .long)) (by decide) rfl ?_
  intro p e s m args below meth c s₁ B hml hv
  obtain ⟨rfl, hsz, hP, hK, hD0⟩ := hv
  have hx := B.exec
  have hb := B.bytes
  have hr := B.returns
  have hts := atoms_spec (ws := wsX0_draw) B.pre
  have hown : s.vm.findClass RX0 = some m.cls := findClass_of_methodNamed B.named
  have hlocks := B.notSynchronized
  have hin : ∀ w ∈ wsX00, w ∈ wsX0_draw := fun _ h => List.mem_cons_of_mem _ (List.mem_append_right _ h)
  subst hsz
  have hD := hD0.self (sz := s.heap.size)
  generalize hAe : va_A (wX ad cL cZ cO S) s.heap.size = A at hD ⊢
  have hA : ∀ q : Nat, s.heap.size ≤ q → A q := fun q h => by rw [← hAe]; exact Or.inr h
  have hS : va_S A s.heap s.heap [] := va_S.rf
  have hl := lv_entry ([.ref (ad 0)]) (n := 1) (Nat.le_of_ble_eq_true rfl)
  rw [lg_entry_eq]
  generalize (lg_sl ([.ref (ad 0)]) ++ List.replicate (1 - (lg_sl ([.ref (ad 0)])).length) Slot.unset).toArray = ls at hl ⊢
  have hl : lv_has ls 1 [(0, .ref (ad 0))] := hl
  refine lv_aload_n hx hb dX0_draw_0 rfl (lv_at hl 0 rfl) ?_
  refine lv_dup hx hb dX0_draw_1 rfl ?_
  refine g_x_dr hx hb hts hin hown hK hP (hts (.fieldLink RX0 134 RX0 "drawn" "J") (by decide +kernel)) dX0_draw_2 ?_
  refine lv_lconst (v := 1) hx hb dX0_draw_5 (by decide) ?_
  refine lv_ladd hx hb dX0_draw_6 ?_
  refine p_x_dr hx hb hts hin hown hK hP hD hS (hts (.fieldLink RX0 134 RX0 "drawn" "J") (by decide +kernel)) dX0_draw_7 (fun H locs hP hD hS => ?_)
  have hP : va_P (dC, dI) vwCl (wX ad cL cZ cO ((X_draw S).2)) H := hP
  have hD : va_D A (wX ad cL cZ cO ((X_draw S).2)) := hD
  refine lv_aload_n hx hb dX0_draw_10 rfl (lv_at hl 0 rfl) ?_
  refine g_x_m hx hb hts hin hown hK hP (hts (.fieldLink RX0 13 RX0 "machineSecret" "J") (by decide +kernel)) dX0_draw_11 ?_
  refine lv_aload_n hx hb dX0_draw_14 rfl (lv_at hl 0 rfl) ?_
  refine g_x_dr hx hb hts hin hown hK hP (hts (.fieldLink RX0 134 RX0 "drawn" "J") (by decide +kernel)) dX0_draw_15 ?_
  refine vp_callSl (va_Run.run (va_runS (As := [.long (x_m ((X_draw S).2)), .long (x_dr ((X_draw S).2))]) (rest := []) ⟨hx, hb, hml, hown, hts⟩ (c_X0_hash2 l (x_m ((X_draw S).2)) (x_dr ((X_draw S).2)) ) (va_cwS 2 hts gX0_draw_X0_hash2 rfl rfl rfl (by decide +kernel) ⟨Nat.le_of_ble_eq_true rfl, Nat.le_of_ble_eq_true rfl⟩) (xpS_n _) rfl rfl hl.1 rfl (lv_room (Nat.le_of_ble_eq_true rfl)) dX0_draw_18 ⟨Nat.le_of_ble_eq_true rfl, Nat.le_of_ble_eq_true rfl⟩)) (fun r hr9 => ?_)
  subst hr9
  exact W.lret (v := (h2 (x_m ((X_draw S).2)) (x_dr ((X_draw S).2)))) hx hb hr (fun t ht hW => ⟨⟨_, (X_draw S).2, rfl, ⟨rfl, rfl⟩, by rw [ht]; exact hP, va_K.moved hW.alike hK, hD⟩, hS.F ht⟩) hS.2.2 dX0_draw_21
end
section
set_option maxHeartbeats 4000000 in
set_option maxRecDepth 100000 in
theorem c_X0_locality (l : Launch) (dC : Nat → ClassId) (dI : Nat → Nat → Nat) (ad : Nat → Nat) (cL cZ cO : ClassId) (S : SX) (sz : Nat) (q : Int32)  : Met l yX0_locality wsX0_locality ({ frames := 0, cells := 0, slots := 0, locals := 0 }) (va_Pc [.ref (ad 0), .int q] (fun U => U.heap.size = sz ∧ va_P (dC, dI) vwCl (wX ad cL cZ cO S) U.heap ∧ va_K (dC, dI) vwCl (tyX cL cZ cO) U ∧ va_D (fun _ => True) (wX ad cL cZ cO S))) (va_Qi (fun r u => r = (X_locality S q).1 ∧ u = (X_locality S q).2) (xB (dC, dI) (wX ad cL cZ cO) (tyX cL cZ cO) (va_A (wX ad cL cZ cO S) sz)) (va_A (wX ad cL cZ cO S) sz)) 0 0 (va_A (wX ad cL cZ cO S) sz) := by
  refine Met.ofW (cc := cX0_locality) (maxL := 2) (ret := (some .boolean)) (by decide) rfl ?_
  intro p e s m args below meth c s₁ B hml hv
  obtain ⟨rfl, hsz, hP, hK, hD0⟩ := hv
  have hx := B.exec
  have hb := B.bytes
  have hr := B.returns
  have hts := atoms_spec (ws := wsX0_locality) B.pre
  have hown : s.vm.findClass RX0 = some m.cls := findClass_of_methodNamed B.named
  have hlocks := B.notSynchronized
  have hin : ∀ w ∈ wsX00, w ∈ wsX0_locality := fun _ h => List.mem_cons_of_mem _ (List.mem_append_right _ h)
  subst hsz
  have hD := hD0.self (sz := s.heap.size)
  generalize hAe : va_A (wX ad cL cZ cO S) s.heap.size = A at hD ⊢
  have hA : ∀ q : Nat, s.heap.size ≤ q → A q := fun q h => by rw [← hAe]; exact Or.inr h
  have hS : va_S A s.heap s.heap [] := va_S.rf
  have hl := lv_entry ([.ref (ad 0), .int q]) (n := 2) (Nat.le_of_ble_eq_true rfl)
  rw [lg_entry_eq]
  generalize (lg_sl ([.ref (ad 0), .int q]) ++ List.replicate (2 - (lg_sl ([.ref (ad 0), .int q])).length) Slot.unset).toArray = ls at hl ⊢
  have hl : lv_has ls 2 [(0, .ref (ad 0)), (1, .int q)] := hl
  refine lv_iload_n hx hb dX0_locality_0 rfl (lv_at hl 1 rfl) ?_
  refine lv_if_lt (tgt := 9) hx hb dX0_locality_1 (by decide) (fun c1 => ?_) (fun c1 => ?_)
  · skip
    refine lv_iconst (v := 0) hx hb dX0_locality_9 (by decide) ?_
    exact W.zret (v := (0 : Int32)) hx hb hr rfl (fun t ht hW => ⟨⟨_, S, rfl, ⟨(by simp only [X_locality, if_pos c1] <;> rfl), (by simp only [X_locality, if_pos c1] <;> rfl)⟩, by rw [ht]; exact hP, va_K.moved hW.alike hK, hD⟩, hS.F ht⟩) hS.2.2 dX0_locality_10
  · skip
    refine lv_iload_n hx hb dX0_locality_4 rfl (lv_at hl 1 rfl) ?_
    refine lv_iconst (v := 3) hx hb dX0_locality_5 (by decide) ?_
    refine lv_icmp_le (tgt := 11) hx hb dX0_locality_6 (by decide) (fun c6 => ?_) (fun c6 => ?_)
    · skip
      refine lv_aload_n hx hb dX0_locality_11 rfl (lv_at hl 0 rfl) ?_
      refine lv_iload_n hx hb dX0_locality_12 rfl (lv_at hl 1 rfl) ?_
      refine p_x_lo hx hb hts hin hown hK hP hD hS (hts (.fieldLink RX0 45 RX0 "locality" "I") (by decide +kernel)) dX0_locality_13 (fun H locs hP hD hS => ?_)
      refine lv_iconst (v := 1) hx hb dX0_locality_16 (by decide) ?_
      exact W.zret (v := (1 : Int32)) hx hb hr rfl (fun t ht hW => ⟨⟨_, (xu_lo S q), rfl, ⟨(by simp only [X_locality, if_neg c1, if_pos c6] <;> rfl), (by simp only [X_locality, if_neg c1, if_pos c6] <;> rfl)⟩, by rw [ht]; exact hP, va_K.moved hW.alike hK, hD⟩, hS.F ht⟩) hS.2.2 dX0_locality_17
    · skip
      refine lv_iconst (v := 0) hx hb dX0_locality_9 (by decide) ?_
      exact W.zret (v := (0 : Int32)) hx hb hr rfl (fun t ht hW => ⟨⟨_, S, rfl, ⟨(by simp only [X_locality, if_neg c1, if_neg c6] <;> rfl), (by simp only [X_locality, if_neg c1, if_neg c6] <;> rfl)⟩, by rw [ht]; exact hP, va_K.moved hW.alike hK, hD⟩, hS.F ht⟩) hS.2.2 dX0_locality_10
set_option maxHeartbeats 4000000 in
set_option maxRecDepth 100000 in
theorem c_X0_present (l : Launch) (dC : Nat → ClassId) (dI : Nat → Nat → Nat) (ad : Nat → Nat) (cL cZ cO : ClassId) (S : SX) (sz : Nat) (v : Int64)  : Met l yX0_present wsX0_present ({ frames := 0, cells := 0, slots := 0, locals := 0 }) (va_Pc [.ref (ad 0), .long v] (fun U => U.heap.size = sz ∧ va_P (dC, dI) vwCl (wX ad cL cZ cO S) U.heap ∧ va_K (dC, dI) vwCl (tyX cL cZ cO) U ∧ va_D (fun _ => True) (wX ad cL cZ cO S))) (va_Qv (fun u => u = xu_pr S v) (xB (dC, dI) (wX ad cL cZ cO) (tyX cL cZ cO) (va_A (wX ad cL cZ cO S) sz)) (va_A (wX ad cL cZ cO S) sz)) 0 0 (va_A (wX ad cL cZ cO S) sz) := by
  refine Met.ofW (cc := cX0_present) (maxL := 3) (ret := none) (by decide) rfl ?_
  intro p e s m args below meth c s₁ B hml hv
  obtain ⟨rfl, hsz, hP, hK, hD0⟩ := hv
  have hx := B.exec
  have hb := B.bytes
  have hr := B.returns
  have hts := atoms_spec (ws := wsX0_present) B.pre
  have hown : s.vm.findClass RX0 = some m.cls := findClass_of_methodNamed B.named
  have hlocks := B.notSynchronized
  have hin : ∀ w ∈ wsX00, w ∈ wsX0_present := fun _ h => List.mem_cons_of_mem _ (List.mem_append_right _ h)
  subst hsz
  have hD := hD0.self (sz := s.heap.size)
  generalize hAe : va_A (wX ad cL cZ cO S) s.heap.size = A at hD ⊢
  have hA : ∀ q : Nat, s.heap.size ≤ q → A q := fun q h => by rw [← hAe]; exact Or.inr h
  have hS : va_S A s.heap s.heap [] := va_S.rf
  have hl := lv_entry ([.ref (ad 0), .long v]) (n := 3) (Nat.le_of_ble_eq_true rfl)
  rw [lg_entry_eq]
  generalize (lg_sl ([.ref (ad 0), .long v]) ++ List.replicate (3 - (lg_sl ([.ref (ad 0), .long v])).length) Slot.unset).toArray = ls at hl ⊢
  have hl : lv_has ls 3 [(0, .ref (ad 0)), (1, .long v)] := hl
  refine lv_aload_n hx hb dX0_present_0 rfl (lv_at hl 0 rfl) ?_
  refine lv_lload_n hx hb dX0_present_1 rfl (lv_at hl 1 rfl) ?_
  refine p_x_pr hx hb hts hin hown hK hP hD hS (hts (.fieldLink RX0 85 RX0 "proof" "J") (by decide +kernel)) dX0_present_2 (fun H locs hP hD hS => ?_)
  exact W.vret hx hb hr (fun t ht hW => ⟨⟨(xu_pr S v), rfl, rfl, by rw [ht]; exact hP, va_K.moved hW.alike hK, hD⟩, hS.F ht⟩) hS.2.2 dX0_present_5
set_option maxHeartbeats 4000000 in
set_option maxRecDepth 100000 in
theorem c_X0_extend (l : Launch) (dC : Nat → ClassId) (dI : Nat → Nat → Nat) (ad : Nat → Nat) (cL cZ cO : ClassId) (S : SX) (sz : Nat) (q : Int32) (v : Int64)  : Met l yX0_extend wsX0_extend ({ frames := 2, cells := 0, slots := 0, locals := 48 }) (va_Pc [.ref (ad 0), .int q, .long v] (fun U => U.heap.size = sz ∧ va_P (dC, dI) vwCl (wX ad cL cZ cO S) U.heap ∧ va_K (dC, dI) vwCl (tyX cL cZ cO) U ∧ va_D (fun _ => True) (wX ad cL cZ cO S))) (va_Qi (fun r u => r = (X_extend S q v).1 ∧ u = (X_extend S q v).2) (xB (dC, dI) (wX ad cL cZ cO) (tyX cL cZ cO) (va_A (wX ad cL cZ cO S) sz)) (va_A (wX ad cL cZ cO S) sz)) 0 0 (va_A (wX ad cL cZ cO S) sz) := by
  refine Met.ofW (cc := cX0_extend) (maxL := 4) (ret := (some .boolean)) (by decide) rfl ?_
  intro p e s m args below meth c s₁ B hml hv
  obtain ⟨rfl, hsz, hP, hK, hD0⟩ := hv
  have hx := B.exec
  have hb := B.bytes
  have hr := B.returns
  have hts := atoms_spec (ws := wsX0_extend) B.pre
  have hown : s.vm.findClass RX0 = some m.cls := findClass_of_methodNamed B.named
  have hlocks := B.notSynchronized
  have hin : ∀ w ∈ wsX00, w ∈ wsX0_extend := fun _ h => List.mem_cons_of_mem _ (List.mem_append_right _ h)
  subst hsz
  have hD := hD0.self (sz := s.heap.size)
  generalize hAe : va_A (wX ad cL cZ cO S) s.heap.size = A at hD ⊢
  have hA : ∀ q : Nat, s.heap.size ≤ q → A q := fun q h => by rw [← hAe]; exact Or.inr h
  have hS : va_S A s.heap s.heap [] := va_S.rf
  have hl := lv_entry ([.ref (ad 0), .int q, .long v]) (n := 4) (Nat.le_of_ble_eq_true rfl)
  rw [lg_entry_eq]
  generalize (lg_sl ([.ref (ad 0), .int q, .long v]) ++ List.replicate (4 - (lg_sl ([.ref (ad 0), .int q, .long v])).length) Slot.unset).toArray = ls at hl ⊢
  have hl : lv_has ls 4 [(0, .ref (ad 0)), (1, .int q), (2, .long v)] := hl
  refine lv_iload_n hx hb dX0_extend_0 rfl (lv_at hl 1 rfl) ?_
  refine vp_callSi (va_Run.run (va_runS (As := [.int q]) (rest := []) ⟨hx, hb, hml, hown, hts⟩ (c_X0_isRegister l q ) (va_cwS 1 hts gX0_extend_X0_isRegister rfl rfl rfl (by decide +kernel) ⟨Nat.le_of_ble_eq_true rfl, Nat.le_of_ble_eq_true rfl⟩) (xpS_n _) rfl rfl hl.1 rfl (lv_room (Nat.le_of_ble_eq_true rfl)) dX0_extend_1 ⟨Nat.le_of_ble_eq_true rfl, Nat.le_of_ble_eq_true rfl⟩)) (fun r hr9 => ?_)
  subst hr9
  refine lv_if_eq (tgt := 15) hx hb dX0_extend_4 (by decide) (fun c4 => ?_) (fun c4 => ?_)
  · skip
    refine lv_iconst (v := 0) hx hb dX0_extend_15 (by decide) ?_
    exact W.zret (v := (0 : Int32)) hx hb hr rfl (fun t ht hW => ⟨⟨_, S, rfl, ⟨(by simp only [X_extend, if_pos c4] <;> rfl), (by simp only [X_extend, if_pos c4] <;> rfl)⟩, by rw [ht]; exact hP, va_K.moved hW.alike hK, hD⟩, hS.F ht⟩) hS.2.2 dX0_extend_16
  · skip
    have hq := X_isRegister_in c4
    refine lv_aload_n hx hb dX0_extend_7 rfl (lv_at hl 0 rfl) ?_
    refine lv_iload_n hx hb dX0_extend_8 rfl (lv_at hl 1 rfl) ?_
    refine vp_callSi (va_Run.run (va_runV (As := [.int q]) (rest := []) ⟨hx, hb, hml, hown, hts⟩ (c_X0_isOpen l dC dI ad cL cZ cO S q ) (cwV 1 hts gX0_extend_X0_isOpen rfl rfl rfl (by decide +kernel) ⟨Nat.le_of_ble_eq_true rfl, Nat.le_of_ble_eq_true rfl⟩) (xpV_r [.int q] hK hP (va_recv hK hP (ci := 0) (q0 := 0) rfl rfl)) rfl rfl hl.1 rfl (lv_room (Nat.le_of_ble_eq_true rfl)) dX0_extend_9 ⟨Nat.le_of_ble_eq_true rfl, Nat.le_of_ble_eq_true rfl⟩)) (fun r hr9 => ?_)
    subst hr9
    refine lv_if_ne (tgt := 17) hx hb dX0_extend_12 (by decide) (fun c12 => ?_) (fun c12 => ?_)
    · skip
      refine lv_aload_n hx hb dX0_extend_17 rfl (lv_at hl 0 rfl) ?_
      refine g_x_arg hx hb hts hin hown hK hP (hts (.fieldLink RX0 17 RX0 "registers" "[J") (by decide +kernel)) dX0_extend_18 ?_
      refine lv_iload_n hx hb dX0_extend_21 rfl (lv_at hl 1 rfl) ?_
      refine lv_aload_n hx hb dX0_extend_22 rfl (lv_at hl 0 rfl) ?_
      refine g_x_arg hx hb hts hin hown hK hP (hts (.fieldLink RX0 17 RX0 "registers" "[J") (by decide +kernel)) dX0_extend_23 ?_
      refine lv_iload_n hx hb dX0_extend_26 rfl (lv_at hl 1 rfl) ?_
      refine l_x_rg hx hb hK hP (xat_self hq) dX0_extend_27 ?_
      refine lv_lload_n hx hb dX0_extend_28 rfl (lv_at hl 2 rfl) ?_
      refine vp_callSl (va_Run.run (va_runS (As := [.long (x_rg S q.toNatClampNeg), .long v]) (rest := [.int q, .ref (ad 1)]) ⟨hx, hb, hml, hown, hts⟩ (c_X0_hash2 l (x_rg S q.toNatClampNeg) v ) (va_cwS 2 hts gX0_extend_X0_hash2 rfl rfl rfl (by decide +kernel) ⟨Nat.le_of_ble_eq_true rfl, Nat.le_of_ble_eq_true rfl⟩) (xpS_n _) rfl rfl hl.1 rfl (lv_room (Nat.le_of_ble_eq_true rfl)) dX0_extend_29 ⟨Nat.le_of_ble_eq_true rfl, Nat.le_of_ble_eq_true rfl⟩)) (fun r hr9 => ?_)
      subst hr9
      refine s_x_rg hx hb hK hP hD hS (xat_self hq) dX0_extend_32 (fun H locs hP hD hS => ?_)
      refine lv_iconst (v := 1) hx hb dX0_extend_33 (by decide) ?_
      exact W.zret (v := (1 : Int32)) hx hb hr rfl (fun t ht hW => ⟨⟨_, (xu_rg S (vp_updL (x_rg S) q.toNatClampNeg (h2 (x_rg S q.toNatClampNeg) v))), rfl, ⟨(by simp only [X_extend, if_neg c4, if_neg c12] <;> rfl), (by simp only [X_extend, if_neg c4, if_neg c12] <;> rfl)⟩, by rw [ht]; exact hP, va_K.moved hW.alike hK, hD⟩, hS.F ht⟩) hS.2.2 dX0_extend_34
    · skip
      refine lv_iconst (v := 0) hx hb dX0_extend_15 (by decide) ?_
      exact W.zret (v := (0 : Int32)) hx hb hr rfl (fun t ht hW => ⟨⟨_, S, rfl, ⟨(by simp only [X_extend, if_neg c4, if_pos c12] <;> rfl), (by simp only [X_extend, if_neg c4, if_pos c12] <;> rfl)⟩, by rw [ht]; exact hP, va_K.moved hW.alike hK, hD⟩, hS.F ht⟩) hS.2.2 dX0_extend_16
set_option maxHeartbeats 4000000 in
set_option maxRecDepth 100000 in
theorem c_X0_reset (l : Launch) (dC : Nat → ClassId) (dI : Nat → Nat → Nat) (ad : Nat → Nat) (cL cZ cO : ClassId) (S : SX) (sz : Nat) (q : Int32)  : Met l yX0_reset wsX0_reset ({ frames := 1, cells := 0, slots := 0, locals := 21 }) (va_Pc [.ref (ad 0), .int q] (fun U => U.heap.size = sz ∧ va_P (dC, dI) vwCl (wX ad cL cZ cO S) U.heap ∧ va_K (dC, dI) vwCl (tyX cL cZ cO) U ∧ va_D (fun _ => True) (wX ad cL cZ cO S))) (va_Qi (fun r u => r = (X_reset S q).1 ∧ u = (X_reset S q).2) (xB (dC, dI) (wX ad cL cZ cO) (tyX cL cZ cO) (va_A (wX ad cL cZ cO S) sz)) (va_A (wX ad cL cZ cO S) sz)) 0 0 (va_A (wX ad cL cZ cO S) sz) := by
  refine Met.ofW (cc := cX0_reset) (maxL := 2) (ret := (some .boolean)) (by decide) rfl ?_
  intro p e s m args below meth c s₁ B hml hv
  obtain ⟨rfl, hsz, hP, hK, hD0⟩ := hv
  have hx := B.exec
  have hb := B.bytes
  have hr := B.returns
  have hts := atoms_spec (ws := wsX0_reset) B.pre
  have hown : s.vm.findClass RX0 = some m.cls := findClass_of_methodNamed B.named
  have hlocks := B.notSynchronized
  have hin : ∀ w ∈ wsX00, w ∈ wsX0_reset := fun _ h => List.mem_cons_of_mem _ (List.mem_append_right _ h)
  subst hsz
  have hD := hD0.self (sz := s.heap.size)
  generalize hAe : va_A (wX ad cL cZ cO S) s.heap.size = A at hD ⊢
  have hA : ∀ q : Nat, s.heap.size ≤ q → A q := fun q h => by rw [← hAe]; exact Or.inr h
  have hS : va_S A s.heap s.heap [] := va_S.rf
  have hl := lv_entry ([.ref (ad 0), .int q]) (n := 2) (Nat.le_of_ble_eq_true rfl)
  rw [lg_entry_eq]
  generalize (lg_sl ([.ref (ad 0), .int q]) ++ List.replicate (2 - (lg_sl ([.ref (ad 0), .int q])).length) Slot.unset).toArray = ls at hl ⊢
  have hl : lv_has ls 2 [(0, .ref (ad 0)), (1, .int q)] := hl
  refine lv_iload_n hx hb dX0_reset_0 rfl (lv_at hl 1 rfl) ?_
  refine vp_callSi (va_Run.run (va_runS (As := [.int q]) (rest := []) ⟨hx, hb, hml, hown, hts⟩ (c_X0_isRegister l q ) (va_cwS 1 hts gX0_reset_X0_isRegister rfl rfl rfl (by decide +kernel) ⟨Nat.le_of_ble_eq_true rfl, Nat.le_of_ble_eq_true rfl⟩) (xpS_n _) rfl rfl hl.1 rfl (lv_room (Nat.le_of_ble_eq_true rfl)) dX0_reset_1 ⟨Nat.le_of_ble_eq_true rfl, Nat.le_of_ble_eq_true rfl⟩)) (fun r hr9 => ?_)
  subst hr9
  refine lv_if_eq (tgt := 20) hx hb dX0_reset_4 (by decide) (fun c4 => ?_) (fun c4 => ?_)
  · skip
    refine lv_iconst (v := 0) hx hb dX0_reset_20 (by decide) ?_
    exact W.zret (v := (0 : Int32)) hx hb hr rfl (fun t ht hW => ⟨⟨_, S, rfl, ⟨(by simp only [X_reset, if_pos c4] <;> rfl), (by simp only [X_reset, if_pos c4] <;> rfl)⟩, by rw [ht]; exact hP, va_K.moved hW.alike hK, hD⟩, hS.F ht⟩) hS.2.2 dX0_reset_21
  · skip
    have hq := X_isRegister_in c4
    refine lv_iload_n hx hb dX0_reset_7 rfl (lv_at hl 1 rfl) ?_
    refine lv_iconst (v := 4) hx hb dX0_reset_8 (by decide) ?_
    refine lv_icmp_lt (tgt := 20) hx hb dX0_reset_9 (by decide) (fun c9 => ?_) (fun c9 => ?_)
    · skip
      refine lv_iconst (v := 0) hx hb dX0_reset_20 (by decide) ?_
      exact W.zret (v := (0 : Int32)) hx hb hr rfl (fun t ht hW => ⟨⟨_, S, rfl, ⟨(by simp only [X_reset, if_neg c4, if_pos c9] <;> rfl), (by simp only [X_reset, if_neg c4, if_pos c9] <;> rfl)⟩, by rw [ht]; exact hP, va_K.moved hW.alike hK, hD⟩, hS.F ht⟩) hS.2.2 dX0_reset_21
    · skip
      refine lv_aload_n hx hb dX0_reset_12 rfl (lv_at hl 0 rfl) ?_
      refine lv_iload_n hx hb dX0_reset_13 rfl (lv_at hl 1 rfl) ?_
      refine vp_callSi (va_Run.run (va_runV (As := [.int q]) (rest := []) ⟨hx, hb, hml, hown, hts⟩ (c_X0_isOpen l dC dI ad cL cZ cO S q ) (cwV 1 hts gX0_reset_X0_isOpen rfl rfl rfl (by decide +kernel) ⟨Nat.le_of_ble_eq_true rfl, Nat.le_of_ble_eq_true rfl⟩) (xpV_r [.int q] hK hP (va_recv hK hP (ci := 0) (q0 := 0) rfl rfl)) rfl rfl hl.1 rfl (lv_room (Nat.le_of_ble_eq_true rfl)) dX0_reset_14 ⟨Nat.le_of_ble_eq_true rfl, Nat.le_of_ble_eq_true rfl⟩)) (fun r hr9 => ?_)
      subst hr9
      refine lv_if_ne (tgt := 22) hx hb dX0_reset_17 (by decide) (fun c17 => ?_) (fun c17 => ?_)
      · skip
        refine lv_aload_n hx hb dX0_reset_22 rfl (lv_at hl 0 rfl) ?_
        refine g_x_arg hx hb hts hin hown hK hP (hts (.fieldLink RX0 17 RX0 "registers" "[J") (by decide +kernel)) dX0_reset_23 ?_
        refine lv_iload_n hx hb dX0_reset_26 rfl (lv_at hl 1 rfl) ?_
        refine lv_lconst (v := 0) hx hb dX0_reset_27 (by decide) ?_
        refine s_x_rg hx hb hK hP hD hS (xat_self hq) dX0_reset_28 (fun H locs hP hD hS => ?_)
        refine lv_iconst (v := 1) hx hb dX0_reset_29 (by decide) ?_
        exact W.zret (v := (1 : Int32)) hx hb hr rfl (fun t ht hW => ⟨⟨_, (xu_rg S (vp_updL (x_rg S) q.toNatClampNeg (0 : Int64))), rfl, ⟨(by simp only [X_reset, if_neg c4, if_neg c9, if_neg c17] <;> rfl), (by simp only [X_reset, if_neg c4, if_neg c9, if_neg c17] <;> rfl)⟩, by rw [ht]; exact hP, va_K.moved hW.alike hK, hD⟩, hS.F ht⟩) hS.2.2 dX0_reset_30
      · skip
        refine lv_iconst (v := 0) hx hb dX0_reset_20 (by decide) ?_
        exact W.zret (v := (0 : Int32)) hx hb hr rfl (fun t ht hW => ⟨⟨_, S, rfl, ⟨(by simp only [X_reset, if_neg c4, if_neg c9, if_pos c17] <;> rfl), (by simp only [X_reset, if_neg c4, if_neg c9, if_pos c17] <;> rfl)⟩, by rw [ht]; exact hP, va_K.moved hW.alike hK, hD⟩, hS.F ht⟩) hS.2.2 dX0_reset_21
set_option maxHeartbeats 4000000 in
set_option maxRecDepth 100000 in
theorem c_X0_destroy (l : Launch) (dC : Nat → ClassId) (dI : Nat → Nat → Nat) (ad : Nat → Nat) (cL cZ cO : ClassId) (S : SX) (sz : Nat) (q : Int32)  : Met l yX0_destroy wsX0_destroy ({ frames := 1, cells := 0, slots := 0, locals := 21 }) (va_Pc [.ref (ad 0), .int q] (fun U => U.heap.size = sz ∧ va_P (dC, dI) vwCl (wX ad cL cZ cO S) U.heap ∧ va_K (dC, dI) vwCl (tyX cL cZ cO) U ∧ va_D (fun _ => True) (wX ad cL cZ cO S))) (va_Qi (fun r u => r = (X_destroy S q).1 ∧ u = (X_destroy S q).2) (xB (dC, dI) (wX ad cL cZ cO) (tyX cL cZ cO) (va_A (wX ad cL cZ cO S) sz)) (va_A (wX ad cL cZ cO S) sz)) 0 0 (va_A (wX ad cL cZ cO S) sz) := by
  refine Met.ofW (cc := cX0_destroy) (maxL := 2) (ret := (some .boolean)) (by decide) rfl ?_
  intro p e s m args below meth c s₁ B hml hv
  obtain ⟨rfl, hsz, hP, hK, hD0⟩ := hv
  have hx := B.exec
  have hb := B.bytes
  have hr := B.returns
  have hts := atoms_spec (ws := wsX0_destroy) B.pre
  have hown : s.vm.findClass RX0 = some m.cls := findClass_of_methodNamed B.named
  have hlocks := B.notSynchronized
  have hin : ∀ w ∈ wsX00, w ∈ wsX0_destroy := fun _ h => List.mem_cons_of_mem _ (List.mem_append_right _ h)
  subst hsz
  have hD := hD0.self (sz := s.heap.size)
  generalize hAe : va_A (wX ad cL cZ cO S) s.heap.size = A at hD ⊢
  have hA : ∀ q : Nat, s.heap.size ≤ q → A q := fun q h => by rw [← hAe]; exact Or.inr h
  have hS : va_S A s.heap s.heap [] := va_S.rf
  have hl := lv_entry ([.ref (ad 0), .int q]) (n := 2) (Nat.le_of_ble_eq_true rfl)
  rw [lg_entry_eq]
  generalize (lg_sl ([.ref (ad 0), .int q]) ++ List.replicate (2 - (lg_sl ([.ref (ad 0), .int q])).length) Slot.unset).toArray = ls at hl ⊢
  have hl : lv_has ls 2 [(0, .ref (ad 0)), (1, .int q)] := hl
  refine lv_aload_n hx hb dX0_destroy_0 rfl (lv_at hl 0 rfl) ?_
  refine lv_iload_n hx hb dX0_destroy_1 rfl (lv_at hl 1 rfl) ?_
  refine vp_callSi (va_Run.run (va_runV (As := [.int q]) (rest := []) ⟨hx, hb, hml, hown, hts⟩ (c_X0_isKey l dC dI ad cL cZ cO S q ) (cwV 1 hts gX0_destroy_X0_isKey rfl rfl rfl (by decide +kernel) ⟨Nat.le_of_ble_eq_true rfl, Nat.le_of_ble_eq_true rfl⟩) (xpV_r [.int q] hK hP (va_recv hK hP (ci := 0) (q0 := 0) rfl rfl)) rfl rfl hl.1 rfl (lv_room (Nat.le_of_ble_eq_true rfl)) dX0_destroy_2 ⟨Nat.le_of_ble_eq_true rfl, Nat.le_of_ble_eq_true rfl⟩)) (fun r hr9 => ?_)
  subst hr9
  refine lv_if_ne (tgt := 10) hx hb dX0_destroy_5 (by decide) (fun c5 => ?_) (fun c5 => ?_)
  · skip
    have hq := X_isKey_in c5
    refine lv_aload_n hx hb dX0_destroy_10 rfl (lv_at hl 0 rfl) ?_
    refine g_x_akt hx hb hts hin hown hK hP (hts (.fieldLink RX0 21 RX0 "keyThere" "[Z") (by decide +kernel)) dX0_destroy_11 ?_
    refine lv_iload_n hx hb dX0_destroy_14 rfl (lv_at hl 1 rfl) ?_
    refine lv_iconst (v := 0) hx hb dX0_destroy_15 (by decide) ?_
    refine s_x_kt hx hb hK hP hD hS rfl (xat_self hq) dX0_destroy_16 (fun H locs hP hD hS => ?_)
    refine lv_iconst (v := 1) hx hb dX0_destroy_17 (by decide) ?_
    exact W.zret (v := (1 : Int32)) hx hb hr rfl (fun t ht hW => ⟨⟨_, (xu_kt S (upd (x_kt S) q.toNatClampNeg (0 : Int32))), rfl, ⟨(by simp only [X_destroy, if_neg c5] <;> rfl), (by simp only [X_destroy, if_neg c5] <;> rfl)⟩, by rw [ht]; exact hP, va_K.moved hW.alike hK, hD⟩, hS.F ht⟩) hS.2.2 dX0_destroy_18
  · skip
    refine lv_iconst (v := 0) hx hb dX0_destroy_8 (by decide) ?_
    exact W.zret (v := (0 : Int32)) hx hb hr rfl (fun t ht hW => ⟨⟨_, S, rfl, ⟨(by simp only [X_destroy, if_pos c5] <;> rfl), (by simp only [X_destroy, if_pos c5] <;> rfl)⟩, by rw [ht]; exact hP, va_K.moved hW.alike hK, hD⟩, hS.F ht⟩) hS.2.2 dX0_destroy_9
set_option maxHeartbeats 4000000 in
set_option maxRecDepth 100000 in
theorem c_X0_end (l : Launch) (dC : Nat → ClassId) (dI : Nat → Nat → Nat) (ad : Nat → Nat) (cL cZ cO : ClassId) (S : SX) (sz : Nat) (q : Int32)  : Met l yX0_end wsX0_end ({ frames := 1, cells := 0, slots := 0, locals := 21 }) (va_Pc [.ref (ad 0), .int q] (fun U => U.heap.size = sz ∧ va_P (dC, dI) vwCl (wX ad cL cZ cO S) U.heap ∧ va_K (dC, dI) vwCl (tyX cL cZ cO) U ∧ va_D (fun _ => True) (wX ad cL cZ cO S))) (va_Qi (fun r u => r = (X_end S q).1 ∧ u = (X_end S q).2) (xB (dC, dI) (wX ad cL cZ cO) (tyX cL cZ cO) (va_A (wX ad cL cZ cO S) sz)) (va_A (wX ad cL cZ cO S) sz)) 0 0 (va_A (wX ad cL cZ cO S) sz) := by
  refine Met.ofW (cc := cX0_end) (maxL := 2) (ret := (some .boolean)) (by decide) rfl ?_
  intro p e s m args below meth c s₁ B hml hv
  obtain ⟨rfl, hsz, hP, hK, hD0⟩ := hv
  have hx := B.exec
  have hb := B.bytes
  have hr := B.returns
  have hts := atoms_spec (ws := wsX0_end) B.pre
  have hown : s.vm.findClass RX0 = some m.cls := findClass_of_methodNamed B.named
  have hlocks := B.notSynchronized
  have hin : ∀ w ∈ wsX00, w ∈ wsX0_end := fun _ h => List.mem_cons_of_mem _ (List.mem_append_right _ h)
  subst hsz
  have hD := hD0.self (sz := s.heap.size)
  generalize hAe : va_A (wX ad cL cZ cO S) s.heap.size = A at hD ⊢
  have hA : ∀ q : Nat, s.heap.size ≤ q → A q := fun q h => by rw [← hAe]; exact Or.inr h
  have hS : va_S A s.heap s.heap [] := va_S.rf
  have hl := lv_entry ([.ref (ad 0), .int q]) (n := 2) (Nat.le_of_ble_eq_true rfl)
  rw [lg_entry_eq]
  generalize (lg_sl ([.ref (ad 0), .int q]) ++ List.replicate (2 - (lg_sl ([.ref (ad 0), .int q])).length) Slot.unset).toArray = ls at hl ⊢
  have hl : lv_has ls 2 [(0, .ref (ad 0)), (1, .int q)] := hl
  refine lv_aload_n hx hb dX0_end_0 rfl (lv_at hl 0 rfl) ?_
  refine lv_iload_n hx hb dX0_end_1 rfl (lv_at hl 1 rfl) ?_
  refine vp_callSi (va_Run.run (va_runV (As := [.int q]) (rest := []) ⟨hx, hb, hml, hown, hts⟩ (c_X0_isSession l dC dI ad cL cZ cO S q ) (cwV 1 hts gX0_end_X0_isSession rfl rfl rfl (by decide +kernel) ⟨Nat.le_of_ble_eq_true rfl, Nat.le_of_ble_eq_true rfl⟩) (xpV_r [.int q] hK hP (va_recv hK hP (ci := 0) (q0 := 0) rfl rfl)) rfl rfl hl.1 rfl (lv_room (Nat.le_of_ble_eq_true rfl)) dX0_end_2 ⟨Nat.le_of_ble_eq_true rfl, Nat.le_of_ble_eq_true rfl⟩)) (fun r hr9 => ?_)
  subst hr9
  refine lv_if_ne (tgt := 10) hx hb dX0_end_5 (by decide) (fun c5 => ?_) (fun c5 => ?_)
  · skip
    have hq := X_isSession_in c5
    refine lv_aload_n hx hb dX0_end_10 rfl (lv_at hl 0 rfl) ?_
    refine g_x_ast hx hb hts hin hown hK hP (hts (.fieldLink RX0 31 RX0 "sessionThere" "[Z") (by decide +kernel)) dX0_end_11 ?_
    refine lv_iload_n hx hb dX0_end_14 rfl (lv_at hl 1 rfl) ?_
    refine lv_iconst (v := 0) hx hb dX0_end_15 (by decide) ?_
    refine s_x_st hx hb hK hP hD hS rfl (xat_self hq) dX0_end_16 (fun H locs hP hD hS => ?_)
    refine lv_iconst (v := 1) hx hb dX0_end_17 (by decide) ?_
    exact W.zret (v := (1 : Int32)) hx hb hr rfl (fun t ht hW => ⟨⟨_, (xu_st S (upd (x_st S) q.toNatClampNeg (0 : Int32))), rfl, ⟨(by simp only [X_end, if_neg c5] <;> rfl), (by simp only [X_end, if_neg c5] <;> rfl)⟩, by rw [ht]; exact hP, va_K.moved hW.alike hK, hD⟩, hS.F ht⟩) hS.2.2 dX0_end_18
  · skip
    refine lv_iconst (v := 0) hx hb dX0_end_8 (by decide) ?_
    exact W.zret (v := (0 : Int32)) hx hb hr rfl (fun t ht hW => ⟨⟨_, S, rfl, ⟨(by simp only [X_end, if_pos c5] <;> rfl), (by simp only [X_end, if_pos c5] <;> rfl)⟩, by rw [ht]; exact hP, va_K.moved hW.alike hK, hD⟩, hS.F ht⟩) hS.2.2 dX0_end_9
set_option maxHeartbeats 4000000 in
set_option maxRecDepth 100000 in
theorem c_X0_passesProving (l : Launch) (dC : Nat → ClassId) (dI : Nat → Nat → Nat) (ad : Nat → Nat) (cL cZ cO : ClassId) (S : SX) (sz : Nat) (k : Int64) (q : Int32) (cm : Int32) (pa : Int64) (hq : vp_in q 4) : Met l yX0_passesProving wsX0_passesProving ({ frames := 4, cells := 0, slots := 0, locals := 99 }) (va_Pc [.ref (ad 0), .long k, .int q, .int cm, .long pa] (fun U => U.heap.size = sz ∧ va_P (dC, dI) vwCl (wX ad cL cZ cO S) U.heap ∧ va_K (dC, dI) vwCl (tyX cL cZ cO) U ∧ va_D (fun _ => True) (wX ad cL cZ cO S))) (va_Qi (fun r u => r = (X_passesProving S k q cm pa).1 ∧ u = (X_passesProving S k q cm pa).2) (xB (dC, dI) (wX ad cL cZ cO) (tyX cL cZ cO) (va_A (wX ad cL cZ cO S) sz)) (va_A (wX ad cL cZ cO S) sz)) 0 0 (va_A (wX ad cL cZ cO S) sz) := by
  refine Met.ofW (cc := cX0_passesProving) (maxL := 8) (ret := (some .boolean)) (by decide) rfl ?_
  intro p e s m args below meth c s₁ B hml hv
  obtain ⟨rfl, hsz, hP, hK, hD0⟩ := hv
  have hx := B.exec
  have hb := B.bytes
  have hr := B.returns
  have hts := atoms_spec (ws := wsX0_passesProving) B.pre
  have hown : s.vm.findClass RX0 = some m.cls := findClass_of_methodNamed B.named
  have hlocks := B.notSynchronized
  have hin : ∀ w ∈ wsX00, w ∈ wsX0_passesProving := fun _ h => List.mem_cons_of_mem _ (List.mem_append_right _ h)
  subst hsz
  have hD := hD0.self (sz := s.heap.size)
  generalize hAe : va_A (wX ad cL cZ cO S) s.heap.size = A at hD ⊢
  have hA : ∀ q : Nat, s.heap.size ≤ q → A q := fun q h => by rw [← hAe]; exact Or.inr h
  have hS : va_S A s.heap s.heap [] := va_S.rf
  have hl := lv_entry ([.ref (ad 0), .long k, .int q, .int cm, .long pa]) (n := 8) (Nat.le_of_ble_eq_true rfl)
  rw [lg_entry_eq]
  generalize (lg_sl ([.ref (ad 0), .long k, .int q, .int cm, .long pa]) ++ List.replicate (8 - (lg_sl ([.ref (ad 0), .long k, .int q, .int cm, .long pa])).length) Slot.unset).toArray = ls at hl ⊢
  have hl : lv_has ls 8 [(0, .ref (ad 0)), (1, .long k), (3, .int q), (4, .int cm), (5, .long pa)] := hl
  refine lv_aload_n hx hb dX0_passesProving_0 rfl (lv_at hl 0 rfl) ?_
  refine g_x_pr hx hb hts hin hown hK hP (hts (.fieldLink RX0 85 RX0 "proof" "J") (by decide +kernel)) dX0_passesProving_1 ?_
  refine lv_aload_n hx hb dX0_passesProving_4 rfl (lv_at hl 0 rfl) ?_
  refine lv_lload_n hx hb dX0_passesProving_5 rfl (lv_at hl 1 rfl) ?_
  refine lv_iload_n hx hb dX0_passesProving_6 rfl (lv_at hl 2 rfl) ?_
  refine lv_iload hx hb dX0_passesProving_7 (lv_at hl 3 rfl) ?_
  refine lv_lload hx hb dX0_passesProving_9 (lv_at hl 4 rfl) ?_
  refine vp_callSl (va_Run.run (va_runV (As := [.long k, .int q, .int cm, .long pa]) (rest := [.long (x_pr S)]) ⟨hx, hb, hml, hown, hts⟩ (c_X0_rightProof l dC dI ad cL cZ cO S k q cm pa hq) (cwV 4 hts gX0_passesProving_X0_rightProof rfl rfl rfl (by decide +kernel) ⟨Nat.le_of_ble_eq_true rfl, Nat.le_of_ble_eq_true rfl⟩) (xpV_r [.long k, .int q, .int cm, .long pa] hK hP (va_recv hK hP (ci := 0) (q0 := 0) rfl rfl)) rfl rfl hl.1 rfl (lv_room (Nat.le_of_ble_eq_true rfl)) dX0_passesProving_11 ⟨Nat.le_of_ble_eq_true rfl, Nat.le_of_ble_eq_true rfl⟩)) (fun r hr9 => ?_)
  subst hr9
  refine W.lcmp hx hb dX0_passesProving_14 ?_
  refine lv_if_ne (tgt := 22) hx hb dX0_passesProving_15 (by decide) (fun c15 => ?_) (fun c15 => ?_)
  · skip
    refine lv_iconst (v := 0) hx hb dX0_passesProving_22 (by decide) ?_
    refine lv_istore (lv' := [(7, .int (0 : Int32)), (0, .ref (ad 0)), (1, .long k), (3, .int q), (4, .int cm), (5, .long pa)]) hx hb dX0_passesProving_23 hl (by decide) rfl (fun ls hl => ?_)
    refine lv_aload_n hx hb dX0_passesProving_25 rfl (lv_at hl 1 rfl) ?_
    refine g_x_amn hx hb hts hin hown hK hP (hts (.fieldLink RX0 37 RX0 "machineNonces" "[J") (by decide +kernel)) dX0_passesProving_26 ?_
    refine lv_iload_n hx hb dX0_passesProving_29 rfl (lv_at hl 3 rfl) ?_
    refine lv_aload_n hx hb dX0_passesProving_30 rfl (lv_at hl 1 rfl) ?_
    refine xcall_l (va_runV (As := []) (rest := [.int q, .ref (ad 7)]) ⟨hx, hb, hml, hown, hts⟩ (c_X0_draw l dC dI ad cL cZ cO S s.heap.size  ) (cwV 0 hts gX0_passesProving_X0_draw rfl rfl rfl (by decide +kernel) ⟨Nat.le_of_ble_eq_true rfl, Nat.le_of_ble_eq_true rfl⟩) (xpV_w [] hK hP hD (va_recv hK hP (ci := 0) (q0 := 0) rfl rfl)) rfl rfl hl.1 rfl (lv_room (Nat.le_of_ble_eq_true rfl)) dX0_passesProving_31 ⟨Nat.le_of_ble_eq_true rfl, Nat.le_of_ble_eq_true rfl⟩) hD hS hA (fun r u H locs hw hP hD hS => ?_)
    obtain ⟨rfl, rfl⟩ := hw
    refine s_x_mn hx hb hK hP hD hS (xat_self hq) dX0_passesProving_34 (fun H locs hP hD hS => ?_)
    have hP : va_P (dC, dI) vwCl (wX ad cL cZ cO (X_anew S q)) H := hP
    have hD : va_D A (wX ad cL cZ cO (X_anew S q)) := hD
    refine lv_iload hx hb dX0_passesProving_35 (lv_at hl 0 rfl) ?_
    refine lv_if_eq (tgt := 48) hx hb dX0_passesProving_37 (by decide) (fun c37 => ?_) (fun c37 => ?_)
    · skip
      refine lv_aload_n hx hb dX0_passesProving_48 rfl (lv_at hl 1 rfl) ?_
      refine lv_dup hx hb dX0_passesProving_49 rfl ?_
      refine g_x_fa hx hb hts hin hown hK hP (hts (.fieldLink RX0 129 RX0 "failures" "I") (by decide +kernel)) dX0_passesProving_50 ?_
      refine lv_iconst (v := 1) hx hb dX0_passesProving_53 (by decide) ?_
      refine lv_iadd hx hb dX0_passesProving_54 ?_
      refine p_x_fa hx hb hts hin hown hK hP hD hS (hts (.fieldLink RX0 129 RX0 "failures" "I") (by decide +kernel)) dX0_passesProving_55 (fun H locs hP hD hS => ?_)
      refine lv_aload_n hx hb dX0_passesProving_58 rfl (lv_at hl 1 rfl) ?_
      refine lv_lconst (v := 0) hx hb dX0_passesProving_59 (by decide) ?_
      refine p_x_ou hx hb hts hin hown hK hP hD hS (hts (.fieldLink RX0 115 RX0 "output" "J") (by decide +kernel)) dX0_passesProving_60 (fun H locs hP hD hS => ?_)
      refine lv_iload hx hb dX0_passesProving_63 (lv_at hl 0 rfl) ?_
      exact W.zret (v := (0 : Int32)) hx hb hr rfl (fun t ht hW => ⟨⟨_, (xu_ou (xu_fa (X_anew S q) ((x_fa (X_anew S q)) + (1 : Int32))) (0 : Int64)), rfl, ⟨(by simp only [X_passesProving, if_neg c15, if_pos c37] <;> rfl), (by simp only [X_passesProving, if_neg c15, if_pos c37] <;> rfl)⟩, by rw [ht]; exact hP, va_K.moved hW.alike hK, hD⟩, hS.F ht⟩) hS.2.2 dX0_passesProving_65
    · skip
      exact absurd c37 (by decide)
  · skip
    refine lv_iconst (v := 1) hx hb dX0_passesProving_18 (by decide) ?_
    refine lv_goto (tgt := 23) hx hb dX0_passesProving_19 (by decide) ?_
    refine lv_istore (lv' := [(7, .int (1 : Int32)), (0, .ref (ad 0)), (1, .long k), (3, .int q), (4, .int cm), (5, .long pa)]) hx hb dX0_passesProving_23 hl (by decide) rfl (fun ls hl => ?_)
    refine lv_aload_n hx hb dX0_passesProving_25 rfl (lv_at hl 1 rfl) ?_
    refine g_x_amn hx hb hts hin hown hK hP (hts (.fieldLink RX0 37 RX0 "machineNonces" "[J") (by decide +kernel)) dX0_passesProving_26 ?_
    refine lv_iload_n hx hb dX0_passesProving_29 rfl (lv_at hl 3 rfl) ?_
    refine lv_aload_n hx hb dX0_passesProving_30 rfl (lv_at hl 1 rfl) ?_
    refine xcall_l (va_runV (As := []) (rest := [.int q, .ref (ad 7)]) ⟨hx, hb, hml, hown, hts⟩ (c_X0_draw l dC dI ad cL cZ cO S s.heap.size  ) (cwV 0 hts gX0_passesProving_X0_draw rfl rfl rfl (by decide +kernel) ⟨Nat.le_of_ble_eq_true rfl, Nat.le_of_ble_eq_true rfl⟩) (xpV_w [] hK hP hD (va_recv hK hP (ci := 0) (q0 := 0) rfl rfl)) rfl rfl hl.1 rfl (lv_room (Nat.le_of_ble_eq_true rfl)) dX0_passesProving_31 ⟨Nat.le_of_ble_eq_true rfl, Nat.le_of_ble_eq_true rfl⟩) hD hS hA (fun r u H locs hw hP hD hS => ?_)
    obtain ⟨rfl, rfl⟩ := hw
    refine s_x_mn hx hb hK hP hD hS (xat_self hq) dX0_passesProving_34 (fun H locs hP hD hS => ?_)
    have hP : va_P (dC, dI) vwCl (wX ad cL cZ cO (X_anew S q)) H := hP
    have hD : va_D A (wX ad cL cZ cO (X_anew S q)) := hD
    refine lv_iload hx hb dX0_passesProving_35 (lv_at hl 0 rfl) ?_
    refine lv_if_eq (tgt := 48) hx hb dX0_passesProving_37 (by decide) (fun c37 => ?_) (fun c37 => ?_)
    · skip
      exact absurd c37 (by decide)
    · skip
      refine lv_aload_n hx hb dX0_passesProving_40 rfl (lv_at hl 1 rfl) ?_
      refine lv_iconst (v := 0) hx hb dX0_passesProving_41 (by decide) ?_
      refine p_x_fa hx hb hts hin hown hK hP hD hS (hts (.fieldLink RX0 129 RX0 "failures" "I") (by decide +kernel)) dX0_passesProving_42 (fun H locs hP hD hS => ?_)
      refine lv_goto (tgt := 63) hx hb dX0_passesProving_45 (by decide) ?_
      refine lv_iload hx hb dX0_passesProving_63 (lv_at hl 0 rfl) ?_
      exact W.zret (v := (1 : Int32)) hx hb hr rfl (fun t ht hW => ⟨⟨_, (xu_fa (X_anew S q) (0 : Int32)), rfl, ⟨(by simp only [X_passesProving, if_pos c15, if_neg c37] <;> rfl), (by simp only [X_passesProving, if_pos c15, if_neg c37] <;> rfl)⟩, by rw [ht]; exact hP, va_K.moved hW.alike hK, hD⟩, hS.F ht⟩) hS.2.2 dX0_passesProving_65
set_option maxHeartbeats 4000000 in
set_option maxRecDepth 100000 in
theorem c_X0_blob (l : Launch) (dC : Nat → ClassId) (dI : Nat → Nat → Nat) (ad : Nat → Nat) (cL cZ cO : ClassId) (S : SX) (q : Int32) (i : Int32) (hB : okB (x_bc S)) : Met l yX0_blob wsX0_blob ({ frames := 2, cells := 0, slots := 0, locals := 43 }) (va_Pc [.ref (ad 0), .int q, .int i] (fun U => va_P (dC, dI) vwCl (wX ad cL cZ cO S) U.heap ∧ va_K (dC, dI) vwCl (tyX cL cZ cO) U)) (vp_Sl (fun r => r = X_blob S q i)) 0 0 (fun _ => False) := by
  refine Met.ofW (cc := cX0_blob) (maxL := 3) (ret := (some .long)) (by decide) rfl ?_
  intro p e s m args below meth c s₁ B hml hv
  obtain ⟨rfl, hP, hK⟩ := hv
  have hx := B.exec
  have hb := B.bytes
  have hr := B.returns
  have hts := atoms_spec (ws := wsX0_blob) B.pre
  have hown : s.vm.findClass RX0 = some m.cls := findClass_of_methodNamed B.named
  have hlocks := B.notSynchronized
  have hin : ∀ w ∈ wsX00, w ∈ wsX0_blob := fun _ h => List.mem_cons_of_mem _ (List.mem_append_right _ h)
  have hl := lv_entry ([.ref (ad 0), .int q, .int i]) (n := 3) (Nat.le_of_ble_eq_true rfl)
  rw [lg_entry_eq]
  generalize (lg_sl ([.ref (ad 0), .int q, .int i]) ++ List.replicate (3 - (lg_sl ([.ref (ad 0), .int q, .int i])).length) Slot.unset).toArray = ls at hl ⊢
  have hl : lv_has ls 3 [(0, .ref (ad 0)), (1, .int q), (2, .int i)] := hl
  refine lv_aload_n hx hb dX0_blob_0 rfl (lv_at hl 0 rfl) ?_
  refine lv_iload_n hx hb dX0_blob_1 rfl (lv_at hl 1 rfl) ?_
  refine lv_iload_n hx hb dX0_blob_2 rfl (lv_at hl 2 rfl) ?_
  refine vp_callSi (va_Run.run (va_runV (As := [.int q, .int i]) (rest := []) ⟨hx, hb, hml, hown, hts⟩ (c_X0_isBlobWord l dC dI ad cL cZ cO S q i ) (cwV 2 hts gX0_blob_X0_isBlobWord rfl rfl rfl (by decide +kernel) ⟨Nat.le_of_ble_eq_true rfl, Nat.le_of_ble_eq_true rfl⟩) (xpV_r [.int q, .int i] hK hP (va_recv hK hP (ci := 0) (q0 := 0) rfl rfl)) rfl rfl hl.1 rfl (lv_room (Nat.le_of_ble_eq_true rfl)) dX0_blob_3 ⟨Nat.le_of_ble_eq_true rfl, Nat.le_of_ble_eq_true rfl⟩)) (fun r hr9 => ?_)
  subst hr9
  refine lv_if_eq (tgt := 20) hx hb dX0_blob_6 (by decide) (fun c6 => ?_) (fun c6 => ?_)
  · skip
    refine lv_lconst (v := 0) hx hb dX0_blob_20 (by decide) ?_
    exact W.lret (v := (0 : Int64)) hx hb hr (fun t ht hW => ⟨_, rfl, (by simp only [X_blob, if_pos c6] <;> rfl), ht⟩) (fun _ h => by cases h) dX0_blob_21
  · skip
    have hq := X_isBlobWord_in hB c6
    refine lv_aload_n hx hb dX0_blob_9 rfl (lv_at hl 0 rfl) ?_
    refine g_x_abl hx hb hts hin hown hK hP (hts (.fieldLink RX0 42 RX0 "blobs" "[[J") (by decide +kernel)) dX0_blob_10 ?_
    refine lv_iload_n hx hb dX0_blob_13 rfl (lv_at hl 1 rfl) ?_
    refine l_x_bl hx hb hK hP (xat_self hq.1) dX0_blob_14 ?_
    refine lv_iload_n hx hb dX0_blob_15 rfl (lv_at hl 2 rfl) ?_
    refine l_x_row hx hb hK hP (xat_lt (xat_self hq.1)) (xat_self hq.2) dX0_blob_16 ?_
    refine lv_goto (tgt := 21) hx hb dX0_blob_17 (by decide) ?_
    exact W.lret (v := (x_bl S q.toNatClampNeg i.toNatClampNeg)) hx hb hr (fun t ht hW => ⟨_, rfl, (by simp only [X_blob, if_neg c6] <;> rfl), ht⟩) (fun _ h => by cases h) dX0_blob_21
set_option maxHeartbeats 4000000 in
set_option maxRecDepth 100000 in
theorem c_X0_change (l : Launch) (dC : Nat → ClassId) (dI : Nat → Nat → Nat) (ad : Nat → Nat) (cL cZ cO : ClassId) (S : SX) (sz : Nat) (q : Int32) (i : Int32) (v : Int64) (hB : okB (x_bc S)) : Met l yX0_change wsX0_change ({ frames := 2, cells := 0, slots := 0, locals := 43 }) (va_Pc [.ref (ad 0), .int q, .int i, .long v] (fun U => U.heap.size = sz ∧ va_P (dC, dI) vwCl (wX ad cL cZ cO S) U.heap ∧ va_K (dC, dI) vwCl (tyX cL cZ cO) U ∧ va_D (fun _ => True) (wX ad cL cZ cO S))) (va_Qi (fun r u => r = (X_change S q i v).1 ∧ u = (X_change S q i v).2) (xB (dC, dI) (wX ad cL cZ cO) (tyX cL cZ cO) (va_A (wX ad cL cZ cO S) sz)) (va_A (wX ad cL cZ cO S) sz)) 0 0 (va_A (wX ad cL cZ cO S) sz) := by
  refine Met.ofW (cc := cX0_change) (maxL := 5) (ret := (some .boolean)) (by decide) rfl ?_
  intro p e s m args below meth c s₁ B hml hv
  obtain ⟨rfl, hsz, hP, hK, hD0⟩ := hv
  have hx := B.exec
  have hb := B.bytes
  have hr := B.returns
  have hts := atoms_spec (ws := wsX0_change) B.pre
  have hown : s.vm.findClass RX0 = some m.cls := findClass_of_methodNamed B.named
  have hlocks := B.notSynchronized
  have hin : ∀ w ∈ wsX00, w ∈ wsX0_change := fun _ h => List.mem_cons_of_mem _ (List.mem_append_right _ h)
  subst hsz
  have hD := hD0.self (sz := s.heap.size)
  generalize hAe : va_A (wX ad cL cZ cO S) s.heap.size = A at hD ⊢
  have hA : ∀ q : Nat, s.heap.size ≤ q → A q := fun q h => by rw [← hAe]; exact Or.inr h
  have hS : va_S A s.heap s.heap [] := va_S.rf
  have hl := lv_entry ([.ref (ad 0), .int q, .int i, .long v]) (n := 5) (Nat.le_of_ble_eq_true rfl)
  rw [lg_entry_eq]
  generalize (lg_sl ([.ref (ad 0), .int q, .int i, .long v]) ++ List.replicate (5 - (lg_sl ([.ref (ad 0), .int q, .int i, .long v])).length) Slot.unset).toArray = ls at hl ⊢
  have hl : lv_has ls 5 [(0, .ref (ad 0)), (1, .int q), (2, .int i), (3, .long v)] := hl
  refine lv_aload_n hx hb dX0_change_0 rfl (lv_at hl 0 rfl) ?_
  refine lv_iload_n hx hb dX0_change_1 rfl (lv_at hl 1 rfl) ?_
  refine lv_iload_n hx hb dX0_change_2 rfl (lv_at hl 2 rfl) ?_
  refine vp_callSi (va_Run.run (va_runV (As := [.int q, .int i]) (rest := []) ⟨hx, hb, hml, hown, hts⟩ (c_X0_isBlobWord l dC dI ad cL cZ cO S q i ) (cwV 2 hts gX0_change_X0_isBlobWord rfl rfl rfl (by decide +kernel) ⟨Nat.le_of_ble_eq_true rfl, Nat.le_of_ble_eq_true rfl⟩) (xpV_r [.int q, .int i] hK hP (va_recv hK hP (ci := 0) (q0 := 0) rfl rfl)) rfl rfl hl.1 rfl (lv_room (Nat.le_of_ble_eq_true rfl)) dX0_change_3 ⟨Nat.le_of_ble_eq_true rfl, Nat.le_of_ble_eq_true rfl⟩)) (fun r hr9 => ?_)
  subst hr9
  refine lv_if_ne (tgt := 11) hx hb dX0_change_6 (by decide) (fun c6 => ?_) (fun c6 => ?_)
  · skip
    have hq := X_isBlobWord_in hB c6
    refine lv_aload_n hx hb dX0_change_11 rfl (lv_at hl 0 rfl) ?_
    refine g_x_abl hx hb hts hin hown hK hP (hts (.fieldLink RX0 42 RX0 "blobs" "[[J") (by decide +kernel)) dX0_change_12 ?_
    refine lv_iload_n hx hb dX0_change_15 rfl (lv_at hl 1 rfl) ?_
    refine l_x_bl hx hb hK hP (xat_self hq.1) dX0_change_16 ?_
    refine lv_iload_n hx hb dX0_change_17 rfl (lv_at hl 2 rfl) ?_
    refine lv_lload_n hx hb dX0_change_18 rfl (lv_at hl 3 rfl) ?_
    refine s_x_row hx hb hK hP hD hS (xat_lt (xat_self hq.1)) (xat_self hq.2) dX0_change_19 (fun H locs hP hD hS => ?_)
    have hP : va_P (dC, dI) vwCl (wX ad cL cZ cO (X_put S q.toNatClampNeg i.toNatClampNeg v)) H := hP
    have hD : va_D A (wX ad cL cZ cO (X_put S q.toNatClampNeg i.toNatClampNeg v)) := hD
    refine lv_iconst (v := 1) hx hb dX0_change_20 (by decide) ?_
    exact W.zret (v := (1 : Int32)) hx hb hr rfl (fun t ht hW => ⟨⟨_, (X_put S q.toNatClampNeg i.toNatClampNeg v), rfl, ⟨(by simp only [X_change, if_neg c6] <;> rfl), (by simp only [X_change, if_neg c6] <;> rfl)⟩, by rw [ht]; exact hP, va_K.moved hW.alike hK, hD⟩, hS.F ht⟩) hS.2.2 dX0_change_21
  · skip
    refine lv_iconst (v := 0) hx hb dX0_change_9 (by decide) ?_
    exact W.zret (v := (0 : Int32)) hx hb hr rfl (fun t ht hW => ⟨⟨_, S, rfl, ⟨(by simp only [X_change, if_pos c6] <;> rfl), (by simp only [X_change, if_pos c6] <;> rfl)⟩, by rw [ht]; exact hP, va_K.moved hW.alike hK, hD⟩, hS.F ht⟩) hS.2.2 dX0_change_10
end
section
set_option maxHeartbeats 4000000 in
set_option maxRecDepth 100000 in
theorem lp_X0_leastFree_2 {p : Program} {l : Launch} {e : Env} {s : State} {m : MethodId} {args : Array Value} {below : List Frame} {meth : Method} {c : Code} {Q : State → Prop} {dC : Nat → ClassId} {dI : Nat → Nat → Nat}  {H : Heap} {locs : List Loc} {ar : Nat} {cZ : ClassId} {nn : Nat} {f : Nat → Int32} (hn : nn < 2 ^ 31) (hx : p.tables.exec = Jvm.exec) (hb : c.code = cX0_leastFree) (hml : c.maxLocals = 2) (hown : s.vm.findClass RX0 = some m.cls) (hts : ∀ w ∈ wsX0_leastFree, w.before args s = true) (hK : va_K (dC, dI) vwCl ([(cZ, .boolean)] : List (ClassId × FieldType)) s) (hP : va_P (dC, dI) vwCl (([(ar, .inl (cZ, nn, .inl f))] : va_W)) H)
    (kk : ∀ (pc' : Nat) (r : Int32) (ls : Array Slot), pc' = 15 ∨ pc' = 23 → r = lfN f 0 nn → W p l e (headSpec wsX0_leastFree ({ frames := 0, cells := 0, slots := 0, locals := 0 })).room s m args below meth c H locs 0 0 Q (F0 m pc' ls [.int r])) :
    ∀ (n i : Nat) (ls : Array Slot), i ≤ nn → nn < i + n → lfN f i (nn - i) = lfN f 0 nn → lv_has ls 2 [(1, .int (nI i)), (0, .ref ar)] → W p l e (headSpec wsX0_leastFree ({ frames := 0, cells := 0, slots := 0, locals := 0 })).room s m args below meth c H locs 0 0 Q (F0 m 2 ls []) := by
  intro n
  induction n with
  | zero =>
    intro i ls hi hn
    omega
  | succ n ih =>
    intro i ls hi hn9 he hl
    refine lv_iload_n hx hb dX0_leastFree_2 rfl (lv_at hl 0 rfl) ?_
    refine lv_aload_n hx hb dX0_leastFree_3 rfl (lv_at hl 1 rfl) ?_
    refine va_alen (v := (nI nn)) hx hb hK hP 0 0 rfl rfl rfl dX0_leastFree_4 ?_
    refine lv_icmp_ge (tgt := 22) hx hb dX0_leastFree_5 (by decide) (fun c5 => ?_) (fun c5 => ?_)
    · skip
      have hi8 := xge hn hi c5
      subst hi8
      refine lv_iconst (v := -1) hx hb dX0_leastFree_22 (by decide) ?_
      exact kk 23 _ ls (Or.inr rfl) (by rw [← he, Nat.sub_self]; rfl)
    · skip
      have hlt := xlt hn hi c5
      refine lv_aload_n hx hb dX0_leastFree_8 rfl (lv_at hl 1 rfl) ?_
      refine lv_iload_n hx hb dX0_leastFree_9 rfl (lv_at hl 0 rfl) ?_
      refine xv_zald hx hb hK hP 0 0 rfl rfl (xat_nI hlt hn) dX0_leastFree_10 ?_
      refine lv_if_ne (tgt := 16) hx hb dX0_leastFree_11 (by decide) (fun c11 => ?_) (fun c11 => ?_)
      · skip
        rw [lfN_miss hlt c11] at he
        refine lv_iinc (v := (nI (i + 1))) (lv' := [(1, .int (nI (i + 1))), (0, .ref ar)]) hx hb dX0_leastFree_16 hl (k := 0) rfl (nI_1 i) (by decide) rfl (fun ls hl => ?_)
        refine lv_goto (tgt := 2) hx hb dX0_leastFree_19 (by decide) ?_
        exact ih (i + 1) ls (by omega) (by omega) he (lv_sub hl [0, 1] rfl)
      · skip
        rw [lfN_hit hlt c11] at he
        refine lv_iload_n hx hb dX0_leastFree_14 rfl (lv_at hl 0 rfl) ?_
        exact kk 15 _ ls (Or.inl rfl) he
set_option maxHeartbeats 4000000 in
set_option maxRecDepth 100000 in
theorem c_X0_leastFree (l : Launch) (dC : Nat → ClassId) (dI : Nat → Nat → Nat) (ar : Nat) (cZ : ClassId) (nn : Nat) (f : Nat → Int32) (hn : nn < 2 ^ 31) : Met l yX0_leastFree wsX0_leastFree ({ frames := 0, cells := 0, slots := 0, locals := 0 }) (va_Pc [.ref ar] (fun U => va_P (dC, dI) vwCl (([(ar, .inl (cZ, nn, .inl f))] : va_W)) U.heap ∧ va_K (dC, dI) vwCl ([(cZ, .boolean)] : List (ClassId × FieldType)) U)) (vp_Si (fun r => r = lfN f 0 nn)) 0 0 (fun _ => False) := by
  refine Met.ofW (cc := cX0_leastFree) (maxL := 2) (ret := (some .int)) (by decide) rfl ?_
  intro p e s m args below meth c s₁ B hml hv
  obtain ⟨rfl, hP, hK⟩ := hv
  have hx := B.exec
  have hb := B.bytes
  have hr := B.returns
  have hts := atoms_spec (ws := wsX0_leastFree) B.pre
  have hown : s.vm.findClass RX0 = some m.cls := findClass_of_methodNamed B.named
  have hlocks := B.notSynchronized
  have hl := lv_entry ([.ref ar]) (n := 2) (Nat.le_of_ble_eq_true rfl)
  rw [lg_entry_eq]
  generalize (lg_sl ([.ref ar]) ++ List.replicate (2 - (lg_sl ([.ref ar])).length) Slot.unset).toArray = ls at hl ⊢
  have hl : lv_has ls 2 [(0, .ref ar)] := hl
  refine lv_iconst (v := 0) hx hb dX0_leastFree_0 (by decide) ?_
  refine lv_istore_n (lv' := [(1, .int (0 : Int32)), (0, .ref ar)]) hx hb dX0_leastFree_1 rfl hl (by decide) rfl (fun ls hl => ?_)
  refine lp_X0_leastFree_2 hn hx hb hml hown hts hK hP (fun pc' r ls hpc hr9 => ?_) (nn + 1) 0 ls (Nat.zero_le _) (by omega) rfl (lv_sub hl [0, 1] rfl)
  rcases hpc with rfl | rfl
  · exact W.iret (v := r) hx hb hr (fun t ht hW => ⟨_, rfl, hr9, ht⟩) (fun _ h => by cases h) dX0_leastFree_15
  · exact W.iret (v := r) hx hb hr (fun t ht hW => ⟨_, rfl, hr9, ht⟩) (fun _ h => by cases h) dX0_leastFree_23
set_option maxHeartbeats 4000000 in
set_option maxRecDepth 100000 in
theorem lp_X0_leastKeyNamed_2 {p : Program} {l : Launch} {e : Env} {s : State} {m : MethodId} {args : Array Value} {below : List Frame} {meth : Method} {c : Code} {Q : State → Prop} {dC : Nat → ClassId} {dI : Nat → Nat → Nat} {ad : Nat → Nat} {cL cZ cO : ClassId} {S : SX} {H : Heap} {locs : List Loc} (name : Int64) (hx : p.tables.exec = Jvm.exec) (hb : c.code = cX0_leastKeyNamed) (hml : c.maxLocals = 4) (hown : s.vm.findClass RX0 = some m.cls) (hts : ∀ w ∈ wsX0_leastKeyNamed, w.before args s = true) (hK : va_K (dC, dI) vwCl (tyX cL cZ cO) s) (hP : va_P (dC, dI) vwCl (wX ad cL cZ cO S) H)
    (kk : ∀ (pc' : Nat) (r : Int32) (ls : Array Slot), pc' = 29 ∨ pc' = 37 → r = lkN (x_kt S) (x_kn S) name 0 6 → W p l e (headSpec wsX0_leastKeyNamed ({ frames := 0, cells := 0, slots := 0, locals := 0 })).room s m args below meth c H locs 0 0 Q (F0 m pc' ls [.int r])) :
    ∀ (n i : Nat) (ls : Array Slot), i ≤ 6 → 6 < i + n → lkN (x_kt S) (x_kn S) name i (6 - i) = lkN (x_kt S) (x_kn S) name 0 6 → lv_has ls 4 [(3, .int (nI i)), (0, .ref (ad 0)), (1, .long name)] → W p l e (headSpec wsX0_leastKeyNamed ({ frames := 0, cells := 0, slots := 0, locals := 0 })).room s m args below meth c H locs 0 0 Q (F0 m 2 ls []) := by
  have hin : ∀ w ∈ wsX00, w ∈ wsX0_leastKeyNamed := fun _ h => List.mem_cons_of_mem _ (List.mem_append_right _ h)
  intro n
  induction n with
  | zero =>
    intro i ls hi hn
    omega
  | succ n ih =>
    intro i ls hi hn9 he hl
    refine lv_iload_n hx hb dX0_leastKeyNamed_2 rfl (lv_at hl 0 rfl) ?_
    refine lv_bipush (v := 6) hx hb dX0_leastKeyNamed_3 (by decide) ?_
    refine lv_icmp_ge (tgt := 36) hx hb dX0_leastKeyNamed_5 (by decide) (fun c5 => ?_) (fun c5 => ?_)
    · skip
      have hi8 := xge (n := 6) (by decide) hi c5
      subst hi8
      refine lv_iconst (v := -1) hx hb dX0_leastKeyNamed_36 (by decide) ?_
      exact kk 37 _ ls (Or.inr rfl) (by rw [← he]; rfl)
    · skip
      have hlt := xlt (n := 6) (by decide) hi c5
      refine lv_aload_n hx hb dX0_leastKeyNamed_8 rfl (lv_at hl 1 rfl) ?_
      refine g_x_akt hx hb hts hin hown hK hP (hts (.fieldLink RX0 21 RX0 "keyThere" "[Z") (by decide +kernel)) dX0_leastKeyNamed_9 ?_
      refine lv_iload_n hx hb dX0_leastKeyNamed_12 rfl (lv_at hl 0 rfl) ?_
      refine l_x_kt hx hb hK hP (xat_nI hlt (by decide)) dX0_leastKeyNamed_13 ?_
      refine lv_if_eq (tgt := 30) hx hb dX0_leastKeyNamed_14 (by decide) (fun c14 => ?_) (fun c14 => ?_)
      · skip
        rw [lkN_skip hlt c14] at he
        refine lv_iinc (v := (nI (i + 1))) (lv' := [(3, .int (nI (i + 1))), (0, .ref (ad 0)), (1, .long name)]) hx hb dX0_leastKeyNamed_30 hl (k := 0) rfl (nI_1 i) (by decide) rfl (fun ls hl => ?_)
        refine lv_goto (tgt := 2) hx hb dX0_leastKeyNamed_33 (by decide) ?_
        exact ih (i + 1) ls (by omega) (by omega) he (lv_sub hl [0, 1, 2] rfl)
      · skip
        refine lv_aload_n hx hb dX0_leastKeyNamed_17 rfl (lv_at hl 1 rfl) ?_
        refine g_x_akn hx hb hts hin hown hK hP (hts (.fieldLink RX0 28 RX0 "keyNames" "[J") (by decide +kernel)) dX0_leastKeyNamed_18 ?_
        refine lv_iload_n hx hb dX0_leastKeyNamed_21 rfl (lv_at hl 0 rfl) ?_
        refine l_x_kn hx hb hK hP (xat_nI hlt (by decide)) dX0_leastKeyNamed_22 ?_
        refine lv_lload_n hx hb dX0_leastKeyNamed_23 rfl (lv_at hl 2 rfl) ?_
        refine W.lcmp hx hb dX0_leastKeyNamed_24 ?_
        refine lv_if_ne (tgt := 30) hx hb dX0_leastKeyNamed_25 (by decide) (fun c25 => ?_) (fun c25 => ?_)
        · skip
          rw [lkN_miss hlt c14 c25] at he
          refine lv_iinc (v := (nI (i + 1))) (lv' := [(3, .int (nI (i + 1))), (0, .ref (ad 0)), (1, .long name)]) hx hb dX0_leastKeyNamed_30 hl (k := 0) rfl (nI_1 i) (by decide) rfl (fun ls hl => ?_)
          refine lv_goto (tgt := 2) hx hb dX0_leastKeyNamed_33 (by decide) ?_
          exact ih (i + 1) ls (by omega) (by omega) he (lv_sub hl [0, 1, 2] rfl)
        · skip
          rw [lkN_hit hlt c14 c25] at he
          refine lv_iload_n hx hb dX0_leastKeyNamed_28 rfl (lv_at hl 0 rfl) ?_
          exact kk 29 _ ls (Or.inl rfl) he
set_option maxHeartbeats 4000000 in
set_option maxRecDepth 100000 in
theorem c_X0_leastKeyNamed (l : Launch) (dC : Nat → ClassId) (dI : Nat → Nat → Nat) (ad : Nat → Nat) (cL cZ cO : ClassId) (S : SX) (name : Int64)  : Met l yX0_leastKeyNamed wsX0_leastKeyNamed ({ frames := 0, cells := 0, slots := 0, locals := 0 }) (va_Pc [.ref (ad 0), .long name] (fun U => va_P (dC, dI) vwCl (wX ad cL cZ cO S) U.heap ∧ va_K (dC, dI) vwCl (tyX cL cZ cO) U)) (vp_Si (fun r => r = X_leastKeyNamed S name)) 0 0 (fun _ => False) := by
  refine Met.ofW (cc := cX0_leastKeyNamed) (maxL := 4) (ret := (some .int)) (by decide) rfl ?_
  intro p e s m args below meth c s₁ B hml hv
  obtain ⟨rfl, hP, hK⟩ := hv
  have hx := B.exec
  have hb := B.bytes
  have hr := B.returns
  have hts := atoms_spec (ws := wsX0_leastKeyNamed) B.pre
  have hown : s.vm.findClass RX0 = some m.cls := findClass_of_methodNamed B.named
  have hlocks := B.notSynchronized
  have hin : ∀ w ∈ wsX00, w ∈ wsX0_leastKeyNamed := fun _ h => List.mem_cons_of_mem _ (List.mem_append_right _ h)
  have hl := lv_entry ([.ref (ad 0), .long name]) (n := 4) (Nat.le_of_ble_eq_true rfl)
  rw [lg_entry_eq]
  generalize (lg_sl ([.ref (ad 0), .long name]) ++ List.replicate (4 - (lg_sl ([.ref (ad 0), .long name])).length) Slot.unset).toArray = ls at hl ⊢
  have hl : lv_has ls 4 [(0, .ref (ad 0)), (1, .long name)] := hl
  refine lv_iconst (v := 0) hx hb dX0_leastKeyNamed_0 (by decide) ?_
  refine lv_istore_n (lv' := [(3, .int (0 : Int32)), (0, .ref (ad 0)), (1, .long name)]) hx hb dX0_leastKeyNamed_1 rfl hl (by decide) rfl (fun ls hl => ?_)
  refine lp_X0_leastKeyNamed_2 name hx hb hml hown hts hK hP (fun pc' r ls hpc hr9 => ?_) 7 0 ls (by decide) (by decide) rfl (lv_sub hl [0, 1, 2] rfl)
  rcases hpc with rfl | rfl
  · exact W.iret (v := r) hx hb hr (fun t ht hW => ⟨_, rfl, hr9, ht⟩) (fun _ h => by cases h) dX0_leastKeyNamed_29
  · exact W.iret (v := r) hx hb hr (fun t ht hW => ⟨_, rfl, hr9, ht⟩) (fun _ h => by cases h) dX0_leastKeyNamed_37
set_option maxHeartbeats 4000000 in
set_option maxRecDepth 100000 in
theorem lp_X0_digestNow_16 {p : Program} {l : Launch} {e : Env} {s : State} {m : MethodId} {args : Array Value} {below : List Frame} {meth : Method} {c : Code} {Q : State → Prop} {dC : Nat → ClassId} {dI : Nat → Nat → Nat} {ad : Nat → Nat} {cL cZ cO : ClassId} {S : SX} {H : Heap} {locs : List Loc} (mask : Int32) (h0 : Int64) (hx : p.tables.exec = Jvm.exec) (hb : c.code = cX0_digestNow) (hml : c.maxLocals = 5) (hown : s.vm.findClass RX0 = some m.cls) (hts : ∀ w ∈ wsX0_digestNow, w.before args s = true) (hK : va_K (dC, dI) vwCl (tyX cL cZ cO) s) (hP : va_P (dC, dI) vwCl (wX ad cL cZ cO S) H)
    (kk : ∀ (ls : Array Slot), lv_has ls 5 [(4, .int (nI 8)), (2, .long (dgX (x_rg S) mask h0 8)), (0, .ref (ad 0)), (1, .int mask)] → W p l e (headSpec wsX0_digestNow ({ frames := 1, cells := 0, slots := 0, locals := 25 })).room s m args below meth c H locs 0 0 Q (F0 m 50 ls [])) :
    ∀ (n i : Nat) (ls : Array Slot), i ≤ 8 → 8 < i + n → lv_has ls 5 [(4, .int (nI i)), (2, .long (dgX (x_rg S) mask h0 i)), (0, .ref (ad 0)), (1, .int mask)] → W p l e (headSpec wsX0_digestNow ({ frames := 1, cells := 0, slots := 0, locals := 25 })).room s m args below meth c H locs 0 0 Q (F0 m 16 ls []) := by
  have hin : ∀ w ∈ wsX00, w ∈ wsX0_digestNow := fun _ h => List.mem_cons_of_mem _ (List.mem_append_right _ h)
  intro n
  induction n with
  | zero =>
    intro i  ls hi hn9
    omega
  | succ n ih =>
    intro i  ls hi hn9 hl
    refine lv_iload hx hb dX0_digestNow_16 (lv_at hl 0 rfl) ?_
    refine lv_bipush (v := 8) hx hb dX0_digestNow_18 (by decide) ?_
    refine lv_icmp_ge (tgt := 50) hx hb dX0_digestNow_20 (by decide) (fun c20 => ?_) (fun c20 => ?_)
    · skip
      have hi8 := xge (n := 8) (by decide) hi c20
      subst hi8
      exact kk  ls (lv_sub hl [0, 1, 2, 3] rfl)
    · skip
      have hlt := xlt (n := 8) (by decide) hi c20
      refine lv_iload_n hx hb dX0_digestNow_23 rfl (lv_at hl 3 rfl) ?_
      refine lv_iload hx hb dX0_digestNow_24 (lv_at hl 0 rfl) ?_
      refine lv_ishr hx hb dX0_digestNow_26 ?_
      refine lv_iconst (v := 1) hx hb dX0_digestNow_27 (by decide) ?_
      refine lv_iand hx hb dX0_digestNow_28 ?_
      refine lv_if_eq (tgt := 44) hx hb dX0_digestNow_29 (by decide) (fun c29 => ?_) (fun c29 => ?_)
      · skip
        refine lv_iinc (v := (nI (i + 1))) (lv' := [(4, .int (nI (i + 1))), (2, .long (dgX (x_rg S) mask h0 i)), (0, .ref (ad 0)), (1, .int mask)]) hx hb dX0_digestNow_44 hl (k := 0) rfl (nI_1 i) (by decide) rfl (fun ls hl => ?_)
        refine lv_goto (tgt := 16) hx hb dX0_digestNow_47 (by decide) ?_
        exact ih (i + 1) ls (by omega) (by omega) (by rw [show dgX (x_rg S) mask h0 (i + 1) = dgX (x_rg S) mask h0 i from if_pos c29]; exact lv_sub hl [0, 1, 2, 3] rfl)
      · skip
        refine lv_lload_n hx hb dX0_digestNow_32 rfl (lv_at hl 1 rfl) ?_
        refine lv_aload_n hx hb dX0_digestNow_33 rfl (lv_at hl 2 rfl) ?_
        refine g_x_arg hx hb hts hin hown hK hP (hts (.fieldLink RX0 17 RX0 "registers" "[J") (by decide +kernel)) dX0_digestNow_34 ?_
        refine lv_iload hx hb dX0_digestNow_37 (lv_at hl 0 rfl) ?_
        refine l_x_rg hx hb hK hP (xat_nI hlt (by decide)) dX0_digestNow_39 ?_
        refine vp_callSl (va_Run.run (va_runS (As := [.long (dgX (x_rg S) mask h0 i), .long (x_rg S i)]) (rest := []) ⟨hx, hb, hml, hown, hts⟩ (c_X0_fold l (dgX (x_rg S) mask h0 i) (x_rg S i) ) (va_cwS 2 hts gX0_digestNow_X0_fold rfl rfl rfl (by decide +kernel) ⟨Nat.le_of_ble_eq_true rfl, Nat.le_of_ble_eq_true rfl⟩) (xpS_n _) rfl rfl hl.1 rfl (lv_room (Nat.le_of_ble_eq_true rfl)) dX0_digestNow_40 ⟨Nat.le_of_ble_eq_true rfl, Nat.le_of_ble_eq_true rfl⟩)) (fun r hr9 => ?_)
        subst hr9
        refine lv_lstore_n (lv' := [(2, .long (fo (dgX (x_rg S) mask h0 i) (x_rg S i))), (4, .int (nI i)), (0, .ref (ad 0)), (1, .int mask)]) hx hb dX0_digestNow_43 rfl hl (by decide) rfl (fun ls hl => ?_)
        refine lv_iinc (v := (nI (i + 1))) (lv' := [(4, .int (nI (i + 1))), (2, .long (fo (dgX (x_rg S) mask h0 i) (x_rg S i))), (0, .ref (ad 0)), (1, .int mask)]) hx hb dX0_digestNow_44 hl (k := 1) rfl (nI_1 i) (by decide) rfl (fun ls hl => ?_)
        refine lv_goto (tgt := 16) hx hb dX0_digestNow_47 (by decide) ?_
        exact ih (i + 1) ls (by omega) (by omega) (by rw [show dgX (x_rg S) mask h0 (i + 1) = fo (dgX (x_rg S) mask h0 i) (x_rg S i) from if_neg c29]; exact lv_sub hl [0, 1, 2, 3] rfl)
set_option maxHeartbeats 4000000 in
set_option maxRecDepth 100000 in
theorem c_X0_digestNow (l : Launch) (dC : Nat → ClassId) (dI : Nat → Nat → Nat) (ad : Nat → Nat) (cL cZ cO : ClassId) (S : SX) (mask : Int32)  : Met l yX0_digestNow wsX0_digestNow ({ frames := 1, cells := 0, slots := 0, locals := 25 }) (va_Pc [.ref (ad 0), .int mask] (fun U => va_P (dC, dI) vwCl (wX ad cL cZ cO S) U.heap ∧ va_K (dC, dI) vwCl (tyX cL cZ cO) U)) (vp_Sl (fun r => r = X_digestNow S mask)) 0 0 (fun _ => False) := by
  refine Met.ofW (cc := cX0_digestNow) (maxL := 5) (ret := (some .long)) (by decide) rfl ?_
  intro p e s m args below meth c s₁ B hml hv
  obtain ⟨rfl, hP, hK⟩ := hv
  have hx := B.exec
  have hb := B.bytes
  have hr := B.returns
  have hts := atoms_spec (ws := wsX0_digestNow) B.pre
  have hown : s.vm.findClass RX0 = some m.cls := findClass_of_methodNamed B.named
  have hlocks := B.notSynchronized
  have hin : ∀ w ∈ wsX00, w ∈ wsX0_digestNow := fun _ h => List.mem_cons_of_mem _ (List.mem_append_right _ h)
  have hl := lv_entry ([.ref (ad 0), .int mask]) (n := 5) (Nat.le_of_ble_eq_true rfl)
  rw [lg_entry_eq]
  generalize (lg_sl ([.ref (ad 0), .int mask]) ++ List.replicate (5 - (lg_sl ([.ref (ad 0), .int mask])).length) Slot.unset).toArray = ls at hl ⊢
  have hl : lv_has ls 5 [(0, .ref (ad 0)), (1, .int mask)] := hl
  refine lv_iconst (v := 1) hx hb dX0_digestNow_0 (by decide) ?_
  refine lv_iload_n hx hb dX0_digestNow_1 rfl (lv_at hl 1 rfl) ?_
  refine vp_callSi (va_Run.run (va_runS (As := [.int mask]) (rest := [.int (1 : Int32)]) ⟨hx, hb, hml, hown, hts⟩ (c_J6_bitCount_0f7a4 l mask ) (va_cwS 1 hts gX0_digestNow_J6_bitCount_0f7a4 rfl rfl rfl (by decide +kernel) ⟨Nat.le_of_ble_eq_true rfl, Nat.le_of_ble_eq_true rfl⟩) (xpS_n _) rfl rfl hl.1 rfl (lv_room (Nat.le_of_ble_eq_true rfl)) dX0_digestNow_2 ⟨Nat.le_of_ble_eq_true rfl, Nat.le_of_ble_eq_true rfl⟩)) (fun r hr9 => ?_)
  subst hr9
  refine lv_iadd hx hb dX0_digestNow_5 ?_
  refine lv_i2l hx hb dX0_digestNow_6 rfl ?_
  refine lv_iload_n hx hb dX0_digestNow_7 rfl (lv_at hl 1 rfl) ?_
  refine lv_i2l hx hb dX0_digestNow_8 rfl ?_
  refine vp_callSl (va_Run.run (va_runS (As := [.long (((1 : Int32) + (bc32 mask)).toInt64), .long mask.toInt64]) (rest := []) ⟨hx, hb, hml, hown, hts⟩ (c_X0_fold l (((1 : Int32) + (bc32 mask)).toInt64) mask.toInt64 ) (va_cwS 2 hts gX0_digestNow_X0_fold rfl rfl rfl (by decide +kernel) ⟨Nat.le_of_ble_eq_true rfl, Nat.le_of_ble_eq_true rfl⟩) (xpS_n _) rfl rfl hl.1 rfl (lv_room (Nat.le_of_ble_eq_true rfl)) dX0_digestNow_9 ⟨Nat.le_of_ble_eq_true rfl, Nat.le_of_ble_eq_true rfl⟩)) (fun r hr9 => ?_)
  subst hr9
  refine lv_lstore_n (lv' := [(2, .long (fo (((1 : Int32) + (bc32 mask)).toInt64) mask.toInt64)), (0, .ref (ad 0)), (1, .int mask)]) hx hb dX0_digestNow_12 rfl hl (by decide) rfl (fun ls hl => ?_)
  refine lv_iconst (v := 0) hx hb dX0_digestNow_13 (by decide) ?_
  refine lv_istore (lv' := [(4, .int (0 : Int32)), (2, .long (fo (((1 : Int32) + (bc32 mask)).toInt64) mask.toInt64)), (0, .ref (ad 0)), (1, .int mask)]) hx hb dX0_digestNow_14 hl (by decide) rfl (fun ls hl => ?_)
  refine lp_X0_digestNow_16 (S := S) mask (fo (1 + bc32 mask).toInt64 mask.toInt64) hx hb hml hown hts hK hP (fun  ls hl => ?_) (8 + 1) 0 ls (Nat.zero_le _) (by omega) (lv_sub hl [0, 1, 2, 3] rfl)
  refine lv_lload_n hx hb dX0_digestNow_50 rfl (lv_at hl 1 rfl) ?_
  exact W.lret (v := (dgX (x_rg S) mask (fo (1 + bc32 mask).toInt64 mask.toInt64) 8)) hx hb hr (fun t ht hW => ⟨_, rfl, rfl, ht⟩) (fun _ h => by cases h) dX0_digestNow_51
set_option maxHeartbeats 4000000 in
set_option maxRecDepth 100000 in
theorem lp_X0_sealOf_12 {p : Program} {l : Launch} {e : Env} {s : State} {m : MethodId} {args : Array Value} {below : List Frame} {meth : Method} {c : Code} {Q : State → Prop} {dC : Nat → ClassId} {dI : Nat → Nat → Nat} {ad : Nat → Nat} {cL cZ cO : ClassId} {S : SX} {H : Heap} {locs : List Loc} (q : Nat) (hq : q < 10) (hx : p.tables.exec = Jvm.exec) (hb : c.code = cX0_sealOf) (hml : c.maxLocals = 5) (hown : s.vm.findClass RX0 = some m.cls) (hts : ∀ w ∈ wsX0_sealOf, w.before args s = true) (hK : va_K (dC, dI) vwCl (tyX cL cZ cO) s) (hP : va_P (dC, dI) vwCl (wX ad cL cZ cO S) H)
    (kk : ∀ (ls : Array Slot), lv_has ls 5 [(4, .int (nI 5)), (2, .long (foN (mB (x_m S) 5) (x_bl S q) 5)), (0, .ref (ad 0)), (1, .ref (ad (9 + q)))] → W p l e (headSpec wsX0_sealOf ({ frames := 3, cells := 0, slots := 0, locals := 71 })).room s m args below meth c H locs 0 0 Q (F0 m 33 ls [])) :
    ∀ (n i : Nat) (ls : Array Slot), i ≤ 5 → 5 < i + n → lv_has ls 5 [(4, .int (nI i)), (2, .long (foN (mB (x_m S) 5) (x_bl S q) i)), (0, .ref (ad 0)), (1, .ref (ad (9 + q)))] → W p l e (headSpec wsX0_sealOf ({ frames := 3, cells := 0, slots := 0, locals := 71 })).room s m args below meth c H locs 0 0 Q (F0 m 12 ls []) := by
  have hin : ∀ w ∈ wsX00, w ∈ wsX0_sealOf := fun _ h => List.mem_cons_of_mem _ (List.mem_append_right _ h)
  intro n
  induction n with
  | zero =>
    intro i  ls hi hn9
    omega
  | succ n ih =>
    intro i  ls hi hn9 hl
    refine lv_iload hx hb dX0_sealOf_12 (lv_at hl 0 rfl) ?_
    refine lv_iconst (v := 5) hx hb dX0_sealOf_14 (by decide) ?_
    refine lv_icmp_ge (tgt := 33) hx hb dX0_sealOf_15 (by decide) (fun c15 => ?_) (fun c15 => ?_)
    · skip
      have hi8 := xge (n := 5) (by decide) hi c15
      subst hi8
      exact kk  ls (lv_sub hl [0, 1, 2, 3] rfl)
    · skip
      have hlt := xlt (n := 5) (by decide) hi c15
      refine lv_lload_n hx hb dX0_sealOf_18 rfl (lv_at hl 1 rfl) ?_
      refine lv_aload_n hx hb dX0_sealOf_19 rfl (lv_at hl 3 rfl) ?_
      refine lv_iload hx hb dX0_sealOf_20 (lv_at hl 0 rfl) ?_
      refine l_x_row hx hb hK hP hq (xat_nI (Nat.lt_of_lt_of_le hlt (by decide)) (by decide)) dX0_sealOf_22 ?_
      refine vp_callSl (va_Run.run (va_runS (As := [.long (foN (mB (x_m S) 5) (x_bl S q) i), .long (x_bl S q i)]) (rest := []) ⟨hx, hb, hml, hown, hts⟩ (c_X0_fold l (foN (mB (x_m S) 5) (x_bl S q) i) (x_bl S q i) ) (va_cwS 2 hts gX0_sealOf_X0_fold rfl rfl rfl (by decide +kernel) ⟨Nat.le_of_ble_eq_true rfl, Nat.le_of_ble_eq_true rfl⟩) (xpS_n _) rfl rfl hl.1 rfl (lv_room (Nat.le_of_ble_eq_true rfl)) dX0_sealOf_23 ⟨Nat.le_of_ble_eq_true rfl, Nat.le_of_ble_eq_true rfl⟩)) (fun r hr9 => ?_)
      subst hr9
      refine lv_lstore_n (lv' := [(2, .long (fo (foN (mB (x_m S) 5) (x_bl S q) i) (x_bl S q i))), (4, .int (nI i)), (0, .ref (ad 0)), (1, .ref (ad (9 + q)))]) hx hb dX0_sealOf_26 rfl hl (by decide) rfl (fun ls hl => ?_)
      refine lv_iinc (v := (nI (i + 1))) (lv' := [(4, .int (nI (i + 1))), (2, .long (fo (foN (mB (x_m S) 5) (x_bl S q) i) (x_bl S q i))), (0, .ref (ad 0)), (1, .ref (ad (9 + q)))]) hx hb dX0_sealOf_27 hl (k := 1) rfl (nI_1 i) (by decide) rfl (fun ls hl => ?_)
      refine lv_goto (tgt := 12) hx hb dX0_sealOf_30 (by decide) ?_
      exact ih (i + 1) ls (by omega) (by omega) (lv_sub hl [0, 1, 2, 3] rfl)
set_option maxHeartbeats 4000000 in
set_option maxRecDepth 100000 in
theorem c_X0_sealOf (l : Launch) (dC : Nat → ClassId) (dI : Nat → Nat → Nat) (ad : Nat → Nat) (cL cZ cO : ClassId) (S : SX) (q : Nat) (hq : q < 10) : Met l yX0_sealOf wsX0_sealOf ({ frames := 3, cells := 0, slots := 0, locals := 71 }) (va_Pc [.ref (ad 0), .ref (ad (9 + q))] (fun U => va_P (dC, dI) vwCl (wX ad cL cZ cO S) U.heap ∧ va_K (dC, dI) vwCl (tyX cL cZ cO) U)) (vp_Sl (fun r => r = X_sealOf S q)) 0 0 (fun _ => False) := by
  refine Met.ofW (cc := cX0_sealOf) (maxL := 5) (ret := (some .long)) (by decide) rfl ?_
  intro p e s m args below meth c s₁ B hml hv
  obtain ⟨rfl, hP, hK⟩ := hv
  have hx := B.exec
  have hb := B.bytes
  have hr := B.returns
  have hts := atoms_spec (ws := wsX0_sealOf) B.pre
  have hown : s.vm.findClass RX0 = some m.cls := findClass_of_methodNamed B.named
  have hlocks := B.notSynchronized
  have hin : ∀ w ∈ wsX00, w ∈ wsX0_sealOf := fun _ h => List.mem_cons_of_mem _ (List.mem_append_right _ h)
  have hl := lv_entry ([.ref (ad 0), .ref (ad (9 + q))]) (n := 5) (Nat.le_of_ble_eq_true rfl)
  rw [lg_entry_eq]
  generalize (lg_sl ([.ref (ad 0), .ref (ad (9 + q))]) ++ List.replicate (5 - (lg_sl ([.ref (ad 0), .ref (ad (9 + q))])).length) Slot.unset).toArray = ls at hl ⊢
  have hl : lv_has ls 5 [(0, .ref (ad 0)), (1, .ref (ad (9 + q)))] := hl
  refine lv_aload_n hx hb dX0_sealOf_0 rfl (lv_at hl 0 rfl) ?_
  refine g_x_m hx hb hts hin hown hK hP (hts (.fieldLink RX0 13 RX0 "machineSecret" "J") (by decide +kernel)) dX0_sealOf_1 ?_
  refine lv_iconst (v := 5) hx hb dX0_sealOf_4 (by decide) ?_
  refine vp_callSl (va_Run.run (va_runS (As := [.long (x_m S), .int (5 : Int32)]) (rest := []) ⟨hx, hb, hml, hown, hts⟩ (c_X0_macBegin l (x_m S) (5 : Int32) ) (va_cwS 2 hts gX0_sealOf_X0_macBegin rfl rfl rfl (by decide +kernel) ⟨Nat.le_of_ble_eq_true rfl, Nat.le_of_ble_eq_true rfl⟩) (xpS_n _) rfl rfl hl.1 rfl (lv_room (Nat.le_of_ble_eq_true rfl)) dX0_sealOf_5 ⟨Nat.le_of_ble_eq_true rfl, Nat.le_of_ble_eq_true rfl⟩)) (fun r hr9 => ?_)
  subst hr9
  refine lv_lstore_n (lv' := [(2, .long (mB (x_m S) (5 : Int32))), (0, .ref (ad 0)), (1, .ref (ad (9 + q)))]) hx hb dX0_sealOf_8 rfl hl (by decide) rfl (fun ls hl => ?_)
  refine lv_iconst (v := 0) hx hb dX0_sealOf_9 (by decide) ?_
  refine lv_istore (lv' := [(4, .int (0 : Int32)), (2, .long (mB (x_m S) (5 : Int32))), (0, .ref (ad 0)), (1, .ref (ad (9 + q)))]) hx hb dX0_sealOf_10 hl (by decide) rfl (fun ls hl => ?_)
  refine lp_X0_sealOf_12 (S := S) q hq hx hb hml hown hts hK hP (fun  ls hl => ?_) (5 + 1) 0 ls (Nat.zero_le _) (by omega) (lv_sub hl [0, 1, 2, 3] rfl)
  refine lv_aload_n hx hb dX0_sealOf_33 rfl (lv_at hl 2 rfl) ?_
  refine g_x_m hx hb hts hin hown hK hP (hts (.fieldLink RX0 13 RX0 "machineSecret" "J") (by decide +kernel)) dX0_sealOf_34 ?_
  refine lv_lload_n hx hb dX0_sealOf_37 rfl (lv_at hl 1 rfl) ?_
  refine vp_callSl (va_Run.run (va_runS (As := [.long (x_m S), .long (foN (mB (x_m S) 5) (x_bl S q) 5)]) (rest := []) ⟨hx, hb, hml, hown, hts⟩ (c_X0_macEnd l (x_m S) (foN (mB (x_m S) 5) (x_bl S q) 5) ) (va_cwS 2 hts gX0_sealOf_X0_macEnd rfl rfl rfl (by decide +kernel) ⟨Nat.le_of_ble_eq_true rfl, Nat.le_of_ble_eq_true rfl⟩) (xpS_n _) rfl rfl hl.1 rfl (lv_room (Nat.le_of_ble_eq_true rfl)) dX0_sealOf_38 ⟨Nat.le_of_ble_eq_true rfl, Nat.le_of_ble_eq_true rfl⟩)) (fun r hr9 => ?_)
  subst hr9
  exact W.lret (v := (mE (x_m S) (foN (mB (x_m S) 5) (x_bl S q) 5))) hx hb hr (fun t ht hW => ⟨_, rfl, rfl, ht⟩) (fun _ h => by cases h) dX0_sealOf_41
set_option maxHeartbeats 4000000 in
set_option maxRecDepth 100000 in
theorem c_X0_isPolicyMet (l : Launch) (dC : Nat → ClassId) (dI : Nat → Nat → Nat) (ad : Nat → Nat) (cL cZ cO : ClassId) (S : SX) (q : Nat) (hq : q < 10) : Met l yX0_isPolicyMet wsX0_isPolicyMet ({ frames := 2, cells := 0, slots := 0, locals := 49 }) (va_Pc [.ref (ad 0), .ref (ad (9 + q))] (fun U => va_P (dC, dI) vwCl (wX ad cL cZ cO S) U.heap ∧ va_K (dC, dI) vwCl (tyX cL cZ cO) U)) (vp_Si (fun r => r = X_isPolicyMet S q)) 0 0 (fun _ => False) := by
  refine Met.ofW (cc := cX0_isPolicyMet) (maxL := 4) (ret := (some .boolean)) (by decide) rfl ?_
  intro p e s m args below meth c s₁ B hml hv
  obtain ⟨rfl, hP, hK⟩ := hv
  have hx := B.exec
  have hb := B.bytes
  have hr := B.returns
  have hts := atoms_spec (ws := wsX0_isPolicyMet) B.pre
  have hown : s.vm.findClass RX0 = some m.cls := findClass_of_methodNamed B.named
  have hlocks := B.notSynchronized
  have hin : ∀ w ∈ wsX00, w ∈ wsX0_isPolicyMet := fun _ h => List.mem_cons_of_mem _ (List.mem_append_right _ h)
  have hl := lv_entry ([.ref (ad 0), .ref (ad (9 + q))]) (n := 4) (Nat.le_of_ble_eq_true rfl)
  rw [lg_entry_eq]
  generalize (lg_sl ([.ref (ad 0), .ref (ad (9 + q))]) ++ List.replicate (4 - (lg_sl ([.ref (ad 0), .ref (ad (9 + q))])).length) Slot.unset).toArray = ls at hl ⊢
  have hl : lv_has ls 4 [(0, .ref (ad 0)), (1, .ref (ad (9 + q)))] := hl
  refine lv_aload_n hx hb dX0_isPolicyMet_0 rfl (lv_at hl 1 rfl) ?_
  refine lv_iconst (v := 1) hx hb dX0_isPolicyMet_1 (by decide) ?_
  refine l_x_row hx hb hK hP hq (xat_nI (by decide) (by decide)) dX0_isPolicyMet_2 ?_
  refine lv_lstore_n (lv' := [(2, .long (x_bl S q 1)), (0, .ref (ad 0)), (1, .ref (ad (9 + q)))]) hx hb dX0_isPolicyMet_3 rfl hl (by decide) rfl (fun ls hl => ?_)
  refine lv_lload_n hx hb dX0_isPolicyMet_4 rfl (lv_at hl 0 rfl) ?_
  refine vp_callSi (va_Run.run (va_runS (As := [.long (x_bl S q 1)]) (rest := []) ⟨hx, hb, hml, hown, hts⟩ (c_X0_isMask l (x_bl S q 1) ) (va_cwS 1 hts gX0_isPolicyMet_X0_isMask rfl rfl rfl (by decide +kernel) ⟨Nat.le_of_ble_eq_true rfl, Nat.le_of_ble_eq_true rfl⟩) (xpS_n _) rfl rfl hl.1 rfl (lv_room (Nat.le_of_ble_eq_true rfl)) dX0_isPolicyMet_5 ⟨Nat.le_of_ble_eq_true rfl, Nat.le_of_ble_eq_true rfl⟩)) (fun r hr9 => ?_)
  subst hr9
  refine lv_if_eq (tgt := 28) hx hb dX0_isPolicyMet_8 (by decide) (fun c8 => ?_) (fun c8 => ?_)
  · skip
    refine lv_iconst (v := 0) hx hb dX0_isPolicyMet_28 (by decide) ?_
    exact W.zret (v := (0 : Int32)) hx hb hr rfl (fun t ht hW => ⟨_, rfl, (by simp only [X_isPolicyMet, if_pos c8] <;> rfl), ht⟩) (fun _ h => by cases h) dX0_isPolicyMet_29
  · skip
    refine lv_aload_n hx hb dX0_isPolicyMet_11 rfl (lv_at hl 1 rfl) ?_
    refine lv_lload_n hx hb dX0_isPolicyMet_12 rfl (lv_at hl 0 rfl) ?_
    refine lv_l2i hx hb dX0_isPolicyMet_13 rfl ?_
    refine vp_callSl (va_Run.run (va_runV (As := [.int ((x_bl S q 1).toInt32)]) (rest := []) ⟨hx, hb, hml, hown, hts⟩ (c_X0_digestNow l dC dI ad cL cZ cO S ((x_bl S q 1).toInt32) ) (cwV 1 hts gX0_isPolicyMet_X0_digestNow rfl rfl rfl (by decide +kernel) ⟨Nat.le_of_ble_eq_true rfl, Nat.le_of_ble_eq_true rfl⟩) (xpV_r [.int ((x_bl S q 1).toInt32)] hK hP (va_recv hK hP (ci := 0) (q0 := 0) rfl rfl)) rfl rfl hl.1 rfl (lv_room (Nat.le_of_ble_eq_true rfl)) dX0_isPolicyMet_14 ⟨Nat.le_of_ble_eq_true rfl, Nat.le_of_ble_eq_true rfl⟩)) (fun r hr9 => ?_)
    subst hr9
    refine lv_aload_n hx hb dX0_isPolicyMet_17 rfl (lv_at hl 2 rfl) ?_
    refine lv_iconst (v := 2) hx hb dX0_isPolicyMet_18 (by decide) ?_
    refine l_x_row hx hb hK hP hq (xat_nI (by decide) (by decide)) dX0_isPolicyMet_19 ?_
    refine W.lcmp hx hb dX0_isPolicyMet_20 ?_
    refine lv_if_ne (tgt := 28) hx hb dX0_isPolicyMet_21 (by decide) (fun c21 => ?_) (fun c21 => ?_)
    · skip
      refine lv_iconst (v := 0) hx hb dX0_isPolicyMet_28 (by decide) ?_
      exact W.zret (v := (0 : Int32)) hx hb hr rfl (fun t ht hW => ⟨_, rfl, (by simp only [X_isPolicyMet, if_neg c8, if_neg c21] <;> rfl), ht⟩) (fun _ h => by cases h) dX0_isPolicyMet_29
    · skip
      refine lv_iconst (v := 1) hx hb dX0_isPolicyMet_24 (by decide) ?_
      refine lv_goto (tgt := 29) hx hb dX0_isPolicyMet_25 (by decide) ?_
      exact W.zret (v := (1 : Int32)) hx hb hr rfl (fun t ht hW => ⟨_, rfl, (by simp only [X_isPolicyMet, if_neg c8, if_pos c21] <;> rfl), ht⟩) (fun _ h => by cases h) dX0_isPolicyMet_29
set_option maxHeartbeats 4000000 in
set_option maxRecDepth 100000 in
theorem c_X0_signature (l : Launch) (dC : Nat → ClassId) (dI : Nat → Nat → Nat) (ad : Nat → Nat) (cL cZ cO : ClassId) (S : SX) (k : Int64) (mask : Int32) (ch : Int64)  : Met l yX0_signature wsX0_signature ({ frames := 3, cells := 0, slots := 0, locals := 71 }) (va_Pc [.ref (ad 0), .long k, .int mask, .long ch] (fun U => va_P (dC, dI) vwCl (wX ad cL cZ cO S) U.heap ∧ va_K (dC, dI) vwCl (tyX cL cZ cO) U)) (vp_Sl (fun r => r = X_signature S k mask ch)) 0 0 (fun _ => False) := by
  refine Met.ofW (cc := cX0_signature) (maxL := 8) (ret := (some .long)) (by decide) rfl ?_
  intro p e s m args below meth c s₁ B hml hv
  obtain ⟨rfl, hP, hK⟩ := hv
  have hx := B.exec
  have hb := B.bytes
  have hr := B.returns
  have hts := atoms_spec (ws := wsX0_signature) B.pre
  have hown : s.vm.findClass RX0 = some m.cls := findClass_of_methodNamed B.named
  have hlocks := B.notSynchronized
  have hin : ∀ w ∈ wsX00, w ∈ wsX0_signature := fun _ h => List.mem_cons_of_mem _ (List.mem_append_right _ h)
  have hl := lv_entry ([.ref (ad 0), .long k, .int mask, .long ch]) (n := 8) (Nat.le_of_ble_eq_true rfl)
  rw [lg_entry_eq]
  generalize (lg_sl ([.ref (ad 0), .long k, .int mask, .long ch]) ++ List.replicate (8 - (lg_sl ([.ref (ad 0), .long k, .int mask, .long ch])).length) Slot.unset).toArray = ls at hl ⊢
  have hl : lv_has ls 8 [(0, .ref (ad 0)), (1, .long k), (3, .int mask), (4, .long ch)] := hl
  refine lv_lload_n hx hb dX0_signature_0 rfl (lv_at hl 1 rfl) ?_
  refine lv_iconst (v := 3) hx hb dX0_signature_1 (by decide) ?_
  refine vp_callSl (va_Run.run (va_runS (As := [.long k, .int (3 : Int32)]) (rest := []) ⟨hx, hb, hml, hown, hts⟩ (c_X0_macBegin l k (3 : Int32) ) (va_cwS 2 hts gX0_signature_X0_macBegin rfl rfl rfl (by decide +kernel) ⟨Nat.le_of_ble_eq_true rfl, Nat.le_of_ble_eq_true rfl⟩) (xpS_n _) rfl rfl hl.1 rfl (lv_room (Nat.le_of_ble_eq_true rfl)) dX0_signature_2 ⟨Nat.le_of_ble_eq_true rfl, Nat.le_of_ble_eq_true rfl⟩)) (fun r hr9 => ?_)
  subst hr9
  refine lv_lstore (lv' := [(6, .long (mB k (3 : Int32))), (0, .ref (ad 0)), (1, .long k), (3, .int mask), (4, .long ch)]) hx hb dX0_signature_5 hl (by decide) rfl (fun ls hl => ?_)
  refine lv_lload hx hb dX0_signature_7 (lv_at hl 0 rfl) ?_
  refine lv_iload_n hx hb dX0_signature_9 rfl (lv_at hl 3 rfl) ?_
  refine lv_i2l hx hb dX0_signature_10 rfl ?_
  refine vp_callSl (va_Run.run (va_runS (As := [.long (mB k (3 : Int32)), .long mask.toInt64]) (rest := []) ⟨hx, hb, hml, hown, hts⟩ (c_X0_fold l (mB k (3 : Int32)) mask.toInt64 ) (va_cwS 2 hts gX0_signature_X0_fold rfl rfl rfl (by decide +kernel) ⟨Nat.le_of_ble_eq_true rfl, Nat.le_of_ble_eq_true rfl⟩) (xpS_n _) rfl rfl hl.1 rfl (lv_room (Nat.le_of_ble_eq_true rfl)) dX0_signature_11 ⟨Nat.le_of_ble_eq_true rfl, Nat.le_of_ble_eq_true rfl⟩)) (fun r hr9 => ?_)
  subst hr9
  refine lv_lstore (lv' := [(6, .long (fo (mB k (3 : Int32)) mask.toInt64)), (0, .ref (ad 0)), (1, .long k), (3, .int mask), (4, .long ch)]) hx hb dX0_signature_14 hl (by decide) rfl (fun ls hl => ?_)
  refine lv_lload hx hb dX0_signature_16 (lv_at hl 0 rfl) ?_
  refine lv_aload_n hx hb dX0_signature_18 rfl (lv_at hl 1 rfl) ?_
  refine lv_iload_n hx hb dX0_signature_19 rfl (lv_at hl 3 rfl) ?_
  refine vp_callSl (va_Run.run (va_runV (As := [.int mask]) (rest := [.long (fo (mB k (3 : Int32)) mask.toInt64)]) ⟨hx, hb, hml, hown, hts⟩ (c_X0_digestNow l dC dI ad cL cZ cO S mask ) (cwV 1 hts gX0_signature_X0_digestNow rfl rfl rfl (by decide +kernel) ⟨Nat.le_of_ble_eq_true rfl, Nat.le_of_ble_eq_true rfl⟩) (xpV_r [.int mask] hK hP (va_recv hK hP (ci := 0) (q0 := 0) rfl rfl)) rfl rfl hl.1 rfl (lv_room (Nat.le_of_ble_eq_true rfl)) dX0_signature_20 ⟨Nat.le_of_ble_eq_true rfl, Nat.le_of_ble_eq_true rfl⟩)) (fun r hr9 => ?_)
  subst hr9
  refine vp_callSl (va_Run.run (va_runS (As := [.long (fo (mB k (3 : Int32)) mask.toInt64), .long (X_digestNow S mask)]) (rest := []) ⟨hx, hb, hml, hown, hts⟩ (c_X0_fold l (fo (mB k (3 : Int32)) mask.toInt64) (X_digestNow S mask) ) (va_cwS 2 hts gX0_signature_X0_fold rfl rfl rfl (by decide +kernel) ⟨Nat.le_of_ble_eq_true rfl, Nat.le_of_ble_eq_true rfl⟩) (xpS_n _) rfl rfl hl.1 rfl (lv_room (Nat.le_of_ble_eq_true rfl)) dX0_signature_23 ⟨Nat.le_of_ble_eq_true rfl, Nat.le_of_ble_eq_true rfl⟩)) (fun r hr9 => ?_)
  subst hr9
  refine lv_lstore (lv' := [(6, .long (fo (fo (mB k (3 : Int32)) mask.toInt64) (X_digestNow S mask))), (0, .ref (ad 0)), (1, .long k), (3, .int mask), (4, .long ch)]) hx hb dX0_signature_26 hl (by decide) rfl (fun ls hl => ?_)
  refine lv_lload hx hb dX0_signature_28 (lv_at hl 0 rfl) ?_
  refine lv_lload hx hb dX0_signature_30 (lv_at hl 4 rfl) ?_
  refine vp_callSl (va_Run.run (va_runS (As := [.long (fo (fo (mB k (3 : Int32)) mask.toInt64) (X_digestNow S mask)), .long ch]) (rest := []) ⟨hx, hb, hml, hown, hts⟩ (c_X0_fold l (fo (fo (mB k (3 : Int32)) mask.toInt64) (X_digestNow S mask)) ch ) (va_cwS 2 hts gX0_signature_X0_fold rfl rfl rfl (by decide +kernel) ⟨Nat.le_of_ble_eq_true rfl, Nat.le_of_ble_eq_true rfl⟩) (xpS_n _) rfl rfl hl.1 rfl (lv_room (Nat.le_of_ble_eq_true rfl)) dX0_signature_32 ⟨Nat.le_of_ble_eq_true rfl, Nat.le_of_ble_eq_true rfl⟩)) (fun r hr9 => ?_)
  subst hr9
  refine lv_lstore (lv' := [(6, .long (fo (fo (fo (mB k (3 : Int32)) mask.toInt64) (X_digestNow S mask)) ch)), (0, .ref (ad 0)), (1, .long k), (3, .int mask), (4, .long ch)]) hx hb dX0_signature_35 hl (by decide) rfl (fun ls hl => ?_)
  refine lv_lload_n hx hb dX0_signature_37 rfl (lv_at hl 2 rfl) ?_
  refine lv_lload hx hb dX0_signature_38 (lv_at hl 0 rfl) ?_
  refine vp_callSl (va_Run.run (va_runS (As := [.long k, .long (fo (fo (fo (mB k (3 : Int32)) mask.toInt64) (X_digestNow S mask)) ch)]) (rest := []) ⟨hx, hb, hml, hown, hts⟩ (c_X0_macEnd l k (fo (fo (fo (mB k (3 : Int32)) mask.toInt64) (X_digestNow S mask)) ch) ) (va_cwS 2 hts gX0_signature_X0_macEnd rfl rfl rfl (by decide +kernel) ⟨Nat.le_of_ble_eq_true rfl, Nat.le_of_ble_eq_true rfl⟩) (xpS_n _) rfl rfl hl.1 rfl (lv_room (Nat.le_of_ble_eq_true rfl)) dX0_signature_40 ⟨Nat.le_of_ble_eq_true rfl, Nat.le_of_ble_eq_true rfl⟩)) (fun r hr9 => ?_)
  subst hr9
  exact W.lret (v := (mE k (fo (fo (fo (mB k (3 : Int32)) mask.toInt64) (X_digestNow S mask)) ch))) hx hb hr (fun t ht hW => ⟨_, rfl, rfl, ht⟩) (fun _ h => by cases h) dX0_signature_43
set_option maxHeartbeats 4000000 in
set_option maxRecDepth 100000 in
theorem c_X0_digest (l : Launch) (dC : Nat → ClassId) (dI : Nat → Nat → Nat) (ad : Nat → Nat) (cL cZ cO : ClassId) (S : SX) (mask : Int32)  : Met l yX0_digest wsX0_digest ({ frames := 2, cells := 0, slots := 0, locals := 49 }) (va_Pc [.ref (ad 0), .int mask] (fun U => va_P (dC, dI) vwCl (wX ad cL cZ cO S) U.heap ∧ va_K (dC, dI) vwCl (tyX cL cZ cO) U)) (vp_Sl (fun r => r = X_digest S mask)) 0 0 (fun _ => False) := by
  refine Met.ofW (cc := cX0_digest) (maxL := 2) (ret := (some .long)) (by decide) rfl ?_
  intro p e s m args below meth c s₁ B hml hv
  obtain ⟨rfl, hP, hK⟩ := hv
  have hx := B.exec
  have hb := B.bytes
  have hr := B.returns
  have hts := atoms_spec (ws := wsX0_digest) B.pre
  have hown : s.vm.findClass RX0 = some m.cls := findClass_of_methodNamed B.named
  have hlocks := B.notSynchronized
  have hin : ∀ w ∈ wsX00, w ∈ wsX0_digest := fun _ h => List.mem_cons_of_mem _ (List.mem_append_right _ h)
  have hl := lv_entry ([.ref (ad 0), .int mask]) (n := 2) (Nat.le_of_ble_eq_true rfl)
  rw [lg_entry_eq]
  generalize (lg_sl ([.ref (ad 0), .int mask]) ++ List.replicate (2 - (lg_sl ([.ref (ad 0), .int mask])).length) Slot.unset).toArray = ls at hl ⊢
  have hl : lv_has ls 2 [(0, .ref (ad 0)), (1, .int mask)] := hl
  refine lv_iload_n hx hb dX0_digest_0 rfl (lv_at hl 1 rfl) ?_
  refine lv_i2l hx hb dX0_digest_1 rfl ?_
  refine vp_callSi (va_Run.run (va_runS (As := [.long mask.toInt64]) (rest := []) ⟨hx, hb, hml, hown, hts⟩ (c_X0_isMask l mask.toInt64 ) (va_cwS 1 hts gX0_digest_X0_isMask rfl rfl rfl (by decide +kernel) ⟨Nat.le_of_ble_eq_true rfl, Nat.le_of_ble_eq_true rfl⟩) (xpS_n _) rfl rfl hl.1 rfl (lv_room (Nat.le_of_ble_eq_true rfl)) dX0_digest_2 ⟨Nat.le_of_ble_eq_true rfl, Nat.le_of_ble_eq_true rfl⟩)) (fun r hr9 => ?_)
  subst hr9
  refine lv_if_eq (tgt := 16) hx hb dX0_digest_5 (by decide) (fun c5 => ?_) (fun c5 => ?_)
  · skip
    refine lv_lconst (v := 0) hx hb dX0_digest_16 (by decide) ?_
    exact W.lret (v := (0 : Int64)) hx hb hr (fun t ht hW => ⟨_, rfl, (by simp only [X_digest, if_pos c5] <;> rfl), ht⟩) (fun _ h => by cases h) dX0_digest_17
  · skip
    refine lv_aload_n hx hb dX0_digest_8 rfl (lv_at hl 0 rfl) ?_
    refine lv_iload_n hx hb dX0_digest_9 rfl (lv_at hl 1 rfl) ?_
    refine vp_callSl (va_Run.run (va_runV (As := [.int mask]) (rest := []) ⟨hx, hb, hml, hown, hts⟩ (c_X0_digestNow l dC dI ad cL cZ cO S mask ) (cwV 1 hts gX0_digest_X0_digestNow rfl rfl rfl (by decide +kernel) ⟨Nat.le_of_ble_eq_true rfl, Nat.le_of_ble_eq_true rfl⟩) (xpV_r [.int mask] hK hP (va_recv hK hP (ci := 0) (q0 := 0) rfl rfl)) rfl rfl hl.1 rfl (lv_room (Nat.le_of_ble_eq_true rfl)) dX0_digest_10 ⟨Nat.le_of_ble_eq_true rfl, Nat.le_of_ble_eq_true rfl⟩)) (fun r hr9 => ?_)
    subst hr9
    refine lv_goto (tgt := 17) hx hb dX0_digest_13 (by decide) ?_
    exact W.lret (v := (X_digestNow S mask)) hx hb hr (fun t ht hW => ⟨_, rfl, (by simp only [X_digest, if_neg c5] <;> rfl), ht⟩) (fun _ h => by cases h) dX0_digest_17
set_option maxHeartbeats 4000000 in
set_option maxRecDepth 100000 in
theorem lp_X0_reboot_2 {p : Program} {l : Launch} {e : Env} {s : State} {m : MethodId} {args : Array Value} {below : List Frame} {meth : Method} {c : Code} {Q : State → Prop} {dC : Nat → ClassId} {dI : Nat → Nat → Nat} {ad : Nat → Nat} {cL cZ cO : ClassId} {S : SX} {A : Nat → Prop} {H0 : Heap}  (hx : p.tables.exec = Jvm.exec) (hb : c.code = cX0_reboot) (hml : c.maxLocals = 2) (hown : s.vm.findClass RX0 = some m.cls) (hts : ∀ w ∈ wsX0_reboot, w.before args s = true) (hK : va_K (dC, dI) vwCl (tyX cL cZ cO) s) (hA : ∀ q, H0.size ≤ q → A q)
    (kk : ∀ (H : Heap) (locs : List Loc) (ls : Array Slot), va_P (dC, dI) vwCl (wX ad cL cZ cO (xu_rg S (zJ (x_rg S) 8))) H → va_D A (wX ad cL cZ cO (xu_rg S (zJ (x_rg S) 8))) → va_S A H0 H locs → lv_has ls 2 [(1, .int (nI 8)), (0, .ref (ad 0))] → W p l e (headSpec wsX0_reboot ({ frames := 0, cells := 0, slots := 0, locals := 0 })).room s m args below meth c H locs 0 0 Q (F0 m 21 ls [])) :
    ∀ (n i : Nat) (H : Heap) (locs : List Loc) (ls : Array Slot), i ≤ 8 → 8 < i + n → va_P (dC, dI) vwCl (wX ad cL cZ cO (xu_rg S (zJ (x_rg S) i))) H → va_D A (wX ad cL cZ cO (xu_rg S (zJ (x_rg S) i))) → va_S A H0 H locs → lv_has ls 2 [(1, .int (nI i)), (0, .ref (ad 0))] → W p l e (headSpec wsX0_reboot ({ frames := 0, cells := 0, slots := 0, locals := 0 })).room s m args below meth c H locs 0 0 Q (F0 m 2 ls []) := by
  have hin : ∀ w ∈ wsX00, w ∈ wsX0_reboot := fun _ h => List.mem_cons_of_mem _ (List.mem_append_right _ h)
  intro n
  induction n with
  | zero =>
    intro i H locs ls hi hn9
    omega
  | succ n ih =>
    intro i H locs ls hi hn9 hP hD hS hl
    refine lv_iload_n hx hb dX0_reboot_2 rfl (lv_at hl 0 rfl) ?_
    refine lv_bipush (v := 8) hx hb dX0_reboot_3 (by decide) ?_
    refine lv_icmp_ge (tgt := 21) hx hb dX0_reboot_5 (by decide) (fun c5 => ?_) (fun c5 => ?_)
    · skip
      have hi8 := xge (n := 8) (by decide) hi c5
      subst hi8
      exact kk H locs ls hP hD hS (lv_sub hl [0, 1] rfl)
    · skip
      have hlt := xlt (n := 8) (by decide) hi c5
      refine lv_aload_n hx hb dX0_reboot_8 rfl (lv_at hl 1 rfl) ?_
      refine g_x_arg hx hb hts hin hown hK hP (hts (.fieldLink RX0 17 RX0 "registers" "[J") (by decide +kernel)) dX0_reboot_9 ?_
      refine lv_iload_n hx hb dX0_reboot_12 rfl (lv_at hl 0 rfl) ?_
      refine lv_lconst (v := 0) hx hb dX0_reboot_13 (by decide) ?_
      refine s_x_rg hx hb hK hP hD hS (xat_nI hlt (by decide)) dX0_reboot_14 (fun H locs hP hD hS => ?_)
      refine lv_iinc (v := (nI (i + 1))) (lv' := [(1, .int (nI (i + 1))), (0, .ref (ad 0))]) hx hb dX0_reboot_15 hl (k := 0) rfl (nI_1 i) (by decide) rfl (fun ls hl => ?_)
      refine lv_goto (tgt := 2) hx hb dX0_reboot_18 (by decide) ?_
      exact ih (i + 1) _ _ ls (by omega) (by omega) hP hD hS (lv_sub hl [0, 1] rfl)
set_option maxHeartbeats 4000000 in
set_option maxRecDepth 100000 in
theorem lp_X0_reboot_23 {p : Program} {l : Launch} {e : Env} {s : State} {m : MethodId} {args : Array Value} {below : List Frame} {meth : Method} {c : Code} {Q : State → Prop} {dC : Nat → ClassId} {dI : Nat → Nat → Nat} {ad : Nat → Nat} {cL cZ cO : ClassId} {S : SX} {A : Nat → Prop} {H0 : Heap}  (hx : p.tables.exec = Jvm.exec) (hb : c.code = cX0_reboot) (hml : c.maxLocals = 2) (hown : s.vm.findClass RX0 = some m.cls) (hts : ∀ w ∈ wsX0_reboot, w.before args s = true) (hK : va_K (dC, dI) vwCl (tyX cL cZ cO) s) (hA : ∀ q, H0.size ≤ q → A q)
    (kk : ∀ (H : Heap) (locs : List Loc) (ls : Array Slot), va_P (dC, dI) vwCl (wX ad cL cZ cO (xu_st S (zI (x_st S) 4))) H → va_D A (wX ad cL cZ cO (xu_st S (zI (x_st S) 4))) → va_S A H0 H locs → lv_has ls 2 [(1, .int (nI 4)), (0, .ref (ad 0))] → W p l e (headSpec wsX0_reboot ({ frames := 0, cells := 0, slots := 0, locals := 0 })).room s m args below meth c H locs 0 0 Q (F0 m 41 ls [])) :
    ∀ (n i : Nat) (H : Heap) (locs : List Loc) (ls : Array Slot), i ≤ 4 → 4 < i + n → va_P (dC, dI) vwCl (wX ad cL cZ cO (xu_st S (zI (x_st S) i))) H → va_D A (wX ad cL cZ cO (xu_st S (zI (x_st S) i))) → va_S A H0 H locs → lv_has ls 2 [(1, .int (nI i)), (0, .ref (ad 0))] → W p l e (headSpec wsX0_reboot ({ frames := 0, cells := 0, slots := 0, locals := 0 })).room s m args below meth c H locs 0 0 Q (F0 m 23 ls []) := by
  have hin : ∀ w ∈ wsX00, w ∈ wsX0_reboot := fun _ h => List.mem_cons_of_mem _ (List.mem_append_right _ h)
  intro n
  induction n with
  | zero =>
    intro i H locs ls hi hn9
    omega
  | succ n ih =>
    intro i H locs ls hi hn9 hP hD hS hl
    refine lv_iload_n hx hb dX0_reboot_23 rfl (lv_at hl 0 rfl) ?_
    refine lv_iconst (v := 4) hx hb dX0_reboot_24 (by decide) ?_
    refine lv_icmp_ge (tgt := 41) hx hb dX0_reboot_25 (by decide) (fun c25 => ?_) (fun c25 => ?_)
    · skip
      have hi8 := xge (n := 4) (by decide) hi c25
      subst hi8
      exact kk H locs ls hP hD hS (lv_sub hl [0, 1] rfl)
    · skip
      have hlt := xlt (n := 4) (by decide) hi c25
      refine lv_aload_n hx hb dX0_reboot_28 rfl (lv_at hl 1 rfl) ?_
      refine g_x_ast hx hb hts hin hown hK hP (hts (.fieldLink RX0 31 RX0 "sessionThere" "[Z") (by decide +kernel)) dX0_reboot_29 ?_
      refine lv_iload_n hx hb dX0_reboot_32 rfl (lv_at hl 0 rfl) ?_
      refine lv_iconst (v := 0) hx hb dX0_reboot_33 (by decide) ?_
      refine s_x_st hx hb hK hP hD hS rfl (xat_nI hlt (by decide)) dX0_reboot_34 (fun H locs hP hD hS => ?_)
      refine lv_iinc (v := (nI (i + 1))) (lv' := [(1, .int (nI (i + 1))), (0, .ref (ad 0))]) hx hb dX0_reboot_35 hl (k := 0) rfl (nI_1 i) (by decide) rfl (fun ls hl => ?_)
      refine lv_goto (tgt := 23) hx hb dX0_reboot_38 (by decide) ?_
      exact ih (i + 1) _ _ ls (by omega) (by omega) hP hD hS (lv_sub hl [0, 1] rfl)
set_option maxHeartbeats 4000000 in
set_option maxRecDepth 100000 in
theorem c_X0_reboot (l : Launch) (dC : Nat → ClassId) (dI : Nat → Nat → Nat) (ad : Nat → Nat) (cL cZ cO : ClassId) (S : SX) (sz : Nat)   : Met l yX0_reboot wsX0_reboot ({ frames := 0, cells := 0, slots := 0, locals := 0 }) (va_Pc [.ref (ad 0)] (fun U => U.heap.size = sz ∧ va_P (dC, dI) vwCl (wX ad cL cZ cO S) U.heap ∧ va_K (dC, dI) vwCl (tyX cL cZ cO) U ∧ va_D (fun _ => True) (wX ad cL cZ cO S))) (va_Qv (fun u => u = X_reboot S) (xB (dC, dI) (wX ad cL cZ cO) (tyX cL cZ cO) (va_A (wX ad cL cZ cO S) sz)) (va_A (wX ad cL cZ cO S) sz)) 0 0 (va_A (wX ad cL cZ cO S) sz) := by
  refine Met.ofW (cc := cX0_reboot) (maxL := 2) (ret := none) (by decide) rfl ?_
  intro p e s m args below meth c s₁ B hml hv
  obtain ⟨rfl, hsz, hP, hK, hD0⟩ := hv
  have hx := B.exec
  have hb := B.bytes
  have hr := B.returns
  have hts := atoms_spec (ws := wsX0_reboot) B.pre
  have hown : s.vm.findClass RX0 = some m.cls := findClass_of_methodNamed B.named
  have hlocks := B.notSynchronized
  have hin : ∀ w ∈ wsX00, w ∈ wsX0_reboot := fun _ h => List.mem_cons_of_mem _ (List.mem_append_right _ h)
  subst hsz
  have hD := hD0.self (sz := s.heap.size)
  generalize hAe : va_A (wX ad cL cZ cO S) s.heap.size = A at hD ⊢
  have hA : ∀ q : Nat, s.heap.size ≤ q → A q := fun q h => by rw [← hAe]; exact Or.inr h
  have hS : va_S A s.heap s.heap [] := va_S.rf
  have hl := lv_entry ([.ref (ad 0)]) (n := 2) (Nat.le_of_ble_eq_true rfl)
  rw [lg_entry_eq]
  generalize (lg_sl ([.ref (ad 0)]) ++ List.replicate (2 - (lg_sl ([.ref (ad 0)])).length) Slot.unset).toArray = ls at hl ⊢
  have hl : lv_has ls 2 [(0, .ref (ad 0))] := hl
  refine lv_iconst (v := 0) hx hb dX0_reboot_0 (by decide) ?_
  refine lv_istore_n (lv' := [(1, .int (0 : Int32)), (0, .ref (ad 0))]) hx hb dX0_reboot_1 rfl hl (by decide) rfl (fun ls hl => ?_)
  refine lp_X0_reboot_2 (S := S)  hx hb hml hown hts hK hA (fun H locs ls hP hD hS hl => ?_) (8 + 1) 0 _ _ ls (Nat.zero_le _) (by omega) hP hD hS (lv_sub hl [0, 1] rfl)
  refine lv_iconst (v := 0) hx hb dX0_reboot_21 (by decide) ?_
  refine lv_istore_n (lv' := [(1, .int (0 : Int32)), (0, .ref (ad 0))]) hx hb dX0_reboot_22 rfl hl (by decide) rfl (fun ls hl => ?_)
  refine lp_X0_reboot_23 (S := (xu_rg S (zJ (x_rg S) 8)))  hx hb hml hown hts hK hA (fun H locs ls hP hD hS hl => ?_) (4 + 1) 0 _ _ ls (Nat.zero_le _) (by omega) hP hD hS (lv_sub hl [0, 1] rfl)
  refine lv_aload_n hx hb dX0_reboot_41 rfl (lv_at hl 1 rfl) ?_
  refine lv_iconst (v := 0) hx hb dX0_reboot_42 (by decide) ?_
  refine p_x_lo hx hb hts hin hown hK hP hD hS (hts (.fieldLink RX0 45 RX0 "locality" "I") (by decide +kernel)) dX0_reboot_43 (fun H locs hP hD hS => ?_)
  refine lv_aload_n hx hb dX0_reboot_46 rfl (lv_at hl 1 rfl) ?_
  refine lv_iconst (v := 0) hx hb dX0_reboot_47 (by decide) ?_
  refine p_x_fa hx hb hts hin hown hK hP hD hS (hts (.fieldLink RX0 129 RX0 "failures" "I") (by decide +kernel)) dX0_reboot_48 (fun H locs hP hD hS => ?_)
  refine lv_aload_n hx hb dX0_reboot_51 rfl (lv_at hl 1 rfl) ?_
  refine lv_lconst (v := 0) hx hb dX0_reboot_52 (by decide) ?_
  refine p_x_ou hx hb hts hin hown hK hP hD hS (hts (.fieldLink RX0 115 RX0 "output" "J") (by decide +kernel)) dX0_reboot_53 (fun H locs hP hD hS => ?_)
  exact W.vret hx hb hr (fun t ht hW => ⟨⟨(xu_ou (xu_fa (xu_lo (xu_st (xu_rg S (zJ (x_rg S) 8)) (zI (x_st (xu_rg S (zJ (x_rg S) 8))) 4)) (0 : Int32)) (0 : Int32)) (0 : Int64)), rfl, rfl, by rw [ht]; exact hP, va_K.moved hW.alike hK, hD⟩, hS.F ht⟩) hS.2.2 dX0_reboot_56
set_option maxHeartbeats 4000000 in
set_option maxRecDepth 100000 in
theorem c_X0_create (l : Launch) (dC : Nat → ClassId) (dI : Nat → Nat → Nat) (ad : Nat → Nat) (cL cZ cO : ClassId) (S : SX) (sz : Nat) (secret : Int64)  : Met l yX0_create wsX0_create ({ frames := 3, cells := 0, slots := 0, locals := 68 }) (va_Pc [.ref (ad 0), .long secret] (fun U => U.heap.size = sz ∧ va_P (dC, dI) vwCl (wX ad cL cZ cO S) U.heap ∧ va_K (dC, dI) vwCl (tyX cL cZ cO) U ∧ va_D (fun _ => True) (wX ad cL cZ cO S))) (va_Qi (fun r u => r = (X_create S secret).1 ∧ u = (X_create S secret).2) (xB (dC, dI) (wX ad cL cZ cO) (tyX cL cZ cO) (va_A (wX ad cL cZ cO S) sz)) (va_A (wX ad cL cZ cO S) sz)) 0 0 (va_A (wX ad cL cZ cO S) sz) := by
  refine Met.ofW (cc := cX0_create) (maxL := 4) (ret := (some .int)) (by decide) rfl ?_
  intro p e s m args below meth c s₁ B hml hv
  obtain ⟨rfl, hsz, hP, hK, hD0⟩ := hv
  have hx := B.exec
  have hb := B.bytes
  have hr := B.returns
  have hts := atoms_spec (ws := wsX0_create) B.pre
  have hown : s.vm.findClass RX0 = some m.cls := findClass_of_methodNamed B.named
  have hlocks := B.notSynchronized
  have hin : ∀ w ∈ wsX00, w ∈ wsX0_create := fun _ h => List.mem_cons_of_mem _ (List.mem_append_right _ h)
  subst hsz
  have hD := hD0.self (sz := s.heap.size)
  generalize hAe : va_A (wX ad cL cZ cO S) s.heap.size = A at hD ⊢
  have hA : ∀ q : Nat, s.heap.size ≤ q → A q := fun q h => by rw [← hAe]; exact Or.inr h
  have hS : va_S A s.heap s.heap [] := va_S.rf
  have hl := lv_entry ([.ref (ad 0), .long secret]) (n := 4) (Nat.le_of_ble_eq_true rfl)
  rw [lg_entry_eq]
  generalize (lg_sl ([.ref (ad 0), .long secret]) ++ List.replicate (4 - (lg_sl ([.ref (ad 0), .long secret])).length) Slot.unset).toArray = ls at hl ⊢
  have hl : lv_has ls 4 [(0, .ref (ad 0)), (1, .long secret)] := hl
  refine lv_aload_n hx hb dX0_create_0 rfl (lv_at hl 0 rfl) ?_
  refine g_x_akt hx hb hts hin hown hK hP (hts (.fieldLink RX0 21 RX0 "keyThere" "[Z") (by decide +kernel)) dX0_create_1 ?_
  refine vp_callSi (va_Run.run (va_runS (As := [.ref (ad 2)]) (rest := []) ⟨hx, hb, hml, hown, hts⟩ (c_X0_leastFree l dC dI (ad 2) cZ 6 (x_kt S) (by decide) ) (va_cwS 1 hts gX0_create_X0_leastFree rfl rfl rfl (by decide +kernel) ⟨Nat.le_of_ble_eq_true rfl, Nat.le_of_ble_eq_true rfl⟩) (xpS_r [.ref (ad 2)] (hK.sub [1] rfl) (hP.sub [2] rfl)) rfl rfl hl.1 rfl (lv_room (Nat.le_of_ble_eq_true rfl)) dX0_create_4 ⟨Nat.le_of_ble_eq_true rfl, Nat.le_of_ble_eq_true rfl⟩)) (fun r hr9 => ?_)
  subst hr9
  refine lv_istore_n (lv' := [(3, .int (lfN (x_kt S) 0 6)), (0, .ref (ad 0)), (1, .long secret)]) hx hb dX0_create_7 rfl hl (by decide) rfl (fun ls hl => ?_)
  refine lv_iload_n hx hb dX0_create_8 rfl (lv_at hl 0 rfl) ?_
  refine lv_if_ge (tgt := 15) hx hb dX0_create_9 (by decide) (fun c9 => ?_) (fun c9 => ?_)
  · skip
    have hq := lfN_at (n := 6) (by decide) c9
    refine lv_aload_n hx hb dX0_create_15 rfl (lv_at hl 1 rfl) ?_
    refine g_x_akt hx hb hts hin hown hK hP (hts (.fieldLink RX0 21 RX0 "keyThere" "[Z") (by decide +kernel)) dX0_create_16 ?_
    refine lv_iload_n hx hb dX0_create_19 rfl (lv_at hl 0 rfl) ?_
    refine lv_iconst (v := 1) hx hb dX0_create_20 (by decide) ?_
    refine s_x_kt hx hb hK hP hD hS rfl (xat_self hq) dX0_create_21 (fun H locs hP hD hS => ?_)
    refine lv_aload_n hx hb dX0_create_22 rfl (lv_at hl 1 rfl) ?_
    refine g_x_aks hx hb hts hin hown hK hP (hts (.fieldLink RX0 25 RX0 "keySecrets" "[J") (by decide +kernel)) dX0_create_23 ?_
    refine lv_iload_n hx hb dX0_create_26 rfl (lv_at hl 0 rfl) ?_
    refine lv_lload_n hx hb dX0_create_27 rfl (lv_at hl 2 rfl) ?_
    refine s_x_ks hx hb hK hP hD hS (xat_self hq) dX0_create_28 (fun H locs hP hD hS => ?_)
    refine lv_aload_n hx hb dX0_create_29 rfl (lv_at hl 1 rfl) ?_
    refine g_x_akn hx hb hts hin hown hK hP (hts (.fieldLink RX0 28 RX0 "keyNames" "[J") (by decide +kernel)) dX0_create_30 ?_
    refine lv_iload_n hx hb dX0_create_33 rfl (lv_at hl 0 rfl) ?_
    refine lv_lload_n hx hb dX0_create_34 rfl (lv_at hl 2 rfl) ?_
    refine lv_aload_n hx hb dX0_create_35 rfl (lv_at hl 1 rfl) ?_
    refine xcall_l (va_runV (As := []) (rest := [.long secret, .int (lfN (x_kt S) 0 6), .ref (ad 4)]) ⟨hx, hb, hml, hown, hts⟩ (c_X0_draw l dC dI ad cL cZ cO (xu_ks (xu_kt S (upd (x_kt S) ((lfN (x_kt S) 0 6).toNatClampNeg) (1 : Int32))) (vp_updL (x_ks (xu_kt S (upd (x_kt S) ((lfN (x_kt S) 0 6).toNatClampNeg) (1 : Int32)))) ((lfN (x_kt S) 0 6).toNatClampNeg) secret)) H.size  ) (cwV 0 hts gX0_create_X0_draw rfl rfl rfl (by decide +kernel) ⟨Nat.le_of_ble_eq_true rfl, Nat.le_of_ble_eq_true rfl⟩) (xpV_w [] hK hP hD (va_recv hK hP (ci := 0) (q0 := 0) rfl rfl)) rfl rfl hl.1 rfl (lv_room (Nat.le_of_ble_eq_true rfl)) dX0_create_36 ⟨Nat.le_of_ble_eq_true rfl, Nat.le_of_ble_eq_true rfl⟩) hD hS hA (fun r u H locs hw hP hD hS => ?_)
    obtain ⟨rfl, rfl⟩ := hw
    refine vp_callSl (va_Run.run (va_runS (As := [.long secret, .long ((X_draw (xu_ks (xu_kt S (upd (x_kt S) ((lfN (x_kt S) 0 6).toNatClampNeg) (1 : Int32))) (vp_updL (x_ks (xu_kt S (upd (x_kt S) ((lfN (x_kt S) 0 6).toNatClampNeg) (1 : Int32)))) ((lfN (x_kt S) 0 6).toNatClampNeg) secret))).1)]) (rest := [.int (lfN (x_kt S) 0 6), .ref (ad 4)]) ⟨hx, hb, hml, hown, hts⟩ (c_X0_hash2 l secret ((X_draw (xu_ks (xu_kt S (upd (x_kt S) ((lfN (x_kt S) 0 6).toNatClampNeg) (1 : Int32))) (vp_updL (x_ks (xu_kt S (upd (x_kt S) ((lfN (x_kt S) 0 6).toNatClampNeg) (1 : Int32)))) ((lfN (x_kt S) 0 6).toNatClampNeg) secret))).1) ) (va_cwS 2 hts gX0_create_X0_hash2 rfl rfl rfl (by decide +kernel) ⟨Nat.le_of_ble_eq_true rfl, Nat.le_of_ble_eq_true rfl⟩) (xpS_n _) rfl rfl hl.1 rfl (lv_room (Nat.le_of_ble_eq_true rfl)) dX0_create_39 ⟨Nat.le_of_ble_eq_true rfl, Nat.le_of_ble_eq_true rfl⟩)) (fun r hr9 => ?_)
    subst hr9
    refine s_x_kn hx hb hK hP hD hS (xat_self hq) dX0_create_42 (fun H locs hP hD hS => ?_)
    refine lv_iload_n hx hb dX0_create_43 rfl (lv_at hl 0 rfl) ?_
    exact W.iret (v := (lfN (x_kt S) 0 6)) hx hb hr (fun t ht hW => ⟨⟨_, (xu_kn ((X_draw (xu_ks (xu_kt S (upd (x_kt S) ((lfN (x_kt S) 0 6).toNatClampNeg) (1 : Int32))) (vp_updL (x_ks (xu_kt S (upd (x_kt S) ((lfN (x_kt S) 0 6).toNatClampNeg) (1 : Int32)))) ((lfN (x_kt S) 0 6).toNatClampNeg) secret))).2) (vp_updL (x_kn ((X_draw (xu_ks (xu_kt S (upd (x_kt S) ((lfN (x_kt S) 0 6).toNatClampNeg) (1 : Int32))) (vp_updL (x_ks (xu_kt S (upd (x_kt S) ((lfN (x_kt S) 0 6).toNatClampNeg) (1 : Int32)))) ((lfN (x_kt S) 0 6).toNatClampNeg) secret))).2)) ((lfN (x_kt S) 0 6).toNatClampNeg) (h2 secret ((X_draw (xu_ks (xu_kt S (upd (x_kt S) ((lfN (x_kt S) 0 6).toNatClampNeg) (1 : Int32))) (vp_updL (x_ks (xu_kt S (upd (x_kt S) ((lfN (x_kt S) 0 6).toNatClampNeg) (1 : Int32)))) ((lfN (x_kt S) 0 6).toNatClampNeg) secret))).1)))), rfl, ⟨(by simp only [X_create, if_pos c9] <;> rfl), (by simp only [X_create, if_pos c9] <;> rfl)⟩, by rw [ht]; exact hP, va_K.moved hW.alike hK, hD⟩, hS.F ht⟩) hS.2.2 dX0_create_44
  · skip
    refine lv_bipush (v := -5) hx hb dX0_create_12 (by decide) ?_
    exact W.iret (v := (-5 : Int32)) hx hb hr (fun t ht hW => ⟨⟨_, S, rfl, ⟨(by simp only [X_create, if_neg c9] <;> rfl), (by simp only [X_create, if_neg c9] <;> rfl)⟩, by rw [ht]; exact hP, va_K.moved hW.alike hK, hD⟩, hS.F ht⟩) hS.2.2 dX0_create_14
set_option maxHeartbeats 4000000 in
set_option maxRecDepth 100000 in
theorem c_X0_begin (l : Launch) (dC : Nat → ClassId) (dI : Nat → Nat → Nat) (ad : Nat → Nat) (cL cZ cO : ClassId) (S : SX) (sz : Nat) (nonce : Int64)  : Met l yX0_begin wsX0_begin ({ frames := 3, cells := 0, slots := 0, locals := 68 }) (va_Pc [.ref (ad 0), .long nonce] (fun U => U.heap.size = sz ∧ va_P (dC, dI) vwCl (wX ad cL cZ cO S) U.heap ∧ va_K (dC, dI) vwCl (tyX cL cZ cO) U ∧ va_D (fun _ => True) (wX ad cL cZ cO S))) (va_Qi (fun r u => r = (X_begin S nonce).1 ∧ u = (X_begin S nonce).2) (xB (dC, dI) (wX ad cL cZ cO) (tyX cL cZ cO) (va_A (wX ad cL cZ cO S) sz)) (va_A (wX ad cL cZ cO S) sz)) 0 0 (va_A (wX ad cL cZ cO S) sz) := by
  refine Met.ofW (cc := cX0_begin) (maxL := 4) (ret := (some .int)) (by decide) rfl ?_
  intro p e s m args below meth c s₁ B hml hv
  obtain ⟨rfl, hsz, hP, hK, hD0⟩ := hv
  have hx := B.exec
  have hb := B.bytes
  have hr := B.returns
  have hts := atoms_spec (ws := wsX0_begin) B.pre
  have hown : s.vm.findClass RX0 = some m.cls := findClass_of_methodNamed B.named
  have hlocks := B.notSynchronized
  have hin : ∀ w ∈ wsX00, w ∈ wsX0_begin := fun _ h => List.mem_cons_of_mem _ (List.mem_append_right _ h)
  subst hsz
  have hD := hD0.self (sz := s.heap.size)
  generalize hAe : va_A (wX ad cL cZ cO S) s.heap.size = A at hD ⊢
  have hA : ∀ q : Nat, s.heap.size ≤ q → A q := fun q h => by rw [← hAe]; exact Or.inr h
  have hS : va_S A s.heap s.heap [] := va_S.rf
  have hl := lv_entry ([.ref (ad 0), .long nonce]) (n := 4) (Nat.le_of_ble_eq_true rfl)
  rw [lg_entry_eq]
  generalize (lg_sl ([.ref (ad 0), .long nonce]) ++ List.replicate (4 - (lg_sl ([.ref (ad 0), .long nonce])).length) Slot.unset).toArray = ls at hl ⊢
  have hl : lv_has ls 4 [(0, .ref (ad 0)), (1, .long nonce)] := hl
  refine lv_aload_n hx hb dX0_begin_0 rfl (lv_at hl 0 rfl) ?_
  refine g_x_ast hx hb hts hin hown hK hP (hts (.fieldLink RX0 31 RX0 "sessionThere" "[Z") (by decide +kernel)) dX0_begin_1 ?_
  refine vp_callSi (va_Run.run (va_runS (As := [.ref (ad 5)]) (rest := []) ⟨hx, hb, hml, hown, hts⟩ (c_X0_leastFree l dC dI (ad 5) cZ 4 (x_st S) (by decide) ) (va_cwS 1 hts gX0_begin_X0_leastFree rfl rfl rfl (by decide +kernel) ⟨Nat.le_of_ble_eq_true rfl, Nat.le_of_ble_eq_true rfl⟩) (xpS_r [.ref (ad 5)] (hK.sub [1] rfl) (hP.sub [5] rfl)) rfl rfl hl.1 rfl (lv_room (Nat.le_of_ble_eq_true rfl)) dX0_begin_4 ⟨Nat.le_of_ble_eq_true rfl, Nat.le_of_ble_eq_true rfl⟩)) (fun r hr9 => ?_)
  subst hr9
  refine lv_istore_n (lv' := [(3, .int (lfN (x_st S) 0 4)), (0, .ref (ad 0)), (1, .long nonce)]) hx hb dX0_begin_7 rfl hl (by decide) rfl (fun ls hl => ?_)
  refine lv_iload_n hx hb dX0_begin_8 rfl (lv_at hl 0 rfl) ?_
  refine lv_if_ge (tgt := 15) hx hb dX0_begin_9 (by decide) (fun c9 => ?_) (fun c9 => ?_)
  · skip
    have hq := lfN_at (n := 4) (by decide) c9
    refine lv_aload_n hx hb dX0_begin_15 rfl (lv_at hl 1 rfl) ?_
    refine g_x_ast hx hb hts hin hown hK hP (hts (.fieldLink RX0 31 RX0 "sessionThere" "[Z") (by decide +kernel)) dX0_begin_16 ?_
    refine lv_iload_n hx hb dX0_begin_19 rfl (lv_at hl 0 rfl) ?_
    refine lv_iconst (v := 1) hx hb dX0_begin_20 (by decide) ?_
    refine s_x_st hx hb hK hP hD hS rfl (xat_self hq) dX0_begin_21 (fun H locs hP hD hS => ?_)
    refine lv_aload_n hx hb dX0_begin_22 rfl (lv_at hl 1 rfl) ?_
    refine g_x_acn hx hb hts hin hown hK hP (hts (.fieldLink RX0 34 RX0 "callerNonces" "[J") (by decide +kernel)) dX0_begin_23 ?_
    refine lv_iload_n hx hb dX0_begin_26 rfl (lv_at hl 0 rfl) ?_
    refine lv_lload_n hx hb dX0_begin_27 rfl (lv_at hl 2 rfl) ?_
    refine s_x_cn hx hb hK hP hD hS (xat_self hq) dX0_begin_28 (fun H locs hP hD hS => ?_)
    refine lv_aload_n hx hb dX0_begin_29 rfl (lv_at hl 1 rfl) ?_
    refine g_x_amn hx hb hts hin hown hK hP (hts (.fieldLink RX0 37 RX0 "machineNonces" "[J") (by decide +kernel)) dX0_begin_30 ?_
    refine lv_iload_n hx hb dX0_begin_33 rfl (lv_at hl 0 rfl) ?_
    refine lv_aload_n hx hb dX0_begin_34 rfl (lv_at hl 1 rfl) ?_
    refine xcall_l (va_runV (As := []) (rest := [.int (lfN (x_st S) 0 4), .ref (ad 7)]) ⟨hx, hb, hml, hown, hts⟩ (c_X0_draw l dC dI ad cL cZ cO (xu_cn (xu_st S (upd (x_st S) ((lfN (x_st S) 0 4).toNatClampNeg) (1 : Int32))) (vp_updL (x_cn (xu_st S (upd (x_st S) ((lfN (x_st S) 0 4).toNatClampNeg) (1 : Int32)))) ((lfN (x_st S) 0 4).toNatClampNeg) nonce)) H.size  ) (cwV 0 hts gX0_begin_X0_draw rfl rfl rfl (by decide +kernel) ⟨Nat.le_of_ble_eq_true rfl, Nat.le_of_ble_eq_true rfl⟩) (xpV_w [] hK hP hD (va_recv hK hP (ci := 0) (q0 := 0) rfl rfl)) rfl rfl hl.1 rfl (lv_room (Nat.le_of_ble_eq_true rfl)) dX0_begin_35 ⟨Nat.le_of_ble_eq_true rfl, Nat.le_of_ble_eq_true rfl⟩) hD hS hA (fun r u H locs hw hP hD hS => ?_)
    obtain ⟨rfl, rfl⟩ := hw
    refine s_x_mn hx hb hK hP hD hS (xat_self hq) dX0_begin_38 (fun H locs hP hD hS => ?_)
    refine lv_iload_n hx hb dX0_begin_39 rfl (lv_at hl 0 rfl) ?_
    exact W.iret (v := (lfN (x_st S) 0 4)) hx hb hr (fun t ht hW => ⟨⟨_, (xu_mn ((X_draw (xu_cn (xu_st S (upd (x_st S) ((lfN (x_st S) 0 4).toNatClampNeg) (1 : Int32))) (vp_updL (x_cn (xu_st S (upd (x_st S) ((lfN (x_st S) 0 4).toNatClampNeg) (1 : Int32)))) ((lfN (x_st S) 0 4).toNatClampNeg) nonce))).2) (vp_updL (x_mn ((X_draw (xu_cn (xu_st S (upd (x_st S) ((lfN (x_st S) 0 4).toNatClampNeg) (1 : Int32))) (vp_updL (x_cn (xu_st S (upd (x_st S) ((lfN (x_st S) 0 4).toNatClampNeg) (1 : Int32)))) ((lfN (x_st S) 0 4).toNatClampNeg) nonce))).2)) ((lfN (x_st S) 0 4).toNatClampNeg) ((X_draw (xu_cn (xu_st S (upd (x_st S) ((lfN (x_st S) 0 4).toNatClampNeg) (1 : Int32))) (vp_updL (x_cn (xu_st S (upd (x_st S) ((lfN (x_st S) 0 4).toNatClampNeg) (1 : Int32)))) ((lfN (x_st S) 0 4).toNatClampNeg) nonce))).1))), rfl, ⟨(by simp only [X_begin, if_pos c9] <;> rfl), (by simp only [X_begin, if_pos c9] <;> rfl)⟩, by rw [ht]; exact hP, va_K.moved hW.alike hK, hD⟩, hS.F ht⟩) hS.2.2 dX0_begin_40
  · skip
    refine lv_bipush (v := -5) hx hb dX0_begin_12 (by decide) ?_
    exact W.iret (v := (-5 : Int32)) hx hb hr (fun t ht hW => ⟨⟨_, S, rfl, ⟨(by simp only [X_begin, if_neg c9] <;> rfl), (by simp only [X_begin, if_neg c9] <;> rfl)⟩, by rw [ht]; exact hP, va_K.moved hW.alike hK, hD⟩, hS.F ht⟩) hS.2.2 dX0_begin_14
end
section
set_option maxHeartbeats 4000000 in
set_option maxRecDepth 100000 in
theorem c_X0_prove (l : Launch) (dC : Nat → ClassId) (dI : Nat → Nat → Nat) (ad : Nat → Nat) (cL cZ cO : ClassId) (S : SX) (sz : Nat) (secret : Int64) (q : Int32) (cm : Int32) (a : Int32) (b : Int64) (hB : okB (x_bc S)) : Met l yX0_prove wsX0_prove ({ frames := 4, cells := 0, slots := 0, locals := 99 }) (va_Pc [.ref (ad 0), .long secret, .int q, .int cm, .int a, .long b] (fun U => U.heap.size = sz ∧ va_P (dC, dI) vwCl (wX ad cL cZ cO S) U.heap ∧ va_K (dC, dI) vwCl (tyX cL cZ cO) U ∧ va_D (fun _ => True) (wX ad cL cZ cO S))) (va_Qi (fun r u => r = (X_prove S secret q cm a b).1 ∧ u = (X_prove S secret q cm a b).2) (xB (dC, dI) (wX ad cL cZ cO) (tyX cL cZ cO) (va_A (wX ad cL cZ cO S) sz)) (va_A (wX ad cL cZ cO S) sz)) 0 0 (va_A (wX ad cL cZ cO S) sz) := by
  refine Met.ofW (cc := cX0_prove) (maxL := 10) (ret := (some .boolean)) (by decide) rfl ?_
  intro p e s m args below meth c s₁ B hml hv
  obtain ⟨rfl, hsz, hP, hK, hD0⟩ := hv
  have hx := B.exec
  have hb := B.bytes
  have hr := B.returns
  have hts := atoms_spec (ws := wsX0_prove) B.pre
  have hown : s.vm.findClass RX0 = some m.cls := findClass_of_methodNamed B.named
  have hlocks := B.notSynchronized
  have hin : ∀ w ∈ wsX00, w ∈ wsX0_prove := fun _ h => List.mem_cons_of_mem _ (List.mem_append_right _ h)
  subst hsz
  have hD := hD0.self (sz := s.heap.size)
  generalize hAe : va_A (wX ad cL cZ cO S) s.heap.size = A at hD ⊢
  have hA : ∀ q : Nat, s.heap.size ≤ q → A q := fun q h => by rw [← hAe]; exact Or.inr h
  have hS : va_S A s.heap s.heap [] := va_S.rf
  have hl := lv_entry ([.ref (ad 0), .long secret, .int q, .int cm, .int a, .long b]) (n := 10) (Nat.le_of_ble_eq_true rfl)
  rw [lg_entry_eq]
  generalize (lg_sl ([.ref (ad 0), .long secret, .int q, .int cm, .int a, .long b]) ++ List.replicate (10 - (lg_sl ([.ref (ad 0), .long secret, .int q, .int cm, .int a, .long b])).length) Slot.unset).toArray = ls at hl ⊢
  have hl : lv_has ls 10 [(0, .ref (ad 0)), (1, .long secret), (3, .int q), (4, .int cm), (5, .int a), (6, .long b)] := hl
  refine lv_aload_n hx hb dX0_prove_0 rfl (lv_at hl 0 rfl) ?_
  refine lv_iload_n hx hb dX0_prove_1 rfl (lv_at hl 2 rfl) ?_
  refine vp_callSi (va_Run.run (va_runV (As := [.int q]) (rest := []) ⟨hx, hb, hml, hown, hts⟩ (c_X0_isSession l dC dI ad cL cZ cO S q ) (cwV 1 hts gX0_prove_X0_isSession rfl rfl rfl (by decide +kernel) ⟨Nat.le_of_ble_eq_true rfl, Nat.le_of_ble_eq_true rfl⟩) (xpV_r [.int q] hK hP (va_recv hK hP (ci := 0) (q0 := 0) rfl rfl)) rfl rfl hl.1 rfl (lv_room (Nat.le_of_ble_eq_true rfl)) dX0_prove_2 ⟨Nat.le_of_ble_eq_true rfl, Nat.le_of_ble_eq_true rfl⟩)) (fun r hr9 => ?_)
  subst hr9
  refine lv_if_eq (tgt := 20) hx hb dX0_prove_5 (by decide) (fun c5 => ?_) (fun c5 => ?_)
  · skip
    refine lv_iconst (v := 0) hx hb dX0_prove_20 (by decide) ?_
    exact W.zret (v := (0 : Int32)) hx hb hr rfl (fun t ht hW => ⟨⟨_, S, rfl, ⟨(by simp only [X_prove, X_param, if_pos c5] <;> rfl), (by simp only [X_prove, X_param, if_pos c5] <;> rfl)⟩, by rw [ht]; exact hP, va_K.moved hW.alike hK, hD⟩, hS.F ht⟩) hS.2.2 dX0_prove_21
  · skip
    have hq := X_isSession_in c5
    refine lv_iload hx hb dX0_prove_8 (lv_at hl 3 rfl) ?_
    refine lv_iconst (v := 1) hx hb dX0_prove_10 (by decide) ?_
    refine lv_icmp_lt (tgt := 20) hx hb dX0_prove_11 (by decide) (fun c11 => ?_) (fun c11 => ?_)
    · skip
      refine lv_iconst (v := 0) hx hb dX0_prove_20 (by decide) ?_
      exact W.zret (v := (0 : Int32)) hx hb hr rfl (fun t ht hW => ⟨⟨_, S, rfl, ⟨(by simp only [X_prove, X_param, if_neg c5, if_pos c11] <;> rfl), (by simp only [X_prove, X_param, if_neg c5, if_pos c11] <;> rfl)⟩, by rw [ht]; exact hP, va_K.moved hW.alike hK, hD⟩, hS.F ht⟩) hS.2.2 dX0_prove_21
    · skip
      refine lv_iload hx hb dX0_prove_14 (lv_at hl 3 rfl) ?_
      refine lv_iconst (v := 3) hx hb dX0_prove_16 (by decide) ?_
      refine lv_icmp_le (tgt := 22) hx hb dX0_prove_17 (by decide) (fun c17 => ?_) (fun c17 => ?_)
      · skip
        refine lv_iload hx hb dX0_prove_22 (lv_at hl 3 rfl) ?_
        refine lv_iconst (v := 2) hx hb dX0_prove_24 (by decide) ?_
        refine lv_icmp_ne (tgt := 39) hx hb dX0_prove_25 (by decide) (fun c25 => ?_) (fun c25 => ?_)
        · skip
          refine lv_iload hx hb dX0_prove_39 (lv_at hl 3 rfl) ?_
          refine lv_iconst (v := 2) hx hb dX0_prove_41 (by decide) ?_
          refine lv_icmp_ne (tgt := 57) hx hb dX0_prove_42 (by decide) (fun c42 => ?_) (fun c42 => ?_)
          · skip
            refine lv_iload hx hb dX0_prove_57 (lv_at hl 4 rfl) ?_
            refine lv_i2l hx hb dX0_prove_59 rfl ?_
            refine lv_lload hx hb dX0_prove_60 (lv_at hl 5 rfl) ?_
            refine vp_callSl (va_Run.run (va_runS (As := [.long a.toInt64, .long b]) (rest := []) ⟨hx, hb, hml, hown, hts⟩ (c_X0_hash2 l a.toInt64 b ) (va_cwS 2 hts gX0_prove_X0_hash2 rfl rfl rfl (by decide +kernel) ⟨Nat.le_of_ble_eq_true rfl, Nat.le_of_ble_eq_true rfl⟩) (xpS_n _) rfl rfl hl.1 rfl (lv_room (Nat.le_of_ble_eq_true rfl)) dX0_prove_62 ⟨Nat.le_of_ble_eq_true rfl, Nat.le_of_ble_eq_true rfl⟩)) (fun r hr9 => ?_)
            subst hr9
            refine lv_lstore (lv' := [(8, .long (h2 a.toInt64 b)), (0, .ref (ad 0)), (1, .long secret), (3, .int q), (4, .int cm), (5, .int a), (6, .long b)]) hx hb dX0_prove_65 hl (by decide) rfl (fun ls hl => ?_)
            refine lv_aload_n hx hb dX0_prove_67 rfl (lv_at hl 1 rfl) ?_
            refine lv_aload_n hx hb dX0_prove_68 rfl (lv_at hl 1 rfl) ?_
            refine lv_lload_n hx hb dX0_prove_69 rfl (lv_at hl 2 rfl) ?_
            refine lv_iload_n hx hb dX0_prove_70 rfl (lv_at hl 3 rfl) ?_
            refine lv_iload hx hb dX0_prove_71 (lv_at hl 4 rfl) ?_
            refine lv_lload hx hb dX0_prove_73 (lv_at hl 0 rfl) ?_
            refine vp_callSl (va_Run.run (va_runV (As := [.long secret, .int q, .int cm, .long (h2 a.toInt64 b)]) (rest := [.ref (ad 0)]) ⟨hx, hb, hml, hown, hts⟩ (c_X0_rightProof l dC dI ad cL cZ cO S secret q cm (h2 a.toInt64 b) hq) (cwV 4 hts gX0_prove_X0_rightProof rfl rfl rfl (by decide +kernel) ⟨Nat.le_of_ble_eq_true rfl, Nat.le_of_ble_eq_true rfl⟩) (xpV_r [.long secret, .int q, .int cm, .long (h2 a.toInt64 b)] hK hP (va_recv hK hP (ci := 0) (q0 := 0) rfl rfl)) rfl rfl hl.1 rfl (lv_room (Nat.le_of_ble_eq_true rfl)) dX0_prove_75 ⟨Nat.le_of_ble_eq_true rfl, Nat.le_of_ble_eq_true rfl⟩)) (fun r hr9 => ?_)
            subst hr9
            refine p_x_pr hx hb hts hin hown hK hP hD hS (hts (.fieldLink RX0 85 RX0 "proof" "J") (by decide +kernel)) dX0_prove_78 (fun H locs hP hD hS => ?_)
            refine lv_iconst (v := 1) hx hb dX0_prove_81 (by decide) ?_
            exact W.zret (v := (1 : Int32)) hx hb hr rfl (fun t ht hW => ⟨⟨_, (xu_pr S (X_rightProof S secret q cm (h2 a.toInt64 b))), rfl, ⟨(by simp only [X_prove, X_param, if_neg c5, if_neg c11, if_pos c17, if_neg c25, if_neg c42] <;> rfl), (by simp only [X_prove, X_param, if_neg c5, if_neg c11, if_pos c17, if_neg c25, if_neg c42] <;> rfl)⟩, by rw [ht]; exact hP, va_K.moved hW.alike hK, hD⟩, hS.F ht⟩) hS.2.2 dX0_prove_82
          · skip
            exact absurd c42 c25
        · skip
          refine lv_aload_n hx hb dX0_prove_28 rfl (lv_at hl 0 rfl) ?_
          refine lv_iload hx hb dX0_prove_29 (lv_at hl 4 rfl) ?_
          refine vp_callSi (va_Run.run (va_runV (As := [.int a]) (rest := []) ⟨hx, hb, hml, hown, hts⟩ (c_X0_isBlob l dC dI ad cL cZ cO S a ) (cwV 1 hts gX0_prove_X0_isBlob rfl rfl rfl (by decide +kernel) ⟨Nat.le_of_ble_eq_true rfl, Nat.le_of_ble_eq_true rfl⟩) (xpV_r [.int a] hK hP (va_recv hK hP (ci := 0) (q0 := 0) rfl rfl)) rfl rfl hl.1 rfl (lv_room (Nat.le_of_ble_eq_true rfl)) dX0_prove_31 ⟨Nat.le_of_ble_eq_true rfl, Nat.le_of_ble_eq_true rfl⟩)) (fun r hr9 => ?_)
          subst hr9
          refine lv_if_ne (tgt := 39) hx hb dX0_prove_34 (by decide) (fun c34 => ?_) (fun c34 => ?_)
          · skip
            have ha := X_isBlob_in hB c34
            refine lv_iload hx hb dX0_prove_39 (lv_at hl 3 rfl) ?_
            refine lv_iconst (v := 2) hx hb dX0_prove_41 (by decide) ?_
            refine lv_icmp_ne (tgt := 57) hx hb dX0_prove_42 (by decide) (fun c42 => ?_) (fun c42 => ?_)
            · skip
              exact absurd c25 c42
            · skip
              refine lv_aload_n hx hb dX0_prove_45 rfl (lv_at hl 0 rfl) ?_
              refine g_x_abl hx hb hts hin hown hK hP (hts (.fieldLink RX0 42 RX0 "blobs" "[[J") (by decide +kernel)) dX0_prove_46 ?_
              refine lv_iload hx hb dX0_prove_49 (lv_at hl 4 rfl) ?_
              refine l_x_bl hx hb hK hP (xat_self ha) dX0_prove_51 ?_
              refine lv_iconst (v := 5) hx hb dX0_prove_52 (by decide) ?_
              refine l_x_row hx hb hK hP (xat_lt (xat_self ha)) (xat_nI (by decide) (by decide)) dX0_prove_53 ?_
              refine lv_goto (tgt := 65) hx hb dX0_prove_54 (by decide) ?_
              refine lv_lstore (lv' := [(8, .long (x_bl S a.toNatClampNeg 5)), (0, .ref (ad 0)), (1, .long secret), (3, .int q), (4, .int cm), (5, .int a), (6, .long b)]) hx hb dX0_prove_65 hl (by decide) rfl (fun ls hl => ?_)
              refine lv_aload_n hx hb dX0_prove_67 rfl (lv_at hl 1 rfl) ?_
              refine lv_aload_n hx hb dX0_prove_68 rfl (lv_at hl 1 rfl) ?_
              refine lv_lload_n hx hb dX0_prove_69 rfl (lv_at hl 2 rfl) ?_
              refine lv_iload_n hx hb dX0_prove_70 rfl (lv_at hl 3 rfl) ?_
              refine lv_iload hx hb dX0_prove_71 (lv_at hl 4 rfl) ?_
              refine lv_lload hx hb dX0_prove_73 (lv_at hl 0 rfl) ?_
              refine vp_callSl (va_Run.run (va_runV (As := [.long secret, .int q, .int cm, .long (x_bl S a.toNatClampNeg 5)]) (rest := [.ref (ad 0)]) ⟨hx, hb, hml, hown, hts⟩ (c_X0_rightProof l dC dI ad cL cZ cO S secret q cm (x_bl S a.toNatClampNeg 5) hq) (cwV 4 hts gX0_prove_X0_rightProof rfl rfl rfl (by decide +kernel) ⟨Nat.le_of_ble_eq_true rfl, Nat.le_of_ble_eq_true rfl⟩) (xpV_r [.long secret, .int q, .int cm, .long (x_bl S a.toNatClampNeg 5)] hK hP (va_recv hK hP (ci := 0) (q0 := 0) rfl rfl)) rfl rfl hl.1 rfl (lv_room (Nat.le_of_ble_eq_true rfl)) dX0_prove_75 ⟨Nat.le_of_ble_eq_true rfl, Nat.le_of_ble_eq_true rfl⟩)) (fun r hr9 => ?_)
              subst hr9
              refine p_x_pr hx hb hts hin hown hK hP hD hS (hts (.fieldLink RX0 85 RX0 "proof" "J") (by decide +kernel)) dX0_prove_78 (fun H locs hP hD hS => ?_)
              refine lv_iconst (v := 1) hx hb dX0_prove_81 (by decide) ?_
              exact W.zret (v := (1 : Int32)) hx hb hr rfl (fun t ht hW => ⟨⟨_, (xu_pr S (X_rightProof S secret q cm (x_bl S a.toNatClampNeg 5))), rfl, ⟨(by simp only [X_prove, X_param, if_neg c5, if_neg c11, if_pos c17, if_pos c25, if_neg c34, if_pos c42] <;> rfl), (by simp only [X_prove, X_param, if_neg c5, if_neg c11, if_pos c17, if_pos c25, if_neg c34, if_pos c42] <;> rfl)⟩, by rw [ht]; exact hP, va_K.moved hW.alike hK, hD⟩, hS.F ht⟩) hS.2.2 dX0_prove_82
          · skip
            refine lv_iconst (v := 0) hx hb dX0_prove_37 (by decide) ?_
            exact W.zret (v := (0 : Int32)) hx hb hr rfl (fun t ht hW => ⟨⟨_, S, rfl, ⟨(by simp only [X_prove, X_param, if_neg c5, if_neg c11, if_pos c17, if_pos c25, if_pos c34] <;> rfl), (by simp only [X_prove, X_param, if_neg c5, if_neg c11, if_pos c17, if_pos c25, if_pos c34] <;> rfl)⟩, by rw [ht]; exact hP, va_K.moved hW.alike hK, hD⟩, hS.F ht⟩) hS.2.2 dX0_prove_38
      · skip
        refine lv_iconst (v := 0) hx hb dX0_prove_20 (by decide) ?_
        exact W.zret (v := (0 : Int32)) hx hb hr rfl (fun t ht hW => ⟨⟨_, S, rfl, ⟨(by simp only [X_prove, X_param, if_neg c5, if_neg c11, if_neg c17] <;> rfl), (by simp only [X_prove, X_param, if_neg c5, if_neg c11, if_neg c17] <;> rfl)⟩, by rw [ht]; exact hP, va_K.moved hW.alike hK, hD⟩, hS.F ht⟩) hS.2.2 dX0_prove_21
set_option maxHeartbeats 4000000 in
set_option maxRecDepth 100000 in
theorem c_X0_addBlob (l : Launch) (dC : Nat → ClassId) (dI : Nat → Nat → Nat) (ad : Nat → Nat) (cL cZ cO : ClassId) (S : SX) (sz : Nat) (name : Int64) (mask : Int32) (data : Int64) (hB : vp_in (x_bc S) 10) : Met l yX0_addBlob wsX0_addBlob ({ frames := 4, cells := 0, slots := 0, locals := 95 }) (va_Pc [.ref (ad 0), .long name, .int mask, .long data] (fun U => U.heap.size = sz ∧ va_P (dC, dI) vwCl (wX ad cL cZ cO S) U.heap ∧ va_K (dC, dI) vwCl (tyX cL cZ cO) U ∧ va_D (fun _ => True) (wX ad cL cZ cO S))) (va_Qi (fun r u => r = (X_addBlob S name mask data).1 ∧ u = (X_addBlob S name mask data).2) (xB (dC, dI) (wX ad cL cZ cO) (tyX cL cZ cO) (va_A (wX ad cL cZ cO S) sz)) (va_A (wX ad cL cZ cO S) sz)) 0 0 (va_A (wX ad cL cZ cO S) sz) := by
  refine Met.ofW (cc := cX0_addBlob) (maxL := 12) (ret := (some .int)) (by decide) rfl ?_
  intro p e s m args below meth c s₁ B hml hv
  obtain ⟨rfl, hsz, hP, hK, hD0⟩ := hv
  have hx := B.exec
  have hb := B.bytes
  have hr := B.returns
  have hts := atoms_spec (ws := wsX0_addBlob) B.pre
  have hown : s.vm.findClass RX0 = some m.cls := findClass_of_methodNamed B.named
  have hlocks := B.notSynchronized
  have hin : ∀ w ∈ wsX00, w ∈ wsX0_addBlob := fun _ h => List.mem_cons_of_mem _ (List.mem_append_right _ h)
  subst hsz
  have hD := hD0.self (sz := s.heap.size)
  generalize hAe : va_A (wX ad cL cZ cO S) s.heap.size = A at hD ⊢
  have hA : ∀ q : Nat, s.heap.size ≤ q → A q := fun q h => by rw [← hAe]; exact Or.inr h
  have hS : va_S A s.heap s.heap [] := va_S.rf
  have hl := lv_entry ([.ref (ad 0), .long name, .int mask, .long data]) (n := 12) (Nat.le_of_ble_eq_true rfl)
  rw [lg_entry_eq]
  generalize (lg_sl ([.ref (ad 0), .long name, .int mask, .long data]) ++ List.replicate (12 - (lg_sl ([.ref (ad 0), .long name, .int mask, .long data])).length) Slot.unset).toArray = ls at hl ⊢
  have hl : lv_has ls 12 [(0, .ref (ad 0)), (1, .long name), (3, .int mask), (4, .long data)] := hl
  refine lv_aload_n hx hb dX0_addBlob_0 rfl (lv_at hl 0 rfl) ?_
  refine g_x_bc hx hb hts hin hown hK hP (hts (.fieldLink RX0 92 RX0 "blobCount" "I") (by decide +kernel)) dX0_addBlob_1 ?_
  refine lv_istore (lv' := [(6, .int (x_bc S)), (0, .ref (ad 0)), (1, .long name), (3, .int mask), (4, .long data)]) hx hb dX0_addBlob_4 hl (by decide) rfl (fun ls hl => ?_)
  refine lv_aload_n hx hb dX0_addBlob_6 rfl (lv_at hl 1 rfl) ?_
  refine g_x_abl hx hb hts hin hown hK hP (hts (.fieldLink RX0 42 RX0 "blobs" "[[J") (by decide +kernel)) dX0_addBlob_7 ?_
  refine lv_iload hx hb dX0_addBlob_10 (lv_at hl 0 rfl) ?_
  refine l_x_bl hx hb hK hP (xat_self hB) dX0_addBlob_12 ?_
  refine lv_astore (lv' := [(7, .ref (ad (9 + ((x_bc S).toNatClampNeg)))), (6, .int (x_bc S)), (0, .ref (ad 0)), (1, .long name), (3, .int mask), (4, .long data)]) hx hb dX0_addBlob_13 hl (by decide) rfl (fun ls hl => ?_)
  refine lv_aload_n hx hb dX0_addBlob_15 rfl (lv_at hl 2 rfl) ?_
  refine lv_iload_n hx hb dX0_addBlob_16 rfl (lv_at hl 4 rfl) ?_
  refine vp_callSl (va_Run.run (va_runV (As := [.int mask]) (rest := []) ⟨hx, hb, hml, hown, hts⟩ (c_X0_digestNow l dC dI ad cL cZ cO S mask ) (cwV 1 hts gX0_addBlob_X0_digestNow rfl rfl rfl (by decide +kernel) ⟨Nat.le_of_ble_eq_true rfl, Nat.le_of_ble_eq_true rfl⟩) (xpV_r [.int mask] hK hP (va_recv hK hP (ci := 0) (q0 := 0) rfl rfl)) rfl rfl hl.1 rfl (lv_room (Nat.le_of_ble_eq_true rfl)) dX0_addBlob_17 ⟨Nat.le_of_ble_eq_true rfl, Nat.le_of_ble_eq_true rfl⟩)) (fun r hr9 => ?_)
  subst hr9
  refine lv_lstore (lv' := [(8, .long (X_digestNow S mask)), (7, .ref (ad (9 + ((x_bc S).toNatClampNeg)))), (6, .int (x_bc S)), (0, .ref (ad 0)), (1, .long name), (3, .int mask), (4, .long data)]) hx hb dX0_addBlob_20 hl (by decide) rfl (fun ls hl => ?_)
  refine lv_aload_n hx hb dX0_addBlob_22 rfl (lv_at hl 3 rfl) ?_
  refine xcall_l (va_runV (As := []) (rest := []) ⟨hx, hb, hml, hown, hts⟩ (c_X0_draw l dC dI ad cL cZ cO S s.heap.size  ) (cwV 0 hts gX0_addBlob_X0_draw rfl rfl rfl (by decide +kernel) ⟨Nat.le_of_ble_eq_true rfl, Nat.le_of_ble_eq_true rfl⟩) (xpV_w [] hK hP hD (va_recv hK hP (ci := 0) (q0 := 0) rfl rfl)) rfl rfl hl.1 rfl (lv_room (Nat.le_of_ble_eq_true rfl)) dX0_addBlob_23 ⟨Nat.le_of_ble_eq_true rfl, Nat.le_of_ble_eq_true rfl⟩) hD hS hA (fun r u H locs hw hP hD hS => ?_)
  obtain ⟨rfl, rfl⟩ := hw
  refine lv_lstore (lv' := [(10, .long ((X_draw S).1)), (8, .long (X_digestNow S mask)), (7, .ref (ad (9 + ((x_bc S).toNatClampNeg)))), (6, .int (x_bc S)), (0, .ref (ad 0)), (1, .long name), (3, .int mask), (4, .long data)]) hx hb dX0_addBlob_26 hl (by decide) rfl (fun ls hl => ?_)
  refine lv_aload hx hb dX0_addBlob_28 (lv_at hl 2 rfl) ?_
  refine lv_iconst (v := 0) hx hb dX0_addBlob_30 (by decide) ?_
  refine lv_lload_n hx hb dX0_addBlob_31 rfl (lv_at hl 5 rfl) ?_
  refine s_x_row hx hb hK hP hD hS (xat_lt (xat_self hB)) (xat_nI (by decide) (by decide)) dX0_addBlob_32 (fun H locs hP hD hS => ?_)
  have hP : va_P (dC, dI) vwCl (wX ad cL cZ cO (X_put ((X_draw S).2) ((x_bc S).toNatClampNeg) 0 name)) H := hP
  have hD : va_D A (wX ad cL cZ cO (X_put ((X_draw S).2) ((x_bc S).toNatClampNeg) 0 name)) := hD
  refine lv_aload hx hb dX0_addBlob_33 (lv_at hl 2 rfl) ?_
  refine lv_iconst (v := 1) hx hb dX0_addBlob_35 (by decide) ?_
  refine lv_iload_n hx hb dX0_addBlob_36 rfl (lv_at hl 6 rfl) ?_
  refine lv_i2l hx hb dX0_addBlob_37 rfl ?_
  refine s_x_row hx hb hK hP hD hS (xat_lt (xat_self hB)) (xat_nI (by decide) (by decide)) dX0_addBlob_38 (fun H locs hP hD hS => ?_)
  have hP : va_P (dC, dI) vwCl (wX ad cL cZ cO (X_put (X_put ((X_draw S).2) ((x_bc S).toNatClampNeg) 0 name) ((x_bc S).toNatClampNeg) 1 mask.toInt64)) H := hP
  have hD : va_D A (wX ad cL cZ cO (X_put (X_put ((X_draw S).2) ((x_bc S).toNatClampNeg) 0 name) ((x_bc S).toNatClampNeg) 1 mask.toInt64)) := hD
  refine lv_aload hx hb dX0_addBlob_39 (lv_at hl 2 rfl) ?_
  refine lv_iconst (v := 2) hx hb dX0_addBlob_41 (by decide) ?_
  refine lv_lload hx hb dX0_addBlob_42 (lv_at hl 1 rfl) ?_
  refine s_x_row hx hb hK hP hD hS (xat_lt (xat_self hB)) (xat_nI (by decide) (by decide)) dX0_addBlob_44 (fun H locs hP hD hS => ?_)
  have hP : va_P (dC, dI) vwCl (wX ad cL cZ cO (X_put (X_put (X_put ((X_draw S).2) ((x_bc S).toNatClampNeg) 0 name) ((x_bc S).toNatClampNeg) 1 mask.toInt64) ((x_bc S).toNatClampNeg) 2 (X_digestNow S mask))) H := hP
  have hD : va_D A (wX ad cL cZ cO (X_put (X_put (X_put ((X_draw S).2) ((x_bc S).toNatClampNeg) 0 name) ((x_bc S).toNatClampNeg) 1 mask.toInt64) ((x_bc S).toNatClampNeg) 2 (X_digestNow S mask))) := hD
  refine lv_aload hx hb dX0_addBlob_45 (lv_at hl 2 rfl) ?_
  refine lv_iconst (v := 3) hx hb dX0_addBlob_47 (by decide) ?_
  refine lv_lload hx hb dX0_addBlob_48 (lv_at hl 0 rfl) ?_
  refine s_x_row hx hb hK hP hD hS (xat_lt (xat_self hB)) (xat_nI (by decide) (by decide)) dX0_addBlob_50 (fun H locs hP hD hS => ?_)
  have hP : va_P (dC, dI) vwCl (wX ad cL cZ cO (X_put (X_put (X_put (X_put ((X_draw S).2) ((x_bc S).toNatClampNeg) 0 name) ((x_bc S).toNatClampNeg) 1 mask.toInt64) ((x_bc S).toNatClampNeg) 2 (X_digestNow S mask)) ((x_bc S).toNatClampNeg) 3 ((X_draw S).1))) H := hP
  have hD : va_D A (wX ad cL cZ cO (X_put (X_put (X_put (X_put ((X_draw S).2) ((x_bc S).toNatClampNeg) 0 name) ((x_bc S).toNatClampNeg) 1 mask.toInt64) ((x_bc S).toNatClampNeg) 2 (X_digestNow S mask)) ((x_bc S).toNatClampNeg) 3 ((X_draw S).1))) := hD
  refine lv_aload hx hb dX0_addBlob_51 (lv_at hl 2 rfl) ?_
  refine lv_iconst (v := 4) hx hb dX0_addBlob_53 (by decide) ?_
  refine lv_lload hx hb dX0_addBlob_54 (lv_at hl 7 rfl) ?_
  refine lv_aload_n hx hb dX0_addBlob_56 rfl (lv_at hl 4 rfl) ?_
  refine lv_lload hx hb dX0_addBlob_57 (lv_at hl 0 rfl) ?_
  refine lv_lload hx hb dX0_addBlob_59 (lv_at hl 1 rfl) ?_
  refine vp_callSl (va_Run.run (va_runV (As := [.long ((X_draw S).1), .long (X_digestNow S mask)]) (rest := [.long data, .int (4 : Int32), .ref (ad (9 + ((x_bc S).toNatClampNeg)))]) ⟨hx, hb, hml, hown, hts⟩ (c_X0_cover l dC dI ad cL cZ cO (X_put (X_put (X_put (X_put ((X_draw S).2) ((x_bc S).toNatClampNeg) 0 name) ((x_bc S).toNatClampNeg) 1 mask.toInt64) ((x_bc S).toNatClampNeg) 2 (X_digestNow S mask)) ((x_bc S).toNatClampNeg) 3 ((X_draw S).1)) ((X_draw S).1) (X_digestNow S mask) ) (cwV 2 hts gX0_addBlob_X0_cover rfl rfl rfl (by decide +kernel) ⟨Nat.le_of_ble_eq_true rfl, Nat.le_of_ble_eq_true rfl⟩) (xpV_r [.long ((X_draw S).1), .long (X_digestNow S mask)] hK hP (va_recv hK hP (ci := 0) (q0 := 0) rfl rfl)) rfl rfl hl.1 rfl (lv_room (Nat.le_of_ble_eq_true rfl)) dX0_addBlob_61 ⟨Nat.le_of_ble_eq_true rfl, Nat.le_of_ble_eq_true rfl⟩)) (fun r hr9 => ?_)
  subst hr9
  refine lv_lxor hx hb dX0_addBlob_64 ?_
  refine s_x_row hx hb hK hP hD hS (xat_lt (xat_self hB)) (xat_nI (by decide) (by decide)) dX0_addBlob_65 (fun H locs hP hD hS => ?_)
  have hP : va_P (dC, dI) vwCl (wX ad cL cZ cO (X_put (X_put (X_put (X_put (X_put ((X_draw S).2) ((x_bc S).toNatClampNeg) 0 name) ((x_bc S).toNatClampNeg) 1 mask.toInt64) ((x_bc S).toNatClampNeg) 2 (X_digestNow S mask)) ((x_bc S).toNatClampNeg) 3 ((X_draw S).1)) ((x_bc S).toNatClampNeg) 4 (data ^^^ (X_cover (X_put (X_put (X_put (X_put ((X_draw S).2) ((x_bc S).toNatClampNeg) 0 name) ((x_bc S).toNatClampNeg) 1 mask.toInt64) ((x_bc S).toNatClampNeg) 2 (X_digestNow S mask)) ((x_bc S).toNatClampNeg) 3 ((X_draw S).1)) ((X_draw S).1) (X_digestNow S mask))))) H := hP
  have hD : va_D A (wX ad cL cZ cO (X_put (X_put (X_put (X_put (X_put ((X_draw S).2) ((x_bc S).toNatClampNeg) 0 name) ((x_bc S).toNatClampNeg) 1 mask.toInt64) ((x_bc S).toNatClampNeg) 2 (X_digestNow S mask)) ((x_bc S).toNatClampNeg) 3 ((X_draw S).1)) ((x_bc S).toNatClampNeg) 4 (data ^^^ (X_cover (X_put (X_put (X_put (X_put ((X_draw S).2) ((x_bc S).toNatClampNeg) 0 name) ((x_bc S).toNatClampNeg) 1 mask.toInt64) ((x_bc S).toNatClampNeg) 2 (X_digestNow S mask)) ((x_bc S).toNatClampNeg) 3 ((X_draw S).1)) ((X_draw S).1) (X_digestNow S mask))))) := hD
  have hP : va_P (dC, dI) vwCl (wX ad cL cZ cO (X_ab5 S (X_draw S).2 (x_bc S).toNatClampNeg name mask data (X_draw S).1)) H := hP
  have hD : va_D A (wX ad cL cZ cO (X_ab5 S (X_draw S).2 (x_bc S).toNatClampNeg name mask data (X_draw S).1)) := hD
  refine lv_aload hx hb dX0_addBlob_66 (lv_at hl 2 rfl) ?_
  refine lv_iconst (v := 5) hx hb dX0_addBlob_68 (by decide) ?_
  refine lv_aload_n hx hb dX0_addBlob_69 rfl (lv_at hl 4 rfl) ?_
  refine lv_aload hx hb dX0_addBlob_70 (lv_at hl 2 rfl) ?_
  refine vp_callSl (va_Run.run (va_runV (As := [.ref (ad (9 + ((x_bc S).toNatClampNeg)))]) (rest := [.int (5 : Int32), .ref (ad (9 + ((x_bc S).toNatClampNeg)))]) ⟨hx, hb, hml, hown, hts⟩ (c_X0_sealOf l dC dI ad cL cZ cO (X_ab5 S (X_draw S).2 (x_bc S).toNatClampNeg name mask data (X_draw S).1) ((x_bc S).toNatClampNeg) (xat_lt (xat_self hB)) ) (cwV 1 hts gX0_addBlob_X0_sealOf rfl rfl rfl (by decide +kernel) ⟨Nat.le_of_ble_eq_true rfl, Nat.le_of_ble_eq_true rfl⟩) (xpV_r [.ref (ad (9 + ((x_bc S).toNatClampNeg)))] hK hP (va_recv hK hP (ci := 0) (q0 := 0) rfl rfl)) rfl rfl hl.1 rfl (lv_room (Nat.le_of_ble_eq_true rfl)) dX0_addBlob_72 ⟨Nat.le_of_ble_eq_true rfl, Nat.le_of_ble_eq_true rfl⟩)) (fun r hr9 => ?_)
  subst hr9
  refine s_x_row hx hb hK hP hD hS (xat_lt (xat_self hB)) (xat_nI (by decide) (by decide)) dX0_addBlob_75 (fun H locs hP hD hS => ?_)
  have hP : va_P (dC, dI) vwCl (wX ad cL cZ cO (X_put (X_ab5 S (X_draw S).2 (x_bc S).toNatClampNeg name mask data (X_draw S).1) ((x_bc S).toNatClampNeg) 5 (X_sealOf (X_ab5 S (X_draw S).2 (x_bc S).toNatClampNeg name mask data (X_draw S).1) ((x_bc S).toNatClampNeg)))) H := hP
  have hD : va_D A (wX ad cL cZ cO (X_put (X_ab5 S (X_draw S).2 (x_bc S).toNatClampNeg name mask data (X_draw S).1) ((x_bc S).toNatClampNeg) 5 (X_sealOf (X_ab5 S (X_draw S).2 (x_bc S).toNatClampNeg name mask data (X_draw S).1) ((x_bc S).toNatClampNeg)))) := hD
  refine lv_aload_n hx hb dX0_addBlob_76 rfl (lv_at hl 4 rfl) ?_
  refine lv_iload hx hb dX0_addBlob_77 (lv_at hl 3 rfl) ?_
  refine lv_iconst (v := 1) hx hb dX0_addBlob_79 (by decide) ?_
  refine lv_iadd hx hb dX0_addBlob_80 ?_
  refine p_x_bc hx hb hts hin hown hK hP hD hS (hts (.fieldLink RX0 92 RX0 "blobCount" "I") (by decide +kernel)) dX0_addBlob_81 (fun H locs hP hD hS => ?_)
  refine lv_iload hx hb dX0_addBlob_84 (lv_at hl 3 rfl) ?_
  exact W.iret (v := (x_bc S)) hx hb hr (fun t ht hW => ⟨⟨_, (xu_bc (X_put (X_ab5 S (X_draw S).2 (x_bc S).toNatClampNeg name mask data (X_draw S).1) ((x_bc S).toNatClampNeg) 5 (X_sealOf (X_ab5 S (X_draw S).2 (x_bc S).toNatClampNeg name mask data (X_draw S).1) ((x_bc S).toNatClampNeg))) ((x_bc S) + (1 : Int32))), rfl, ⟨rfl, rfl⟩, by rw [ht]; exact hP, va_K.moved hW.alike hK, hD⟩, hS.F ht⟩) hS.2.2 dX0_addBlob_86
set_option maxHeartbeats 4000000 in
set_option maxRecDepth 100000 in
theorem c_X0_seal (l : Launch) (dC : Nat → ClassId) (dI : Nat → Nat → Nat) (ad : Nat → Nat) (cL cZ cO : ClassId) (S : SX) (sz : Nat) (q : Int32) (k : Int32) (mask : Int32) (data : Int64) (hB : okB (x_bc S)) : Met l yX0_seal wsX0_seal ({ frames := 5, cells := 0, slots := 0, locals := 126 }) (va_Pc [.ref (ad 0), .int q, .int k, .int mask, .long data] (fun U => U.heap.size = sz ∧ va_P (dC, dI) vwCl (wX ad cL cZ cO S) U.heap ∧ va_K (dC, dI) vwCl (tyX cL cZ cO) U ∧ va_D (fun _ => True) (wX ad cL cZ cO S))) (va_Qi (fun r u => r = (X_seal S q k mask data).1 ∧ u = (X_seal S q k mask data).2) (xB (dC, dI) (wX ad cL cZ cO) (tyX cL cZ cO) (va_A (wX ad cL cZ cO S) sz)) (va_A (wX ad cL cZ cO S) sz)) 0 0 (va_A (wX ad cL cZ cO S) sz) := by
  refine Met.ofW (cc := cX0_seal) (maxL := 6) (ret := (some .int)) (by decide) rfl ?_
  intro p e s m args below meth c s₁ B hml hv
  obtain ⟨rfl, hsz, hP, hK, hD0⟩ := hv
  have hx := B.exec
  have hb := B.bytes
  have hr := B.returns
  have hts := atoms_spec (ws := wsX0_seal) B.pre
  have hown : s.vm.findClass RX0 = some m.cls := findClass_of_methodNamed B.named
  have hlocks := B.notSynchronized
  have hin : ∀ w ∈ wsX00, w ∈ wsX0_seal := fun _ h => List.mem_cons_of_mem _ (List.mem_append_right _ h)
  subst hsz
  have hD := hD0.self (sz := s.heap.size)
  generalize hAe : va_A (wX ad cL cZ cO S) s.heap.size = A at hD ⊢
  have hA : ∀ q : Nat, s.heap.size ≤ q → A q := fun q h => by rw [← hAe]; exact Or.inr h
  have hS : va_S A s.heap s.heap [] := va_S.rf
  have hl := lv_entry ([.ref (ad 0), .int q, .int k, .int mask, .long data]) (n := 6) (Nat.le_of_ble_eq_true rfl)
  rw [lg_entry_eq]
  generalize (lg_sl ([.ref (ad 0), .int q, .int k, .int mask, .long data]) ++ List.replicate (6 - (lg_sl ([.ref (ad 0), .int q, .int k, .int mask, .long data])).length) Slot.unset).toArray = ls at hl ⊢
  have hl : lv_has ls 6 [(0, .ref (ad 0)), (1, .int q), (2, .int k), (3, .int mask), (4, .long data)] := hl
  refine lv_aload_n hx hb dX0_seal_0 rfl (lv_at hl 0 rfl) ?_
  refine lv_iload_n hx hb dX0_seal_1 rfl (lv_at hl 1 rfl) ?_
  refine vp_callSi (va_Run.run (va_runV (As := [.int q]) (rest := []) ⟨hx, hb, hml, hown, hts⟩ (c_X0_isSession l dC dI ad cL cZ cO S q ) (cwV 1 hts gX0_seal_X0_isSession rfl rfl rfl (by decide +kernel) ⟨Nat.le_of_ble_eq_true rfl, Nat.le_of_ble_eq_true rfl⟩) (xpV_r [.int q] hK hP (va_recv hK hP (ci := 0) (q0 := 0) rfl rfl)) rfl rfl hl.1 rfl (lv_room (Nat.le_of_ble_eq_true rfl)) dX0_seal_2 ⟨Nat.le_of_ble_eq_true rfl, Nat.le_of_ble_eq_true rfl⟩)) (fun r hr9 => ?_)
  subst hr9
  refine lv_if_eq (tgt := 24) hx hb dX0_seal_5 (by decide) (fun c5 => ?_) (fun c5 => ?_)
  · skip
    refine lv_iconst (v := -1) hx hb dX0_seal_24 (by decide) ?_
    exact W.iret (v := (-1 : Int32)) hx hb hr (fun t ht hW => ⟨⟨_, S, rfl, ⟨(by simp only [X_seal, if_pos c5] <;> rfl), (by simp only [X_seal, if_pos c5] <;> rfl)⟩, by rw [ht]; exact hP, va_K.moved hW.alike hK, hD⟩, hS.F ht⟩) hS.2.2 dX0_seal_25
  · skip
    have hq := X_isSession_in c5
    refine lv_aload_n hx hb dX0_seal_8 rfl (lv_at hl 0 rfl) ?_
    refine lv_iload_n hx hb dX0_seal_9 rfl (lv_at hl 2 rfl) ?_
    refine vp_callSi (va_Run.run (va_runV (As := [.int k]) (rest := []) ⟨hx, hb, hml, hown, hts⟩ (c_X0_isKey l dC dI ad cL cZ cO S k ) (cwV 1 hts gX0_seal_X0_isKey rfl rfl rfl (by decide +kernel) ⟨Nat.le_of_ble_eq_true rfl, Nat.le_of_ble_eq_true rfl⟩) (xpV_r [.int k] hK hP (va_recv hK hP (ci := 0) (q0 := 0) rfl rfl)) rfl rfl hl.1 rfl (lv_room (Nat.le_of_ble_eq_true rfl)) dX0_seal_10 ⟨Nat.le_of_ble_eq_true rfl, Nat.le_of_ble_eq_true rfl⟩)) (fun r hr9 => ?_)
    subst hr9
    refine lv_if_eq (tgt := 24) hx hb dX0_seal_13 (by decide) (fun c13 => ?_) (fun c13 => ?_)
    · skip
      refine lv_iconst (v := -1) hx hb dX0_seal_24 (by decide) ?_
      exact W.iret (v := (-1 : Int32)) hx hb hr (fun t ht hW => ⟨⟨_, S, rfl, ⟨(by simp only [X_seal, if_neg c5, if_pos c13] <;> rfl), (by simp only [X_seal, if_neg c5, if_pos c13] <;> rfl)⟩, by rw [ht]; exact hP, va_K.moved hW.alike hK, hD⟩, hS.F ht⟩) hS.2.2 dX0_seal_25
    · skip
      have hk := X_isKey_in c13
      refine lv_iload_n hx hb dX0_seal_16 rfl (lv_at hl 3 rfl) ?_
      refine lv_i2l hx hb dX0_seal_17 rfl ?_
      refine vp_callSi (va_Run.run (va_runS (As := [.long mask.toInt64]) (rest := []) ⟨hx, hb, hml, hown, hts⟩ (c_X0_isMask l mask.toInt64 ) (va_cwS 1 hts gX0_seal_X0_isMask rfl rfl rfl (by decide +kernel) ⟨Nat.le_of_ble_eq_true rfl, Nat.le_of_ble_eq_true rfl⟩) (xpS_n _) rfl rfl hl.1 rfl (lv_room (Nat.le_of_ble_eq_true rfl)) dX0_seal_18 ⟨Nat.le_of_ble_eq_true rfl, Nat.le_of_ble_eq_true rfl⟩)) (fun r hr9 => ?_)
      subst hr9
      refine lv_if_ne (tgt := 26) hx hb dX0_seal_21 (by decide) (fun c21 => ?_) (fun c21 => ?_)
      · skip
        refine lv_aload_n hx hb dX0_seal_26 rfl (lv_at hl 0 rfl) ?_
        refine vp_callSi (va_Run.run (va_runV (As := []) (rest := []) ⟨hx, hb, hml, hown, hts⟩ (c_X0_isLocked l dC dI ad cL cZ cO S  ) (cwV 0 hts gX0_seal_X0_isLocked rfl rfl rfl (by decide +kernel) ⟨Nat.le_of_ble_eq_true rfl, Nat.le_of_ble_eq_true rfl⟩) (xpV_r [] hK hP (va_recv hK hP (ci := 0) (q0 := 0) rfl rfl)) rfl rfl hl.1 rfl (lv_room (Nat.le_of_ble_eq_true rfl)) dX0_seal_27 ⟨Nat.le_of_ble_eq_true rfl, Nat.le_of_ble_eq_true rfl⟩)) (fun r hr9 => ?_)
        subst hr9
        refine lv_if_eq (tgt := 36) hx hb dX0_seal_30 (by decide) (fun c30 => ?_) (fun c30 => ?_)
        · skip
          refine lv_aload_n hx hb dX0_seal_36 rfl (lv_at hl 0 rfl) ?_
          refine g_x_bc hx hb hts hin hown hK hP (hts (.fieldLink RX0 92 RX0 "blobCount" "I") (by decide +kernel)) dX0_seal_37 ?_
          refine lv_bipush (v := 10) hx hb dX0_seal_40 (by decide) ?_
          refine lv_icmp_lt (tgt := 48) hx hb dX0_seal_42 (by decide) (fun c42 => ?_) (fun c42 => ?_)
          · skip
            have hb9 := okB_lt hB c42
            refine lv_aload_n hx hb dX0_seal_48 rfl (lv_at hl 0 rfl) ?_
            refine lv_aload_n hx hb dX0_seal_49 rfl (lv_at hl 0 rfl) ?_
            refine g_x_aks hx hb hts hin hown hK hP (hts (.fieldLink RX0 25 RX0 "keySecrets" "[J") (by decide +kernel)) dX0_seal_50 ?_
            refine lv_iload_n hx hb dX0_seal_53 rfl (lv_at hl 2 rfl) ?_
            refine l_x_ks hx hb hK hP (xat_self hk) dX0_seal_54 ?_
            refine lv_iload_n hx hb dX0_seal_55 rfl (lv_at hl 1 rfl) ?_
            refine lv_iconst (v := 1) hx hb dX0_seal_56 (by decide) ?_
            refine lv_iload_n hx hb dX0_seal_57 rfl (lv_at hl 3 rfl) ?_
            refine lv_i2l hx hb dX0_seal_58 rfl ?_
            refine lv_lload hx hb dX0_seal_59 (lv_at hl 4 rfl) ?_
            refine vp_callSl (va_Run.run (va_runS (As := [.long mask.toInt64, .long data]) (rest := [.int (1 : Int32), .int q, .long (x_ks S k.toNatClampNeg), .ref (ad 0)]) ⟨hx, hb, hml, hown, hts⟩ (c_X0_hash2 l mask.toInt64 data ) (va_cwS 2 hts gX0_seal_X0_hash2 rfl rfl rfl (by decide +kernel) ⟨Nat.le_of_ble_eq_true rfl, Nat.le_of_ble_eq_true rfl⟩) (xpS_n _) rfl rfl hl.1 rfl (lv_room (Nat.le_of_ble_eq_true rfl)) dX0_seal_61 ⟨Nat.le_of_ble_eq_true rfl, Nat.le_of_ble_eq_true rfl⟩)) (fun r hr9 => ?_)
            subst hr9
            refine xcall_i (va_runV (As := [.long (x_ks S k.toNatClampNeg), .int q, .int (1 : Int32), .long (h2 mask.toInt64 data)]) (rest := []) ⟨hx, hb, hml, hown, hts⟩ (c_X0_passesProving l dC dI ad cL cZ cO S s.heap.size (x_ks S k.toNatClampNeg) q (1 : Int32) (h2 mask.toInt64 data) hq) (cwV 4 hts gX0_seal_X0_passesProving rfl rfl rfl (by decide +kernel) ⟨Nat.le_of_ble_eq_true rfl, Nat.le_of_ble_eq_true rfl⟩) (xpV_w [.long (x_ks S k.toNatClampNeg), .int q, .int (1 : Int32), .long (h2 mask.toInt64 data)] hK hP hD (va_recv hK hP (ci := 0) (q0 := 0) rfl rfl)) rfl rfl hl.1 rfl (lv_room (Nat.le_of_ble_eq_true rfl)) dX0_seal_64 ⟨Nat.le_of_ble_eq_true rfl, Nat.le_of_ble_eq_true rfl⟩) hD hS hA (fun r u H locs hw hP hD hS => ?_)
            obtain ⟨rfl, rfl⟩ := hw
            refine lv_if_ne (tgt := 73) hx hb dX0_seal_67 (by decide) (fun c67 => ?_) (fun c67 => ?_)
            · skip
              refine lv_aload_n hx hb dX0_seal_73 rfl (lv_at hl 0 rfl) ?_
              refine lv_aload_n hx hb dX0_seal_74 rfl (lv_at hl 0 rfl) ?_
              refine g_x_akn hx hb hts hin hown hK hP (hts (.fieldLink RX0 28 RX0 "keyNames" "[J") (by decide +kernel)) dX0_seal_75 ?_
              refine lv_iload_n hx hb dX0_seal_78 rfl (lv_at hl 2 rfl) ?_
              refine l_x_kn hx hb hK hP (xat_self hk) dX0_seal_79 ?_
              refine lv_iload_n hx hb dX0_seal_80 rfl (lv_at hl 3 rfl) ?_
              refine lv_lload hx hb dX0_seal_81 (lv_at hl 4 rfl) ?_
              refine xcall_i (va_runV (As := [.long (x_kn ((X_passesProving S (x_ks S k.toNatClampNeg) q (1 : Int32) (h2 mask.toInt64 data)).2) k.toNatClampNeg), .int mask, .long data]) (rest := []) ⟨hx, hb, hml, hown, hts⟩ (c_X0_addBlob l dC dI ad cL cZ cO ((X_passesProving S (x_ks S k.toNatClampNeg) q (1 : Int32) (h2 mask.toInt64 data)).2) H.size (x_kn ((X_passesProving S (x_ks S k.toNatClampNeg) q (1 : Int32) (h2 mask.toInt64 data)).2) k.toNatClampNeg) mask data (X_pass_in hb9)) (cwV 3 hts gX0_seal_X0_addBlob rfl rfl rfl (by decide +kernel) ⟨Nat.le_of_ble_eq_true rfl, Nat.le_of_ble_eq_true rfl⟩) (xpV_w [.long (x_kn ((X_passesProving S (x_ks S k.toNatClampNeg) q (1 : Int32) (h2 mask.toInt64 data)).2) k.toNatClampNeg), .int mask, .long data] hK hP hD (va_recv hK hP (ci := 0) (q0 := 0) rfl rfl)) rfl rfl hl.1 rfl (lv_room (Nat.le_of_ble_eq_true rfl)) dX0_seal_83 ⟨Nat.le_of_ble_eq_true rfl, Nat.le_of_ble_eq_true rfl⟩) hD hS hA (fun r u H locs hw hP hD hS => ?_)
              obtain ⟨rfl, rfl⟩ := hw
              exact W.iret (v := (X_addBlob ((X_passesProving S (x_ks S k.toNatClampNeg) q (1 : Int32) (h2 mask.toInt64 data)).2) (x_kn ((X_passesProving S (x_ks S k.toNatClampNeg) q (1 : Int32) (h2 mask.toInt64 data)).2) k.toNatClampNeg) mask data).1) hx hb hr (fun t ht hW => ⟨⟨_, (X_addBlob ((X_passesProving S (x_ks S k.toNatClampNeg) q (1 : Int32) (h2 mask.toInt64 data)).2) (x_kn ((X_passesProving S (x_ks S k.toNatClampNeg) q (1 : Int32) (h2 mask.toInt64 data)).2) k.toNatClampNeg) mask data).2, rfl, ⟨(by simp only [X_seal, if_neg c5, if_neg c13, if_neg c21, if_pos c30, if_pos c42, if_neg c67] <;> rfl), (by simp only [X_seal, if_neg c5, if_neg c13, if_neg c21, if_pos c30, if_pos c42, if_neg c67] <;> rfl)⟩, by rw [ht]; exact hP, va_K.moved hW.alike hK, hD⟩, hS.F ht⟩) hS.2.2 dX0_seal_86
            · skip
              refine lv_bipush (v := -6) hx hb dX0_seal_70 (by decide) ?_
              exact W.iret (v := (-6 : Int32)) hx hb hr (fun t ht hW => ⟨⟨_, (X_passesProving S (x_ks S k.toNatClampNeg) q (1 : Int32) (h2 mask.toInt64 data)).2, rfl, ⟨(by simp only [X_seal, if_neg c5, if_neg c13, if_neg c21, if_pos c30, if_pos c42, if_pos c67] <;> rfl), (by simp only [X_seal, if_neg c5, if_neg c13, if_neg c21, if_pos c30, if_pos c42, if_pos c67] <;> rfl)⟩, by rw [ht]; exact hP, va_K.moved hW.alike hK, hD⟩, hS.F ht⟩) hS.2.2 dX0_seal_72
          · skip
            refine lv_bipush (v := -5) hx hb dX0_seal_45 (by decide) ?_
            exact W.iret (v := (-5 : Int32)) hx hb hr (fun t ht hW => ⟨⟨_, S, rfl, ⟨(by simp only [X_seal, if_neg c5, if_neg c13, if_neg c21, if_pos c30, if_neg c42] <;> rfl), (by simp only [X_seal, if_neg c5, if_neg c13, if_neg c21, if_pos c30, if_neg c42] <;> rfl)⟩, by rw [ht]; exact hP, va_K.moved hW.alike hK, hD⟩, hS.F ht⟩) hS.2.2 dX0_seal_47
        · skip
          refine lv_bipush (v := -2) hx hb dX0_seal_33 (by decide) ?_
          exact W.iret (v := (-2 : Int32)) hx hb hr (fun t ht hW => ⟨⟨_, S, rfl, ⟨(by simp only [X_seal, if_neg c5, if_neg c13, if_neg c21, if_neg c30] <;> rfl), (by simp only [X_seal, if_neg c5, if_neg c13, if_neg c21, if_neg c30] <;> rfl)⟩, by rw [ht]; exact hP, va_K.moved hW.alike hK, hD⟩, hS.F ht⟩) hS.2.2 dX0_seal_35
      · skip
        refine lv_iconst (v := -1) hx hb dX0_seal_24 (by decide) ?_
        exact W.iret (v := (-1 : Int32)) hx hb hr (fun t ht hW => ⟨⟨_, S, rfl, ⟨(by simp only [X_seal, if_neg c5, if_neg c13, if_pos c21] <;> rfl), (by simp only [X_seal, if_neg c5, if_neg c13, if_pos c21] <;> rfl)⟩, by rw [ht]; exact hP, va_K.moved hW.alike hK, hD⟩, hS.F ht⟩) hS.2.2 dX0_seal_25
end
section
set_option maxHeartbeats 4000000 in
set_option maxRecDepth 100000 in
theorem c_X0_unseal (l : Launch) (dC : Nat → ClassId) (dI : Nat → Nat → Nat) (ad : Nat → Nat) (cL cZ cO : ClassId) (S : SX) (sz : Nat) (q : Int32) (a : Int32) (hB : okB (x_bc S)) : Met l yX0_unseal wsX0_unseal ({ frames := 5, cells := 0, slots := 0, locals := 126 }) (va_Pc [.ref (ad 0), .int q, .int a] (fun U => U.heap.size = sz ∧ va_P (dC, dI) vwCl (wX ad cL cZ cO S) U.heap ∧ va_K (dC, dI) vwCl (tyX cL cZ cO) U ∧ va_D (fun _ => True) (wX ad cL cZ cO S))) (va_Qi (fun r u => r = (X_unseal S q a).1 ∧ u = (X_unseal S q a).2) (xB (dC, dI) (wX ad cL cZ cO) (tyX cL cZ cO) (va_A (wX ad cL cZ cO S) sz)) (va_A (wX ad cL cZ cO S) sz)) 0 0 (va_A (wX ad cL cZ cO S) sz) := by
  refine Met.ofW (cc := cX0_unseal) (maxL := 5) (ret := (some .int)) (by decide) rfl ?_
  intro p e s m args below meth c s₁ B hml hv
  obtain ⟨rfl, hsz, hP, hK, hD0⟩ := hv
  have hx := B.exec
  have hb := B.bytes
  have hr := B.returns
  have hts := atoms_spec (ws := wsX0_unseal) B.pre
  have hown : s.vm.findClass RX0 = some m.cls := findClass_of_methodNamed B.named
  have hlocks := B.notSynchronized
  have hin : ∀ w ∈ wsX00, w ∈ wsX0_unseal := fun _ h => List.mem_cons_of_mem _ (List.mem_append_right _ h)
  subst hsz
  have hD := hD0.self (sz := s.heap.size)
  generalize hAe : va_A (wX ad cL cZ cO S) s.heap.size = A at hD ⊢
  have hA : ∀ q : Nat, s.heap.size ≤ q → A q := fun q h => by rw [← hAe]; exact Or.inr h
  have hS : va_S A s.heap s.heap [] := va_S.rf
  have hl := lv_entry ([.ref (ad 0), .int q, .int a]) (n := 5) (Nat.le_of_ble_eq_true rfl)
  rw [lg_entry_eq]
  generalize (lg_sl ([.ref (ad 0), .int q, .int a]) ++ List.replicate (5 - (lg_sl ([.ref (ad 0), .int q, .int a])).length) Slot.unset).toArray = ls at hl ⊢
  have hl : lv_has ls 5 [(0, .ref (ad 0)), (1, .int q), (2, .int a)] := hl
  refine lv_aload_n hx hb dX0_unseal_0 rfl (lv_at hl 0 rfl) ?_
  refine lv_iload_n hx hb dX0_unseal_1 rfl (lv_at hl 1 rfl) ?_
  refine vp_callSi (va_Run.run (va_runV (As := [.int q]) (rest := []) ⟨hx, hb, hml, hown, hts⟩ (c_X0_isSession l dC dI ad cL cZ cO S q ) (cwV 1 hts gX0_unseal_X0_isSession rfl rfl rfl (by decide +kernel) ⟨Nat.le_of_ble_eq_true rfl, Nat.le_of_ble_eq_true rfl⟩) (xpV_r [.int q] hK hP (va_recv hK hP (ci := 0) (q0 := 0) rfl rfl)) rfl rfl hl.1 rfl (lv_room (Nat.le_of_ble_eq_true rfl)) dX0_unseal_2 ⟨Nat.le_of_ble_eq_true rfl, Nat.le_of_ble_eq_true rfl⟩)) (fun r hr9 => ?_)
  subst hr9
  refine lv_if_eq (tgt := 16) hx hb dX0_unseal_5 (by decide) (fun c5 => ?_) (fun c5 => ?_)
  · skip
    refine lv_iconst (v := -1) hx hb dX0_unseal_16 (by decide) ?_
    exact W.iret (v := (-1 : Int32)) hx hb hr (fun t ht hW => ⟨⟨_, S, rfl, ⟨(by unfold X_unseal X_unsealP; simp only [if_pos c5] <;> rfl), (by unfold X_unseal X_unsealP; simp only [if_pos c5] <;> rfl)⟩, by rw [ht]; exact hP, va_K.moved hW.alike hK, hD⟩, hS.F ht⟩) hS.2.2 dX0_unseal_17
  · skip
    have hq := X_isSession_in c5
    refine lv_aload_n hx hb dX0_unseal_8 rfl (lv_at hl 0 rfl) ?_
    refine lv_iload_n hx hb dX0_unseal_9 rfl (lv_at hl 2 rfl) ?_
    refine vp_callSi (va_Run.run (va_runV (As := [.int a]) (rest := []) ⟨hx, hb, hml, hown, hts⟩ (c_X0_isBlob l dC dI ad cL cZ cO S a ) (cwV 1 hts gX0_unseal_X0_isBlob rfl rfl rfl (by decide +kernel) ⟨Nat.le_of_ble_eq_true rfl, Nat.le_of_ble_eq_true rfl⟩) (xpV_r [.int a] hK hP (va_recv hK hP (ci := 0) (q0 := 0) rfl rfl)) rfl rfl hl.1 rfl (lv_room (Nat.le_of_ble_eq_true rfl)) dX0_unseal_10 ⟨Nat.le_of_ble_eq_true rfl, Nat.le_of_ble_eq_true rfl⟩)) (fun r hr9 => ?_)
    subst hr9
    refine lv_if_ne (tgt := 18) hx hb dX0_unseal_13 (by decide) (fun c13 => ?_) (fun c13 => ?_)
    · skip
      have ha := X_isBlob_in hB c13
      refine lv_aload_n hx hb dX0_unseal_18 rfl (lv_at hl 0 rfl) ?_
      refine vp_callSi (va_Run.run (va_runV (As := []) (rest := []) ⟨hx, hb, hml, hown, hts⟩ (c_X0_isLocked l dC dI ad cL cZ cO S  ) (cwV 0 hts gX0_unseal_X0_isLocked rfl rfl rfl (by decide +kernel) ⟨Nat.le_of_ble_eq_true rfl, Nat.le_of_ble_eq_true rfl⟩) (xpV_r [] hK hP (va_recv hK hP (ci := 0) (q0 := 0) rfl rfl)) rfl rfl hl.1 rfl (lv_room (Nat.le_of_ble_eq_true rfl)) dX0_unseal_19 ⟨Nat.le_of_ble_eq_true rfl, Nat.le_of_ble_eq_true rfl⟩)) (fun r hr9 => ?_)
      subst hr9
      refine lv_if_eq (tgt := 28) hx hb dX0_unseal_22 (by decide) (fun c22 => ?_) (fun c22 => ?_)
      · skip
        refine lv_aload_n hx hb dX0_unseal_28 rfl (lv_at hl 0 rfl) ?_
        refine g_x_abl hx hb hts hin hown hK hP (hts (.fieldLink RX0 42 RX0 "blobs" "[[J") (by decide +kernel)) dX0_unseal_29 ?_
        refine lv_iload_n hx hb dX0_unseal_32 rfl (lv_at hl 2 rfl) ?_
        refine l_x_bl hx hb hK hP (xat_self ha) dX0_unseal_33 ?_
        refine lv_astore_n (lv' := [(3, .ref (ad (9 + a.toNatClampNeg))), (0, .ref (ad 0)), (1, .int q), (2, .int a)]) hx hb dX0_unseal_34 rfl hl (by decide) rfl (fun ls hl => ?_)
        refine lv_aload_n hx hb dX0_unseal_35 rfl (lv_at hl 0 rfl) ?_
        refine lv_iconst (v := 5) hx hb dX0_unseal_36 (by decide) ?_
        refine l_x_row hx hb hK hP (xat_lt (xat_self ha)) (xat_nI (by decide) (by decide)) dX0_unseal_37 ?_
        refine lv_aload_n hx hb dX0_unseal_38 rfl (lv_at hl 1 rfl) ?_
        refine lv_aload_n hx hb dX0_unseal_39 rfl (lv_at hl 0 rfl) ?_
        refine vp_callSl (va_Run.run (va_runV (As := [.ref (ad (9 + a.toNatClampNeg))]) (rest := [.long (x_bl S a.toNatClampNeg 5)]) ⟨hx, hb, hml, hown, hts⟩ (c_X0_sealOf l dC dI ad cL cZ cO S a.toNatClampNeg (xat_lt (xat_self ha)) ) (cwV 1 hts gX0_unseal_X0_sealOf rfl rfl rfl (by decide +kernel) ⟨Nat.le_of_ble_eq_true rfl, Nat.le_of_ble_eq_true rfl⟩) (xpV_r [.ref (ad (9 + a.toNatClampNeg))] hK hP (va_recv hK hP (ci := 0) (q0 := 0) rfl rfl)) rfl rfl hl.1 rfl (lv_room (Nat.le_of_ble_eq_true rfl)) dX0_unseal_40 ⟨Nat.le_of_ble_eq_true rfl, Nat.le_of_ble_eq_true rfl⟩)) (fun r hr9 => ?_)
        subst hr9
        refine W.lcmp hx hb dX0_unseal_43 ?_
        refine lv_if_eq (tgt := 50) hx hb dX0_unseal_44 (by decide) (fun c44 => ?_) (fun c44 => ?_)
        · skip
          refine lv_aload_n hx hb dX0_unseal_50 rfl (lv_at hl 1 rfl) ?_
          refine lv_aload_n hx hb dX0_unseal_51 rfl (lv_at hl 0 rfl) ?_
          refine lv_iconst (v := 0) hx hb dX0_unseal_52 (by decide) ?_
          refine l_x_row hx hb hK hP (xat_lt (xat_self ha)) (xat_nI (by decide) (by decide)) dX0_unseal_53 ?_
          refine vp_callSi (va_Run.run (va_runV (As := [.long (x_bl S a.toNatClampNeg 0)]) (rest := []) ⟨hx, hb, hml, hown, hts⟩ (c_X0_leastKeyNamed l dC dI ad cL cZ cO S (x_bl S a.toNatClampNeg 0) ) (cwV 1 hts gX0_unseal_X0_leastKeyNamed rfl rfl rfl (by decide +kernel) ⟨Nat.le_of_ble_eq_true rfl, Nat.le_of_ble_eq_true rfl⟩) (xpV_r [.long (x_bl S a.toNatClampNeg 0)] hK hP (va_recv hK hP (ci := 0) (q0 := 0) rfl rfl)) rfl rfl hl.1 rfl (lv_room (Nat.le_of_ble_eq_true rfl)) dX0_unseal_54 ⟨Nat.le_of_ble_eq_true rfl, Nat.le_of_ble_eq_true rfl⟩)) (fun r hr9 => ?_)
          subst hr9
          refine lv_istore (lv' := [(4, .int (X_leastKeyNamed S (x_bl S a.toNatClampNeg 0))), (3, .ref (ad (9 + a.toNatClampNeg))), (0, .ref (ad 0)), (1, .int q), (2, .int a)]) hx hb dX0_unseal_57 hl (by decide) rfl (fun ls hl => ?_)
          refine lv_iload hx hb dX0_unseal_59 (lv_at hl 0 rfl) ?_
          refine lv_if_ge (tgt := 67) hx hb dX0_unseal_61 (by decide) (fun c61 => ?_) (fun c61 => ?_)
          · skip
            have hk : vp_in (X_leastKeyNamed S (x_bl S a.toNatClampNeg 0)) 6 := lkN_at c61
            refine lv_aload_n hx hb dX0_unseal_67 rfl (lv_at hl 2 rfl) ?_
            refine lv_aload_n hx hb dX0_unseal_68 rfl (lv_at hl 2 rfl) ?_
            refine g_x_aks hx hb hts hin hown hK hP (hts (.fieldLink RX0 25 RX0 "keySecrets" "[J") (by decide +kernel)) dX0_unseal_69 ?_
            refine lv_iload hx hb dX0_unseal_72 (lv_at hl 0 rfl) ?_
            refine l_x_ks hx hb hK hP (xat_self hk) dX0_unseal_74 ?_
            refine lv_iload_n hx hb dX0_unseal_75 rfl (lv_at hl 3 rfl) ?_
            refine lv_iconst (v := 2) hx hb dX0_unseal_76 (by decide) ?_
            refine lv_aload_n hx hb dX0_unseal_77 rfl (lv_at hl 1 rfl) ?_
            refine lv_iconst (v := 5) hx hb dX0_unseal_78 (by decide) ?_
            refine l_x_row hx hb hK hP (xat_lt (xat_self ha)) (xat_nI (by decide) (by decide)) dX0_unseal_79 ?_
            refine xcall_i (va_runV (As := [.long (x_ks S ((X_leastKeyNamed S (x_bl S a.toNatClampNeg 0)).toNatClampNeg)), .int q, .int (2 : Int32), .long (x_bl S a.toNatClampNeg 5)]) (rest := []) ⟨hx, hb, hml, hown, hts⟩ (c_X0_passesProving l dC dI ad cL cZ cO S s.heap.size (x_ks S ((X_leastKeyNamed S (x_bl S a.toNatClampNeg 0)).toNatClampNeg)) q (2 : Int32) (x_bl S a.toNatClampNeg 5) hq) (cwV 4 hts gX0_unseal_X0_passesProving rfl rfl rfl (by decide +kernel) ⟨Nat.le_of_ble_eq_true rfl, Nat.le_of_ble_eq_true rfl⟩) (xpV_w [.long (x_ks S ((X_leastKeyNamed S (x_bl S a.toNatClampNeg 0)).toNatClampNeg)), .int q, .int (2 : Int32), .long (x_bl S a.toNatClampNeg 5)] hK hP hD (va_recv hK hP (ci := 0) (q0 := 0) rfl rfl)) rfl rfl hl.1 rfl (lv_room (Nat.le_of_ble_eq_true rfl)) dX0_unseal_80 ⟨Nat.le_of_ble_eq_true rfl, Nat.le_of_ble_eq_true rfl⟩) hD hS hA (fun r u H locs hw hP hD hS => ?_)
            obtain ⟨rfl, rfl⟩ := hw
            refine lv_if_ne (tgt := 89) hx hb dX0_unseal_83 (by decide) (fun c83 => ?_) (fun c83 => ?_)
            · skip
              refine lv_aload_n hx hb dX0_unseal_89 rfl (lv_at hl 2 rfl) ?_
              refine lv_aload_n hx hb dX0_unseal_90 rfl (lv_at hl 1 rfl) ?_
              refine vp_callSi (va_Run.run (va_runV (As := [.ref (ad (9 + a.toNatClampNeg))]) (rest := []) ⟨hx, hb, hml, hown, hts⟩ (c_X0_isPolicyMet l dC dI ad cL cZ cO ((X_passesProving S (x_ks S ((X_leastKeyNamed S (x_bl S a.toNatClampNeg 0)).toNatClampNeg)) q (2 : Int32) (x_bl S a.toNatClampNeg 5)).2) a.toNatClampNeg (xat_lt (xat_self ha)) ) (cwV 1 hts gX0_unseal_X0_isPolicyMet rfl rfl rfl (by decide +kernel) ⟨Nat.le_of_ble_eq_true rfl, Nat.le_of_ble_eq_true rfl⟩) (xpV_r [.ref (ad (9 + a.toNatClampNeg))] hK hP (va_recv hK hP (ci := 0) (q0 := 0) rfl rfl)) rfl rfl hl.1 rfl (lv_room (Nat.le_of_ble_eq_true rfl)) dX0_unseal_91 ⟨Nat.le_of_ble_eq_true rfl, Nat.le_of_ble_eq_true rfl⟩)) (fun r hr9 => ?_)
              subst hr9
              refine lv_if_ne (tgt := 105) hx hb dX0_unseal_94 (by decide) (fun c94 => ?_) (fun c94 => ?_)
              · skip
                refine lv_aload_n hx hb dX0_unseal_105 rfl (lv_at hl 2 rfl) ?_
                refine lv_aload_n hx hb dX0_unseal_106 rfl (lv_at hl 1 rfl) ?_
                refine lv_iconst (v := 4) hx hb dX0_unseal_107 (by decide) ?_
                refine l_x_row hx hb hK hP (xat_lt (xat_self ha)) (xat_nI (by decide) (by decide)) dX0_unseal_108 ?_
                refine lv_aload_n hx hb dX0_unseal_109 rfl (lv_at hl 2 rfl) ?_
                refine lv_aload_n hx hb dX0_unseal_110 rfl (lv_at hl 1 rfl) ?_
                refine lv_iconst (v := 3) hx hb dX0_unseal_111 (by decide) ?_
                refine l_x_row hx hb hK hP (xat_lt (xat_self ha)) (xat_nI (by decide) (by decide)) dX0_unseal_112 ?_
                refine lv_aload_n hx hb dX0_unseal_113 rfl (lv_at hl 1 rfl) ?_
                refine lv_iconst (v := 2) hx hb dX0_unseal_114 (by decide) ?_
                refine l_x_row hx hb hK hP (xat_lt (xat_self ha)) (xat_nI (by decide) (by decide)) dX0_unseal_115 ?_
                refine vp_callSl (va_Run.run (va_runV (As := [.long (x_bl ((X_passesProving S (x_ks S ((X_leastKeyNamed S (x_bl S a.toNatClampNeg 0)).toNatClampNeg)) q (2 : Int32) (x_bl S a.toNatClampNeg 5)).2) a.toNatClampNeg 3), .long (x_bl ((X_passesProving S (x_ks S ((X_leastKeyNamed S (x_bl S a.toNatClampNeg 0)).toNatClampNeg)) q (2 : Int32) (x_bl S a.toNatClampNeg 5)).2) a.toNatClampNeg 2)]) (rest := [.long (x_bl ((X_passesProving S (x_ks S ((X_leastKeyNamed S (x_bl S a.toNatClampNeg 0)).toNatClampNeg)) q (2 : Int32) (x_bl S a.toNatClampNeg 5)).2) a.toNatClampNeg 4), .ref (ad 0)]) ⟨hx, hb, hml, hown, hts⟩ (c_X0_cover l dC dI ad cL cZ cO ((X_passesProving S (x_ks S ((X_leastKeyNamed S (x_bl S a.toNatClampNeg 0)).toNatClampNeg)) q (2 : Int32) (x_bl S a.toNatClampNeg 5)).2) (x_bl ((X_passesProving S (x_ks S ((X_leastKeyNamed S (x_bl S a.toNatClampNeg 0)).toNatClampNeg)) q (2 : Int32) (x_bl S a.toNatClampNeg 5)).2) a.toNatClampNeg 3) (x_bl ((X_passesProving S (x_ks S ((X_leastKeyNamed S (x_bl S a.toNatClampNeg 0)).toNatClampNeg)) q (2 : Int32) (x_bl S a.toNatClampNeg 5)).2) a.toNatClampNeg 2) ) (cwV 2 hts gX0_unseal_X0_cover rfl rfl rfl (by decide +kernel) ⟨Nat.le_of_ble_eq_true rfl, Nat.le_of_ble_eq_true rfl⟩) (xpV_r [.long (x_bl ((X_passesProving S (x_ks S ((X_leastKeyNamed S (x_bl S a.toNatClampNeg 0)).toNatClampNeg)) q (2 : Int32) (x_bl S a.toNatClampNeg 5)).2) a.toNatClampNeg 3), .long (x_bl ((X_passesProving S (x_ks S ((X_leastKeyNamed S (x_bl S a.toNatClampNeg 0)).toNatClampNeg)) q (2 : Int32) (x_bl S a.toNatClampNeg 5)).2) a.toNatClampNeg 2)] hK hP (va_recv hK hP (ci := 0) (q0 := 0) rfl rfl)) rfl rfl hl.1 rfl (lv_room (Nat.le_of_ble_eq_true rfl)) dX0_unseal_116 ⟨Nat.le_of_ble_eq_true rfl, Nat.le_of_ble_eq_true rfl⟩)) (fun r hr9 => ?_)
                subst hr9
                refine lv_lxor hx hb dX0_unseal_119 ?_
                refine p_x_ou hx hb hts hin hown hK hP hD hS (hts (.fieldLink RX0 115 RX0 "output" "J") (by decide +kernel)) dX0_unseal_120 (fun H locs hP hD hS => ?_)
                refine lv_iconst (v := 0) hx hb dX0_unseal_123 (by decide) ?_
                exact W.iret (v := (0 : Int32)) hx hb hr (fun t ht hW => ⟨⟨_, (xu_ou ((X_passesProving S (x_ks S ((X_leastKeyNamed S (x_bl S a.toNatClampNeg 0)).toNatClampNeg)) q (2 : Int32) (x_bl S a.toNatClampNeg 5)).2) ((x_bl ((X_passesProving S (x_ks S ((X_leastKeyNamed S (x_bl S a.toNatClampNeg 0)).toNatClampNeg)) q (2 : Int32) (x_bl S a.toNatClampNeg 5)).2) a.toNatClampNeg 4) ^^^ (X_cover ((X_passesProving S (x_ks S ((X_leastKeyNamed S (x_bl S a.toNatClampNeg 0)).toNatClampNeg)) q (2 : Int32) (x_bl S a.toNatClampNeg 5)).2) (x_bl ((X_passesProving S (x_ks S ((X_leastKeyNamed S (x_bl S a.toNatClampNeg 0)).toNatClampNeg)) q (2 : Int32) (x_bl S a.toNatClampNeg 5)).2) a.toNatClampNeg 3) (x_bl ((X_passesProving S (x_ks S ((X_leastKeyNamed S (x_bl S a.toNatClampNeg 0)).toNatClampNeg)) q (2 : Int32) (x_bl S a.toNatClampNeg 5)).2) a.toNatClampNeg 2)))), rfl, ⟨(by unfold X_unseal X_unsealP; simp only [if_neg c5, if_neg c13, if_pos c22, if_pos c44, if_pos c61, if_neg c83, if_neg c94] <;> rfl), (by unfold X_unseal X_unsealP; simp only [if_neg c5, if_neg c13, if_pos c22, if_pos c44, if_pos c61, if_neg c83, if_neg c94] <;> rfl)⟩, by rw [ht]; exact hP, va_K.moved hW.alike hK, hD⟩, hS.F ht⟩) hS.2.2 dX0_unseal_124
              · skip
                refine lv_aload_n hx hb dX0_unseal_97 rfl (lv_at hl 2 rfl) ?_
                refine lv_lconst (v := 0) hx hb dX0_unseal_98 (by decide) ?_
                refine p_x_ou hx hb hts hin hown hK hP hD hS (hts (.fieldLink RX0 115 RX0 "output" "J") (by decide +kernel)) dX0_unseal_99 (fun H locs hP hD hS => ?_)
                refine lv_bipush (v := -7) hx hb dX0_unseal_102 (by decide) ?_
                exact W.iret (v := (-7 : Int32)) hx hb hr (fun t ht hW => ⟨⟨_, (xu_ou ((X_passesProving S (x_ks S ((X_leastKeyNamed S (x_bl S a.toNatClampNeg 0)).toNatClampNeg)) q (2 : Int32) (x_bl S a.toNatClampNeg 5)).2) (0 : Int64)), rfl, ⟨(by unfold X_unseal X_unsealP; simp only [if_neg c5, if_neg c13, if_pos c22, if_pos c44, if_pos c61, if_neg c83, if_pos c94] <;> rfl), (by unfold X_unseal X_unsealP; simp only [if_neg c5, if_neg c13, if_pos c22, if_pos c44, if_pos c61, if_neg c83, if_pos c94] <;> rfl)⟩, by rw [ht]; exact hP, va_K.moved hW.alike hK, hD⟩, hS.F ht⟩) hS.2.2 dX0_unseal_104
            · skip
              refine lv_bipush (v := -6) hx hb dX0_unseal_86 (by decide) ?_
              exact W.iret (v := (-6 : Int32)) hx hb hr (fun t ht hW => ⟨⟨_, (X_passesProving S (x_ks S ((X_leastKeyNamed S (x_bl S a.toNatClampNeg 0)).toNatClampNeg)) q (2 : Int32) (x_bl S a.toNatClampNeg 5)).2, rfl, ⟨(by unfold X_unseal X_unsealP; simp only [if_neg c5, if_neg c13, if_pos c22, if_pos c44, if_pos c61, if_pos c83] <;> rfl), (by unfold X_unseal X_unsealP; simp only [if_neg c5, if_neg c13, if_pos c22, if_pos c44, if_pos c61, if_pos c83] <;> rfl)⟩, by rw [ht]; exact hP, va_K.moved hW.alike hK, hD⟩, hS.F ht⟩) hS.2.2 dX0_unseal_88
          · skip
            refine lv_bipush (v := -4) hx hb dX0_unseal_64 (by decide) ?_
            exact W.iret (v := (-4 : Int32)) hx hb hr (fun t ht hW => ⟨⟨_, S, rfl, ⟨(by unfold X_unseal X_unsealP; simp only [if_neg c5, if_neg c13, if_pos c22, if_pos c44, if_neg c61] <;> rfl), (by unfold X_unseal X_unsealP; simp only [if_neg c5, if_neg c13, if_pos c22, if_pos c44, if_neg c61] <;> rfl)⟩, by rw [ht]; exact hP, va_K.moved hW.alike hK, hD⟩, hS.F ht⟩) hS.2.2 dX0_unseal_66
        · skip
          refine lv_bipush (v := -3) hx hb dX0_unseal_47 (by decide) ?_
          exact W.iret (v := (-3 : Int32)) hx hb hr (fun t ht hW => ⟨⟨_, S, rfl, ⟨(by unfold X_unseal X_unsealP; simp only [if_neg c5, if_neg c13, if_pos c22, if_neg c44] <;> rfl), (by unfold X_unseal X_unsealP; simp only [if_neg c5, if_neg c13, if_pos c22, if_neg c44] <;> rfl)⟩, by rw [ht]; exact hP, va_K.moved hW.alike hK, hD⟩, hS.F ht⟩) hS.2.2 dX0_unseal_49
      · skip
        refine lv_bipush (v := -2) hx hb dX0_unseal_25 (by decide) ?_
        exact W.iret (v := (-2 : Int32)) hx hb hr (fun t ht hW => ⟨⟨_, S, rfl, ⟨(by unfold X_unseal X_unsealP; simp only [if_neg c5, if_neg c13, if_neg c22] <;> rfl), (by unfold X_unseal X_unsealP; simp only [if_neg c5, if_neg c13, if_neg c22] <;> rfl)⟩, by rw [ht]; exact hP, va_K.moved hW.alike hK, hD⟩, hS.F ht⟩) hS.2.2 dX0_unseal_27
    · skip
      refine lv_iconst (v := -1) hx hb dX0_unseal_16 (by decide) ?_
      exact W.iret (v := (-1 : Int32)) hx hb hr (fun t ht hW => ⟨⟨_, S, rfl, ⟨(by unfold X_unseal X_unsealP; simp only [if_neg c5, if_pos c13] <;> rfl), (by unfold X_unseal X_unsealP; simp only [if_neg c5, if_pos c13] <;> rfl)⟩, by rw [ht]; exact hP, va_K.moved hW.alike hK, hD⟩, hS.F ht⟩) hS.2.2 dX0_unseal_17
set_option maxHeartbeats 4000000 in
set_option maxRecDepth 100000 in
theorem c_X0_quote (l : Launch) (dC : Nat → ClassId) (dI : Nat → Nat → Nat) (ad : Nat → Nat) (cL cZ cO : ClassId) (S : SX) (sz : Nat) (q : Int32) (k : Int32) (mask : Int32) (ch : Int64) (hB : okB (x_bc S)) : Met l yX0_quote wsX0_quote ({ frames := 5, cells := 0, slots := 0, locals := 126 }) (va_Pc [.ref (ad 0), .int q, .int k, .int mask, .long ch] (fun U => U.heap.size = sz ∧ va_P (dC, dI) vwCl (wX ad cL cZ cO S) U.heap ∧ va_K (dC, dI) vwCl (tyX cL cZ cO) U ∧ va_D (fun _ => True) (wX ad cL cZ cO S))) (va_Qi (fun r u => r = (X_quote S q k mask ch).1 ∧ u = (X_quote S q k mask ch).2) (xB (dC, dI) (wX ad cL cZ cO) (tyX cL cZ cO) (va_A (wX ad cL cZ cO S) sz)) (va_A (wX ad cL cZ cO S) sz)) 0 0 (va_A (wX ad cL cZ cO S) sz) := by
  refine Met.ofW (cc := cX0_quote) (maxL := 8) (ret := (some .int)) (by decide) rfl ?_
  intro p e s m args below meth c s₁ B hml hv
  obtain ⟨rfl, hsz, hP, hK, hD0⟩ := hv
  have hx := B.exec
  have hb := B.bytes
  have hr := B.returns
  have hts := atoms_spec (ws := wsX0_quote) B.pre
  have hown : s.vm.findClass RX0 = some m.cls := findClass_of_methodNamed B.named
  have hlocks := B.notSynchronized
  have hin : ∀ w ∈ wsX00, w ∈ wsX0_quote := fun _ h => List.mem_cons_of_mem _ (List.mem_append_right _ h)
  subst hsz
  have hD := hD0.self (sz := s.heap.size)
  generalize hAe : va_A (wX ad cL cZ cO S) s.heap.size = A at hD ⊢
  have hA : ∀ q : Nat, s.heap.size ≤ q → A q := fun q h => by rw [← hAe]; exact Or.inr h
  have hS : va_S A s.heap s.heap [] := va_S.rf
  have hl := lv_entry ([.ref (ad 0), .int q, .int k, .int mask, .long ch]) (n := 8) (Nat.le_of_ble_eq_true rfl)
  rw [lg_entry_eq]
  generalize (lg_sl ([.ref (ad 0), .int q, .int k, .int mask, .long ch]) ++ List.replicate (8 - (lg_sl ([.ref (ad 0), .int q, .int k, .int mask, .long ch])).length) Slot.unset).toArray = ls at hl ⊢
  have hl : lv_has ls 8 [(0, .ref (ad 0)), (1, .int q), (2, .int k), (3, .int mask), (4, .long ch)] := hl
  refine lv_aload_n hx hb dX0_quote_0 rfl (lv_at hl 0 rfl) ?_
  refine lv_iload_n hx hb dX0_quote_1 rfl (lv_at hl 1 rfl) ?_
  refine vp_callSi (va_Run.run (va_runV (As := [.int q]) (rest := []) ⟨hx, hb, hml, hown, hts⟩ (c_X0_isSession l dC dI ad cL cZ cO S q ) (cwV 1 hts gX0_quote_X0_isSession rfl rfl rfl (by decide +kernel) ⟨Nat.le_of_ble_eq_true rfl, Nat.le_of_ble_eq_true rfl⟩) (xpV_r [.int q] hK hP (va_recv hK hP (ci := 0) (q0 := 0) rfl rfl)) rfl rfl hl.1 rfl (lv_room (Nat.le_of_ble_eq_true rfl)) dX0_quote_2 ⟨Nat.le_of_ble_eq_true rfl, Nat.le_of_ble_eq_true rfl⟩)) (fun r hr9 => ?_)
  subst hr9
  refine lv_if_eq (tgt := 24) hx hb dX0_quote_5 (by decide) (fun c5 => ?_) (fun c5 => ?_)
  · skip
    refine lv_iconst (v := -1) hx hb dX0_quote_24 (by decide) ?_
    exact W.iret (v := (-1 : Int32)) hx hb hr (fun t ht hW => ⟨⟨_, S, rfl, ⟨(by simp only [X_quote, if_pos c5] <;> rfl), (by simp only [X_quote, if_pos c5] <;> rfl)⟩, by rw [ht]; exact hP, va_K.moved hW.alike hK, hD⟩, hS.F ht⟩) hS.2.2 dX0_quote_25
  · skip
    have hq := X_isSession_in c5
    refine lv_aload_n hx hb dX0_quote_8 rfl (lv_at hl 0 rfl) ?_
    refine lv_iload_n hx hb dX0_quote_9 rfl (lv_at hl 2 rfl) ?_
    refine vp_callSi (va_Run.run (va_runV (As := [.int k]) (rest := []) ⟨hx, hb, hml, hown, hts⟩ (c_X0_isKey l dC dI ad cL cZ cO S k ) (cwV 1 hts gX0_quote_X0_isKey rfl rfl rfl (by decide +kernel) ⟨Nat.le_of_ble_eq_true rfl, Nat.le_of_ble_eq_true rfl⟩) (xpV_r [.int k] hK hP (va_recv hK hP (ci := 0) (q0 := 0) rfl rfl)) rfl rfl hl.1 rfl (lv_room (Nat.le_of_ble_eq_true rfl)) dX0_quote_10 ⟨Nat.le_of_ble_eq_true rfl, Nat.le_of_ble_eq_true rfl⟩)) (fun r hr9 => ?_)
    subst hr9
    refine lv_if_eq (tgt := 24) hx hb dX0_quote_13 (by decide) (fun c13 => ?_) (fun c13 => ?_)
    · skip
      refine lv_iconst (v := -1) hx hb dX0_quote_24 (by decide) ?_
      exact W.iret (v := (-1 : Int32)) hx hb hr (fun t ht hW => ⟨⟨_, S, rfl, ⟨(by simp only [X_quote, if_neg c5, if_pos c13] <;> rfl), (by simp only [X_quote, if_neg c5, if_pos c13] <;> rfl)⟩, by rw [ht]; exact hP, va_K.moved hW.alike hK, hD⟩, hS.F ht⟩) hS.2.2 dX0_quote_25
    · skip
      have hk := X_isKey_in c13
      refine lv_iload_n hx hb dX0_quote_16 rfl (lv_at hl 3 rfl) ?_
      refine lv_i2l hx hb dX0_quote_17 rfl ?_
      refine vp_callSi (va_Run.run (va_runS (As := [.long mask.toInt64]) (rest := []) ⟨hx, hb, hml, hown, hts⟩ (c_X0_isMask l mask.toInt64 ) (va_cwS 1 hts gX0_quote_X0_isMask rfl rfl rfl (by decide +kernel) ⟨Nat.le_of_ble_eq_true rfl, Nat.le_of_ble_eq_true rfl⟩) (xpS_n _) rfl rfl hl.1 rfl (lv_room (Nat.le_of_ble_eq_true rfl)) dX0_quote_18 ⟨Nat.le_of_ble_eq_true rfl, Nat.le_of_ble_eq_true rfl⟩)) (fun r hr9 => ?_)
      subst hr9
      refine lv_if_ne (tgt := 26) hx hb dX0_quote_21 (by decide) (fun c21 => ?_) (fun c21 => ?_)
      · skip
        refine lv_aload_n hx hb dX0_quote_26 rfl (lv_at hl 0 rfl) ?_
        refine vp_callSi (va_Run.run (va_runV (As := []) (rest := []) ⟨hx, hb, hml, hown, hts⟩ (c_X0_isLocked l dC dI ad cL cZ cO S  ) (cwV 0 hts gX0_quote_X0_isLocked rfl rfl rfl (by decide +kernel) ⟨Nat.le_of_ble_eq_true rfl, Nat.le_of_ble_eq_true rfl⟩) (xpV_r [] hK hP (va_recv hK hP (ci := 0) (q0 := 0) rfl rfl)) rfl rfl hl.1 rfl (lv_room (Nat.le_of_ble_eq_true rfl)) dX0_quote_27 ⟨Nat.le_of_ble_eq_true rfl, Nat.le_of_ble_eq_true rfl⟩)) (fun r hr9 => ?_)
        subst hr9
        refine lv_if_eq (tgt := 36) hx hb dX0_quote_30 (by decide) (fun c30 => ?_) (fun c30 => ?_)
        · skip
          refine lv_aload_n hx hb dX0_quote_36 rfl (lv_at hl 0 rfl) ?_
          refine g_x_aks hx hb hts hin hown hK hP (hts (.fieldLink RX0 25 RX0 "keySecrets" "[J") (by decide +kernel)) dX0_quote_37 ?_
          refine lv_iload_n hx hb dX0_quote_40 rfl (lv_at hl 2 rfl) ?_
          refine l_x_ks hx hb hK hP (xat_self hk) dX0_quote_41 ?_
          refine lv_lstore (lv' := [(6, .long (x_ks S k.toNatClampNeg)), (0, .ref (ad 0)), (1, .int q), (2, .int k), (3, .int mask), (4, .long ch)]) hx hb dX0_quote_42 hl (by decide) rfl (fun ls hl => ?_)
          refine lv_aload_n hx hb dX0_quote_44 rfl (lv_at hl 1 rfl) ?_
          refine lv_lload hx hb dX0_quote_45 (lv_at hl 0 rfl) ?_
          refine lv_iload_n hx hb dX0_quote_47 rfl (lv_at hl 2 rfl) ?_
          refine lv_iconst (v := 3) hx hb dX0_quote_48 (by decide) ?_
          refine lv_iload_n hx hb dX0_quote_49 rfl (lv_at hl 4 rfl) ?_
          refine lv_i2l hx hb dX0_quote_50 rfl ?_
          refine lv_lload hx hb dX0_quote_51 (lv_at hl 5 rfl) ?_
          refine vp_callSl (va_Run.run (va_runS (As := [.long mask.toInt64, .long ch]) (rest := [.int (3 : Int32), .int q, .long (x_ks S k.toNatClampNeg), .ref (ad 0)]) ⟨hx, hb, hml, hown, hts⟩ (c_X0_hash2 l mask.toInt64 ch ) (va_cwS 2 hts gX0_quote_X0_hash2 rfl rfl rfl (by decide +kernel) ⟨Nat.le_of_ble_eq_true rfl, Nat.le_of_ble_eq_true rfl⟩) (xpS_n _) rfl rfl hl.1 rfl (lv_room (Nat.le_of_ble_eq_true rfl)) dX0_quote_53 ⟨Nat.le_of_ble_eq_true rfl, Nat.le_of_ble_eq_true rfl⟩)) (fun r hr9 => ?_)
          subst hr9
          refine xcall_i (va_runV (As := [.long (x_ks S k.toNatClampNeg), .int q, .int (3 : Int32), .long (h2 mask.toInt64 ch)]) (rest := []) ⟨hx, hb, hml, hown, hts⟩ (c_X0_passesProving l dC dI ad cL cZ cO S s.heap.size (x_ks S k.toNatClampNeg) q (3 : Int32) (h2 mask.toInt64 ch) hq) (cwV 4 hts gX0_quote_X0_passesProving rfl rfl rfl (by decide +kernel) ⟨Nat.le_of_ble_eq_true rfl, Nat.le_of_ble_eq_true rfl⟩) (xpV_w [.long (x_ks S k.toNatClampNeg), .int q, .int (3 : Int32), .long (h2 mask.toInt64 ch)] hK hP hD (va_recv hK hP (ci := 0) (q0 := 0) rfl rfl)) rfl rfl hl.1 rfl (lv_room (Nat.le_of_ble_eq_true rfl)) dX0_quote_56 ⟨Nat.le_of_ble_eq_true rfl, Nat.le_of_ble_eq_true rfl⟩) hD hS hA (fun r u H locs hw hP hD hS => ?_)
          obtain ⟨rfl, rfl⟩ := hw
          refine lv_if_ne (tgt := 65) hx hb dX0_quote_59 (by decide) (fun c59 => ?_) (fun c59 => ?_)
          · skip
            refine lv_aload_n hx hb dX0_quote_65 rfl (lv_at hl 1 rfl) ?_
            refine lv_aload_n hx hb dX0_quote_66 rfl (lv_at hl 1 rfl) ?_
            refine lv_lload hx hb dX0_quote_67 (lv_at hl 0 rfl) ?_
            refine lv_iload_n hx hb dX0_quote_69 rfl (lv_at hl 4 rfl) ?_
            refine lv_lload hx hb dX0_quote_70 (lv_at hl 5 rfl) ?_
            refine vp_callSl (va_Run.run (va_runV (As := [.long (x_ks S k.toNatClampNeg), .int mask, .long ch]) (rest := [.ref (ad 0)]) ⟨hx, hb, hml, hown, hts⟩ (c_X0_signature l dC dI ad cL cZ cO ((X_passesProving S (x_ks S k.toNatClampNeg) q (3 : Int32) (h2 mask.toInt64 ch)).2) (x_ks S k.toNatClampNeg) mask ch ) (cwV 3 hts gX0_quote_X0_signature rfl rfl rfl (by decide +kernel) ⟨Nat.le_of_ble_eq_true rfl, Nat.le_of_ble_eq_true rfl⟩) (xpV_r [.long (x_ks S k.toNatClampNeg), .int mask, .long ch] hK hP (va_recv hK hP (ci := 0) (q0 := 0) rfl rfl)) rfl rfl hl.1 rfl (lv_room (Nat.le_of_ble_eq_true rfl)) dX0_quote_72 ⟨Nat.le_of_ble_eq_true rfl, Nat.le_of_ble_eq_true rfl⟩)) (fun r hr9 => ?_)
            subst hr9
            refine p_x_ou hx hb hts hin hown hK hP hD hS (hts (.fieldLink RX0 115 RX0 "output" "J") (by decide +kernel)) dX0_quote_75 (fun H locs hP hD hS => ?_)
            refine lv_iconst (v := 0) hx hb dX0_quote_78 (by decide) ?_
            exact W.iret (v := (0 : Int32)) hx hb hr (fun t ht hW => ⟨⟨_, (xu_ou ((X_passesProving S (x_ks S k.toNatClampNeg) q (3 : Int32) (h2 mask.toInt64 ch)).2) (X_signature ((X_passesProving S (x_ks S k.toNatClampNeg) q (3 : Int32) (h2 mask.toInt64 ch)).2) (x_ks S k.toNatClampNeg) mask ch)), rfl, ⟨(by simp only [X_quote, if_neg c5, if_neg c13, if_neg c21, if_pos c30, if_neg c59] <;> rfl), (by simp only [X_quote, if_neg c5, if_neg c13, if_neg c21, if_pos c30, if_neg c59] <;> rfl)⟩, by rw [ht]; exact hP, va_K.moved hW.alike hK, hD⟩, hS.F ht⟩) hS.2.2 dX0_quote_79
          · skip
            refine lv_bipush (v := -6) hx hb dX0_quote_62 (by decide) ?_
            exact W.iret (v := (-6 : Int32)) hx hb hr (fun t ht hW => ⟨⟨_, (X_passesProving S (x_ks S k.toNatClampNeg) q (3 : Int32) (h2 mask.toInt64 ch)).2, rfl, ⟨(by simp only [X_quote, if_neg c5, if_neg c13, if_neg c21, if_pos c30, if_pos c59] <;> rfl), (by simp only [X_quote, if_neg c5, if_neg c13, if_neg c21, if_pos c30, if_pos c59] <;> rfl)⟩, by rw [ht]; exact hP, va_K.moved hW.alike hK, hD⟩, hS.F ht⟩) hS.2.2 dX0_quote_64
        · skip
          refine lv_bipush (v := -2) hx hb dX0_quote_33 (by decide) ?_
          exact W.iret (v := (-2 : Int32)) hx hb hr (fun t ht hW => ⟨⟨_, S, rfl, ⟨(by simp only [X_quote, if_neg c5, if_neg c13, if_neg c21, if_neg c30] <;> rfl), (by simp only [X_quote, if_neg c5, if_neg c13, if_neg c21, if_neg c30] <;> rfl)⟩, by rw [ht]; exact hP, va_K.moved hW.alike hK, hD⟩, hS.F ht⟩) hS.2.2 dX0_quote_35
      · skip
        refine lv_iconst (v := -1) hx hb dX0_quote_24 (by decide) ?_
        exact W.iret (v := (-1 : Int32)) hx hb hr (fun t ht hW => ⟨⟨_, S, rfl, ⟨(by simp only [X_quote, if_neg c5, if_neg c13, if_pos c21] <;> rfl), (by simp only [X_quote, if_neg c5, if_neg c13, if_pos c21] <;> rfl)⟩, by rw [ht]; exact hP, va_K.moved hW.alike hK, hD⟩, hS.F ht⟩) hS.2.2 dX0_quote_25
end
section
/-! THE REFERENCE: what each method answers, as functions of its state -/
def M_word (S : SM) (d : Int64) : Int64 := h2 (m_m S) d
def M_nameOf (S : SM) (k : Int32) : Int64 := h2 (m_ks S k.toNatClampNeg) (M_word S (m_kd S k.toNatClampNeg))
/-- a register's word: n of the things done -/
def fld (wh : Nat → Int32) (wi : Nat → Int64) (q : Int32) : Nat → Int64
  | 0 => 0
  | n + 1 => if wh n = q + 8 then 0 else if wh n = q then h2 (fld wh wi q n) (wi n) else fld wh wi q n
def M_folded (S : SM) (q : Int32) : Int64 := fld (m_wh S) (m_wi S) q (m_dn S).toNatClampNeg
def cntN (mask : Int32) : Nat → Nat
  | 0 => 1
  | n + 1 => if (mask >>> (nI n &&& 31)) &&& 1 = 1 then cntN mask n + 1 else cntN mask n
def rowN (ro hd : Nat → Int64) (mask : Int32) : Nat → Nat → Int64
  | 0 => ro
  | n + 1 => if (mask >>> (nI n &&& 31)) &&& 1 = 1 then vp_updL (rowN ro hd mask n) (cntN mask n) (hd n) else rowN ro hd mask n
def M_digestOf (S : SM) (mask : Int32) : Int64 := foN (nI (cntN mask 8)).toInt64 (rowN (fun _ => mask.toInt64) (fun j => M_folded S (nI j)) mask 8) (cntN mask 8)
def M_veil (S : SM) (sa dg : Int64) : Int64 := fo (fo (fo 3 (m_m S)) sa) dg
def M_sealOf (S : SM) (q : Int32) : Int64 := mE (m_m S) (foN (mB (m_m S) 5) (fun j => m_bw S (6 * q.toNatClampNeg + j)) 5)
/-- five words of a blob laid into the scratch row -/
def rowS (ro bw : Nat → Int64) (q : Nat) : Nat → Nat → Int64
  | 0 => ro
  | n + 1 => vp_updL (rowS ro bw q n) (1 + n) (bw (6 * q + n))
def M_locality (S : SM) (q : Int32) : Int32 × SM := if q < 0 then (0, S) else if q ≤ 3 then (1, mu_lo S q) else (0, S)
def M_noted (S : SM) (kd : Int32) (v : Int64) : SM := mu_dn (mu_wi (mu_wh S (upd (m_wh S) (m_dn S).toNatClampNeg kd)) (vp_updL (m_wi S) (m_dn S).toNatClampNeg v)) (m_dn S + 1)
def M_note (S : SM) (q kd : Int32) (v : Int64) : Int32 × SM := if q < 0 then (0, S) else if 7 < q then (0, S) else if q / 2 ≤ m_lo S then (1, M_noted S kd v) else (0, S)
def M_extend (S : SM) (q : Int32) (v : Int64) : Int32 × SM := M_note S q q v
def M_reset (S : SM) (q : Int32) : Int32 × SM := if q < 4 then (0, S) else if 7 < q then (0, S) else if (M_note S q (q + 8) 0).1 = 0 then (0, (M_note S q (q + 8) 0).2) else (1, (M_note S q (q + 8) 0).2)
def M_register (S : SM) (q : Int32) : Int64 := if q < 0 then 0 else if q ≤ 7 then M_folded S q else 0
def M_isMask (w : Int64) : Int32 := if lg_cmp w 0 < 0 then 0 else if 0 < lg_cmp w 255 then 0 else 1
def M_digest (S : SM) (mask : Int32) : Int64 := if M_isMask mask.toInt64 = 0 then 0 else M_digestOf S mask
def M_hasKey (S : SM) (k : Int32) : Int32 := if k < 0 then 0 else if 6 ≤ k then 0 else if m_kt S k.toNatClampNeg = 0 then 0 else 1
def M_hasSession (S : SM) (k : Int32) : Int32 := if k < 0 then 0 else if 4 ≤ k then 0 else if m_st S k.toNatClampNeg = 0 then 0 else 1
def M_hasBlob (S : SM) (k : Int32) : Int32 := if k < 0 then 0 else if m_bc S ≤ k then 0 else 1
/-- the least place with 0, else where it ends -/
def lfK (f : Nat → Int32) : Nat → Nat → Nat
  | i, 0 => i
  | i, r + 1 => if f i = 0 then i else lfK f (i + 1) r
def M_made (S : SM) (k : Nat) (secret : Int64) : SM := mu_kd (mu_ks (mu_kt (mu_dr S (m_dr S + 1)) (upd (m_kt S) k 1)) (vp_updL (m_ks S) k secret)) (vp_updL (m_kd S) k (m_dr S + 1))
def M_create (S : SM) (secret : Int64) : Int32 × SM := if nI (lfK (m_kt S) 0 6) = 6 then (-5, S) else (nI (lfK (m_kt S) 0 6), M_made S (lfK (m_kt S) 0 6) secret)
def M_destroy (S : SM) (k : Int32) : Int32 × SM := if M_hasKey S k = 0 then (0, S) else (1, mu_kt S (upd (m_kt S) k.toNatClampNeg 0))
def M_name (S : SM) (k : Int32) : Int64 := if M_hasKey S k = 0 then 0 else M_nameOf S k
def M_begun (S : SM) (k : Nat) (nonce : Int64) : SM := mu_sd (mu_cn (mu_st (mu_dr S (m_dr S + 1)) (upd (m_st S) k 1)) (vp_updL (m_cn S) k nonce)) (vp_updL (m_sd S) k (m_dr S + 1))
def M_begin (S : SM) (nonce : Int64) : Int32 × SM := if nI (lfK (m_st S) 0 4) = 4 then (-5, S) else (nI (lfK (m_st S) 0 4), M_begun S (lfK (m_st S) 0 4) nonce)
def M_end (S : SM) (k : Int32) : Int32 × SM := if M_hasSession S k = 0 then (0, S) else (1, mu_st S (upd (m_st S) k.toNatClampNeg 0))
def M_nonce (S : SM) (k : Int32) : Int64 := if M_hasSession S k = 0 then 0 else M_word S (m_sd S k.toNatClampNeg)
def M_rightFor (S : SM) (secret : Int64) (q cm : Int32) (pa : Int64) : Int64 := mE secret (fo (fo (fo (fo (mB secret 4) (M_word S (m_sd S q.toNatClampNeg))) (m_cn S q.toNatClampNeg)) cm.toInt64) pa)
def M_param (S : SM) (cm a : Int32) (b : Int64) : Int64 := if cm = 2 then m_bw S (6 * a.toNatClampNeg + 5) else h2 a.toInt64 b
def M_prove (S : SM) (secret : Int64) (q cm a : Int32) (b : Int64) : Int32 × SM :=
  if M_hasSession S q = 0 then (0, S) else if cm < 1 then (0, S) else if 3 < cm then (0, S) else
    (if cm = 2 then (if M_hasBlob S a = 0 then (0, S) else (1, mu_pr S (M_rightFor S secret q cm (M_param S cm a b)))) else (1, mu_pr S (M_rightFor S secret q cm (M_param S cm a b))))
def M_anew (S : SM) (q : Int32) : SM := mu_sd (mu_dr S (m_dr S + 1)) (vp_updL (m_sd S) q.toNatClampNeg (m_dr S + 1))
def M_proved (S : SM) (q k cm : Int32) (pa : Int64) : Int32 × SM :=
  if lg_cmp (m_pr S) (M_rightFor S (m_ks S k.toNatClampNeg) q cm pa) = 0 then (1, mu_ou (mu_fa (M_anew S q) 0) (m_ou S)) else (0, mu_ou (mu_fa (M_anew S q) (m_fa S + 1)) 0)
def M_put (S : SM) (i : Nat) (v : Int64) : SM := mu_bw S (vp_updL (m_bw S) i v)
def M_ab5 (T : SM) (k mask : Int32) (data : Int64) : SM :=
  M_put (M_put (M_put (M_put (M_put T (6 * (m_bc T).toNatClampNeg) (M_nameOf T k)) (6 * (m_bc T).toNatClampNeg + 1) mask.toInt64) (6 * (m_bc T).toNatClampNeg + 2) (M_digestOf T mask)) (6 * (m_bc T).toNatClampNeg + 3) (M_word T (m_dr T))) (6 * (m_bc T).toNatClampNeg + 4) (data ^^^ M_veil T (M_word T (m_dr T)) (M_digestOf T mask))
def M_addBlob (T : SM) (k mask : Int32) (data : Int64) : SM :=
  mu_bc (M_put (M_ab5 T k mask data) (6 * (m_bc T).toNatClampNeg + 5) (M_sealOf (M_ab5 T k mask data) (m_bc T))) (m_bc T + 1)
def M_sealP (S : SM) (q k mask : Int32) (data : Int64) : Int32 × SM := M_proved S q k 1 (h2 mask.toInt64 data)
def M_seal (S : SM) (q k mask : Int32) (data : Int64) : Int32 × SM :=
  if M_hasSession S q = 0 then (-1, S) else if M_hasKey S k = 0 then (-1, S) else if M_isMask mask.toInt64 = 0 then (-1, S) else if 3 ≤ m_fa S then (if m_fa S < 3 then (-5, S) else (-2, S)) else if m_bc S < 10 then
      (if (M_sealP S q k mask data).1 = 0 then (-6, (M_sealP S q k mask data).2)
       else (m_bc (M_sealP S q k mask data).2 + 1 - 1, M_addBlob (mu_dr (M_sealP S q k mask data).2 (m_dr (M_sealP S q k mask data).2 + 1)) k mask data))
    else (if m_fa S < 3 then (-5, S) else (-2, S))
/-- the keys from n - 1 down to 0 -/
def mfin (kt : Nat → Int32) (nm : Nat → Int64) (x : Int64) : Nat → Int32 → Int32
  | 0, K => K
  | n + 1, K => mfin kt nm x n (if kt n = 0 then K else if lg_cmp (nm n) x = 0 then nI n else K)
def M_leastKey (S : SM) (x : Int64) : Int32 := mfin (m_kt S) (fun j => M_nameOf S (nI j)) x 6 (-1)
def M_unsealK (S : SM) (a : Int32) : Int32 := M_leastKey S (m_bw S (6 * a.toNatClampNeg))
def M_unsealP (S : SM) (q a : Int32) : Int32 × SM := M_proved S q (M_unsealK S a) 2 (m_bw S (6 * a.toNatClampNeg + 5))
def M_unseal (S : SM) (q a : Int32) : Int32 × SM :=
  if M_hasSession S q = 0 then (-1, S) else if M_hasBlob S a = 0 then (-1, S) else if m_fa S < 3 then
    (if lg_cmp (m_bw S (6 * a.toNatClampNeg + 5)) (M_sealOf S a) = 0 then
      (if 0 ≤ M_unsealK S a then
        (if (M_unsealP S q a).1 = 0 then (-6, (M_unsealP S q a).2)
         else if M_isMask (m_bw (M_unsealP S q a).2 (6 * a.toNatClampNeg + 1)) = 0 then (-7, mu_ou (M_unsealP S q a).2 0)
         else if lg_cmp (M_digestOf (M_unsealP S q a).2 (m_bw (M_unsealP S q a).2 (6 * a.toNatClampNeg + 1)).toInt32) (m_bw (M_unsealP S q a).2 (6 * a.toNatClampNeg + 2)) = 0 then
           (0, mu_ou (M_unsealP S q a).2 (m_bw (M_unsealP S q a).2 (6 * a.toNatClampNeg + 4) ^^^ M_veil (M_unsealP S q a).2 (m_bw (M_unsealP S q a).2 (6 * a.toNatClampNeg + 3)) (m_bw (M_unsealP S q a).2 (6 * a.toNatClampNeg + 2))))
         else (-7, mu_ou (M_unsealP S q a).2 0))
       else (-4, S))
     else (-3, S)) else (-2, S)
def M_quoteP (S : SM) (q k mask : Int32) (ch : Int64) : Int32 × SM := M_proved S q k 3 (h2 mask.toInt64 ch)
def M_signature (S : SM) (secret : Int64) (mask : Int32) (ch : Int64) : Int64 := mE secret (fo (fo (fo (mB secret 3) mask.toInt64) (M_digestOf S mask)) ch)
def M_quote (S : SM) (q k mask : Int32) (ch : Int64) : Int32 × SM :=
  if M_hasSession S q = 0 then (-1, S) else if M_hasKey S k = 0 then (-1, S) else if M_isMask mask.toInt64 = 0 then (-1, S) else if m_fa S < 3 then
    (if (M_quoteP S q k mask ch).1 = 0 then (-6, (M_quoteP S q k mask ch).2)
     else (0, mu_ou (M_quoteP S q k mask ch).2 (M_signature (M_quoteP S q k mask ch).2 (m_ks (M_quoteP S q k mask ch).2 k.toNatClampNeg) mask ch))) else (-2, S)
def M_blob (S : SM) (k i : Int32) : Int64 := if M_hasBlob S k = 0 then 0 else if i < 0 then 0 else if 5 < i then 0 else m_bw S (6 * k.toNatClampNeg + i.toNatClampNeg)
def M_change (S : SM) (k i : Int32) (v : Int64) : Int32 × SM := if M_hasBlob S k = 0 then (0, S) else if i < 0 then (0, S) else if i ≤ 5 then (1, M_put S (6 * k.toNatClampNeg + i.toNatClampNeg) v) else (0, S)
def M_reboot0 (S : SM) : SM := mu_ou (mu_fa (mu_lo (mu_dn S 0) 0) 0) 0
def M_reboot (S : SM) : SM := mu_st (M_reboot0 S) (zI (m_st (M_reboot0 S)) 4)
/-! facts -/
theorem M_hasKey_in {S : SM} {k : Int32} (h : ¬ M_hasKey S k = 0) : vp_in k 6 := by
  unfold M_hasKey at h
  by_cases h0 : k < 0
  · exact absurd (if_pos h0) h
  · rw [if_neg h0] at h
    by_cases h1 : 6 ≤ k
    · exact absurd (if_pos h1) h
    · exact xin_of (M := 6) rfl (by decide) h0 h1
theorem M_hasSession_in {S : SM} {k : Int32} (h : ¬ M_hasSession S k = 0) : vp_in k 4 := by
  unfold M_hasSession at h
  by_cases h0 : k < 0
  · exact absurd (if_pos h0) h
  · rw [if_neg h0] at h
    by_cases h1 : 4 ≤ k
    · exact absurd (if_pos h1) h
    · exact xin_of (M := 4) rfl (by decide) h0 h1
theorem M_hasBlob_in {S : SM} {k : Int32} (hB : okB (m_bc S)) (h : ¬ M_hasBlob S k = 0) : vp_in k 10 := by
  obtain ⟨n, hn, e⟩ := hB
  unfold M_hasBlob at h
  rw [e] at h
  by_cases h0 : k < 0
  · exact absurd (if_pos h0) h
  · rw [if_neg h0] at h
    by_cases h1 : nI n ≤ k
    · exact absurd (if_pos h1) h
    · obtain ⟨j, hj, rfl⟩ := nI_of h0
      rw [nI_leI (by omega) hj] at h1
      exact vp_in_nI (by omega) (by decide)
/-- how many things were done: 0 .. 512 -/
def okD (x : Int32) : Prop := ∃ n : Nat, n ≤ 512 ∧ x = nI n
theorem lfK_le (f : Nat → Int32) : ∀ r i : Nat, lfK f i r ≤ i + r
  | 0, i => Nat.le_refl _
  | r + 1, i => by
    unfold lfK
    by_cases h : f i = 0
    · rw [if_pos h]
      omega
    · rw [if_neg h]
      have := lfK_le f r (i + 1)
      omega
theorem lfK_lt {f : Nat → Int32} {n : Nat} (hn : n < 2 ^ 31) (h : ¬ nI (lfK f 0 n) = nI n) : lfK f 0 n < n := by
  have h1 := lfK_le f n 0
  rcases Nat.lt_or_ge (lfK f 0 n) n with q | q
  · exact q
  · exact absurd (congrArg nI (show lfK f 0 n = n by omega)) h
theorem lfK_hit {f : Nat → Int32} {i n : Nat} (h : i < n) (h0 : f i = 0) : lfK f i (n - i) = i := by
  obtain ⟨r, hr⟩ : ∃ r, n - i = r + 1 := ⟨n - i - 1, by omega⟩
  rw [hr]
  exact if_pos h0
theorem lfK_miss {f : Nat → Int32} {i n : Nat} (h : i < n) (h0 : ¬ f i = 0) : lfK f i (n - i) = lfK f (i + 1) (n - (i + 1)) := by
  obtain ⟨r, hr⟩ : ∃ r, n - i = r + 1 := ⟨n - i - 1, by omega⟩
  rw [show n - (i + 1) = r by omega, hr]
  exact if_neg h0
theorem cntN_le (mask : Int32) : ∀ n : Nat, 1 ≤ cntN mask n ∧ cntN mask n ≤ n + 1
  | 0 => ⟨Nat.le_refl _, Nat.le_refl _⟩
  | n + 1 => by
    have h := cntN_le mask n
    unfold cntN
    by_cases c : (mask >>> (nI n &&& 31)) &&& 1 = 1
    · rw [if_pos c]
      omega
    · rw [if_neg c]
      omega
theorem foN_congr {h : Int64} {f g : Nat → Int64} : ∀ n : Nat, (∀ j, j < n → f j = g j) → foN h f n = foN h g n
  | 0, _ => rfl
  | n + 1, e => by
    unfold foN
    rw [foN_congr n (fun j hj => e j (by omega)), e n (by omega)]
theorem rowN_congr {ro ro' hd hd' : Nat → Int64} {mask : Int32} : ∀ n : Nat, ro 0 = ro' 0 → (∀ j, j < n → hd j = hd' j) → ∀ j, j < cntN mask n → rowN ro hd mask n j = rowN ro' hd' mask n j
  | 0, e, _, j, hj => by
    have : j = 0 := by
      have : j < 1 := hj
      omega
    subst this
    exact e
  | n + 1, e, eh, j, hj => by
    have ih := rowN_congr (mask := mask) n e (fun j hj => eh j (by omega))
    unfold rowN
    unfold cntN at hj
    by_cases c : (mask >>> (nI n &&& 31)) &&& 1 = 1
    · rw [if_pos c] at hj ⊢
      rw [if_pos c]
      show (if j = cntN mask n then hd n else rowN ro hd mask n j) = (if j = cntN mask n then hd' n else rowN ro' hd' mask n j)
      by_cases q : j = cntN mask n
      · rw [if_pos q, if_pos q]
        exact eh n (by omega)
      · rw [if_neg q, if_neg q]
        exact ih j (by omega)
    · rw [if_neg c] at hj ⊢
      rw [if_neg c]
      exact ih j hj
theorem M_digest_row {S : SM} {mask : Int32} {ro hd : Nat → Int64} (h : ∀ j, j < 8 → hd j = M_folded S (nI j)) : foN (nI (cntN mask 8)).toInt64 (rowN (vp_updL ro 0 mask.toInt64) hd mask 8) (cntN mask 8) = M_digestOf S mask :=
  foN_congr _ (rowN_congr 8 rfl h)
theorem foN2 (f : Nat → Int64) : foN (nI 2).toInt64 f 2 = h2 (f 0) (f 1) := by
  have e : (nI 2).toInt64 = 2 := by decide
  unfold h2
  rw [e]
  rfl
theorem foN3 (f : Nat → Int64) : foN (nI 3).toInt64 f 3 = fo (fo (fo 3 (f 0)) (f 1)) (f 2) := by
  have e : (nI 3).toInt64 = 3 := by decide
  rw [e]
  rfl
theorem M_seal_row {S : SM} {q : Int32} {ro : Nat → Int64} : mE (m_m S) (foN (nI (5 + 1)).toInt64 (vp_updL (rowS ro (m_bw S) q.toNatClampNeg 5) 0 (m_m S ^^^ 92)) (5 + 1)) = M_sealOf S q := by
  have e : nI (5 + 1) = (5 : Int32) + 1 := by decide
  rw [e]
  rfl
/-- the code of four words that stand in the scratch row -/
theorem foN5 (ro : Nat → Int64) (se : Int64) : foN (nI (4 + 1)).toInt64 (vp_updL ro 0 (se ^^^ 92)) (4 + 1) = fo (fo (fo (fo (mB se 4) (ro 1)) (ro 2)) (ro 3)) (ro 4) := by
  have e : nI (4 + 1) = (4 : Int32) + 1 := by decide
  rw [e]
  rfl
theorem foN4 (ro : Nat → Int64) (se : Int64) : foN (nI (3 + 1)).toInt64 (vp_updL ro 0 (se ^^^ 92)) (3 + 1) = fo (fo (fo (mB se 3) (ro 1)) (ro 2)) (ro 3) := by
  have e : nI (3 + 1) = (3 : Int32) + 1 := by decide
  rw [e]
  rfl
theorem xat6 {a i : Int32} {j : Nat} (ha : vp_in a 10) (hi : xat i j 6) : xat (6 * a + i) (6 * a.toNatClampNeg + j) 60 := by
  obtain ⟨x, hx, rfl⟩ := vp_in_of ha (by decide)
  obtain ⟨hi, rfl⟩ := hi
  obtain ⟨y, hy, rfl⟩ := vp_in_of hi (by decide)
  rw [nI_clamp (by omega), nI_clamp (by omega)]
  rw [show (6 : Int32) * nI x = nI (6 * x) from (Int32.ofNat_mul 6 x).symm, nI_add]
  exact xat_nI (by omega) (by decide)
theorem xat60 {a : Int32} (ha : vp_in a 10) : xat (6 * a) (6 * a.toNatClampNeg) 60 := by
  obtain ⟨x, hx, rfl⟩ := vp_in_of ha (by decide)
  rw [nI_clamp (by omega)]
  rw [show (6 : Int32) * nI x = nI (6 * x) from (Int32.ofNat_mul 6 x).symm]
  exact xat_nI (by omega) (by decide)
theorem xat1 {i : Nat} (h : i < 5) : xat (1 + nI i) (1 + i) 9 := by
  rw [show (1 : Int32) + nI i = nI (1 + i) from nI_add 1 i]
  exact xat_nI (by omega) (by decide)
theorem narB {x : Int32} (h : x = 0 ∨ x = 1) : narrow .boolean (.int x) = .int x := by
  rcases h with rfl | rfl <;> rfl
theorem M_note_01 (S : SM) (q kd : Int32) (v : Int64) : (M_note S q kd v).1 = 0 ∨ (M_note S q kd v).1 = 1 := by
  unfold M_note
  by_cases h0 : q < 0
  · rw [if_pos h0]; exact Or.inl rfl
  · rw [if_neg h0]
    by_cases h1 : 7 < q
    · rw [if_pos h1]; exact Or.inl rfl
    · rw [if_neg h1]
      by_cases h2 : q / 2 ≤ m_lo S
      · rw [if_pos h2]; exact Or.inr rfl
      · rw [if_neg h2]; exact Or.inl rfl
theorem M_pass_eq (S : SM) (q k cm : Int32) (pa : Int64) : m_bc (M_proved S q k cm pa).2 = m_bc S ∧ m_dn (M_proved S q k cm pa).2 = m_dn S := by
  unfold M_proved
  by_cases h : lg_cmp (m_pr S) (M_rightFor S (m_ks S k.toNatClampNeg) q cm pa) = 0
  · rw [if_pos h]; exact ⟨rfl, rfl⟩
  · rw [if_neg h]; exact ⟨rfl, rfl⟩
theorem okD_in {x : Int32} (h : okD x) {i : Nat} (hi : i < x.toNatClampNeg) : i < 512 := by
  obtain ⟨n, hn, rfl⟩ := h
  rw [nI_clamp (by omega)] at hi
  omega
theorem okD_nI {x : Int32} (h : okD x) : x = nI x.toNatClampNeg ∧ x.toNatClampNeg ≤ 512 := by
  obtain ⟨n, hn, rfl⟩ := h
  rw [nI_clamp (by omega)]
  exact ⟨rfl, hn⟩
theorem mfin_in (kt : Nat → Int32) (nm : Nat → Int64) (x : Int64) : ∀ (n : Nat) (K : Int32), n ≤ 6 → (0 ≤ K → vp_in K 6) → 0 ≤ mfin kt nm x n K → vp_in (mfin kt nm x n K) 6
  | 0, _, _, hK, h => hK h
  | n + 1, K, hn, hK, h => by
    unfold mfin at h ⊢
    refine mfin_in kt nm x n _ (by omega) (fun h0 => ?_) h
    by_cases c : kt n = 0
    · rw [if_pos c] at h0 ⊢
      exact hK h0
    · rw [if_neg c] at h0 ⊢
      by_cases c2 : lg_cmp (nm n) x = 0
      · rw [if_pos c2]
        exact vp_in_nI (by omega) (by decide)
      · rw [if_neg c2] at h0 ⊢
        exact hK h0
theorem M_leastKey_in {S : SM} {x : Int64} (h : 0 ≤ M_leastKey S x) : vp_in (M_leastKey S x) 6 := by
  unfold M_leastKey at h ⊢
  exact mfin_in (m_kt S) (fun j => M_nameOf S (nI j)) x 6 (-1) (by decide) (fun h => absurd h (by decide)) h
theorem M_unsealK_in {S : SM} {a : Int32} (h : 0 ≤ M_unsealK S a) : vp_in (M_unsealK S a) 6 := M_leastKey_in h
end
section
set_option maxHeartbeats 4000000 in
set_option maxRecDepth 100000 in
theorem lp_X1_hash_6 {p : Program} {l : Launch} {e : Env} {s : State} {m : MethodId} {args : Array Value} {below : List Frame} {meth : Method} {c : Code} {Q : State → Prop} {dC : Nat → ClassId} {dI : Nat → Nat → Nat} {ad : Nat → Nat} {cL cZ cI : ClassId} {S : SM} {ro hd : Nat → Int64} {H : Heap} {locs : List Loc} (k : Nat) (hk : k ≤ 9) (hx : p.tables.exec = Jvm.exec) (hb : c.code = cX1_hash) (hml : c.maxLocals = 7) (hown : s.vm.findClass RX1 = some m.cls) (hts : ∀ w ∈ wsX1_hash, w.before args s = true) (hK : va_K (dC, dI) vwCl (tyM cL cZ cI) s) (hP : va_P (dC, dI) vwCl (wM ad cL cZ cI S ro hd) H)
    (kk : ∀ (ls : Array Slot), lv_has ls 7 [(4, .int (nI k)), (2, .long (foN (nI k).toInt64 ro k)), (0, .ref (ad 0)), (1, .int (nI k))] → W p l e (headSpec wsX1_hash ({ frames := 0, cells := 0, slots := 0, locals := 0 })).room s m args below meth c H locs 0 0 Q (F0 m 42 ls [])) :
    ∀ (n i : Nat) (ls : Array Slot), i ≤ k → k < i + n → lv_has ls 7 [(4, .int (nI i)), (2, .long (foN (nI k).toInt64 ro i)), (0, .ref (ad 0)), (1, .int (nI k))] → W p l e (headSpec wsX1_hash ({ frames := 0, cells := 0, slots := 0, locals := 0 })).room s m args below meth c H locs 0 0 Q (F0 m 6 ls []) := by
  have hin : ∀ w ∈ wsX10, w ∈ wsX1_hash := fun _ h => List.mem_cons_of_mem _ (List.mem_append_right _ h)
  intro n
  induction n with
  | zero =>
    intro i  ls hi hn9
    omega
  | succ n ih =>
    intro i  ls hi hn9 hl
    refine lv_iload hx hb dX1_hash_6 (lv_at hl 0 rfl) ?_
    refine lv_iload_n hx hb dX1_hash_8 rfl (lv_at hl 3 rfl) ?_
    refine lv_icmp_ge (tgt := 42) hx hb dX1_hash_9 (by decide) (fun c9 => ?_) (fun c9 => ?_)
    · skip
      have hi8 := xge (n := k) (Nat.lt_of_le_of_lt hk (by decide)) hi c9
      subst hi8
      exact kk  ls (lv_sub hl [0, 1, 2, 3] rfl)
    · skip
      have hlt := xlt (n := k) (Nat.lt_of_le_of_lt hk (by decide)) hi c9
      refine lv_lload_n hx hb dX1_hash_12 rfl (lv_at hl 1 rfl) ?_
      refine lv_aload_n hx hb dX1_hash_13 rfl (lv_at hl 2 rfl) ?_
      refine g_m_arw hx hb hts hin hown hK hP (hts (.fieldLink RX1 39 RX1 "row" "[J") (by decide +kernel)) dX1_hash_14 ?_
      refine lv_iload hx hb dX1_hash_17 (lv_at hl 0 rfl) ?_
      refine l_m_rw hx hb hK hP (xat_nI (Nat.lt_of_lt_of_le hlt hk) (by decide)) dX1_hash_19 ?_
      refine lv_lxor hx hb dX1_hash_20 ?_
      refine lv_ldc2 (v := 3141592653589793239) hx hb hown (hts (.constantLong RX1 53 (3141592653589793239)) (by decide +kernel)) dX1_hash_21 ?_
      refine lv_lmul hx hb dX1_hash_24 ?_
      refine lv_lstore (lv' := [(5, .long (((foN (nI k).toInt64 ro i) ^^^ (ro i)) * (3141592653589793239 : Int64))), (4, .int (nI i)), (2, .long (foN (nI k).toInt64 ro i)), (0, .ref (ad 0)), (1, .int (nI k))]) hx hb dX1_hash_25 hl (by decide) rfl (fun ls hl => ?_)
      refine lv_lload hx hb dX1_hash_27 (lv_at hl 0 rfl) ?_
      refine lv_lload hx hb dX1_hash_29 (lv_at hl 0 rfl) ?_
      refine lv_bipush (v := 29) hx hb dX1_hash_31 (by decide) ?_
      refine lv_lushr hx hb dX1_hash_33 rfl ?_
      refine lv_lxor hx hb dX1_hash_34 ?_
      refine lv_lstore_n (lv' := [(2, .long (foN (nI k).toInt64 ro (i + 1))), (5, .long (((foN (nI k).toInt64 ro i) ^^^ (ro i)) * (3141592653589793239 : Int64))), (4, .int (nI i)), (0, .ref (ad 0)), (1, .int (nI k))]) hx hb dX1_hash_35 rfl hl (by decide) rfl (fun ls hl => ?_)
      refine lv_iinc (v := (nI (i + 1))) (lv' := [(4, .int (nI (i + 1))), (2, .long (foN (nI k).toInt64 ro (i + 1))), (5, .long (((foN (nI k).toInt64 ro i) ^^^ (ro i)) * (3141592653589793239 : Int64))), (0, .ref (ad 0)), (1, .int (nI k))]) hx hb dX1_hash_36 hl (k := 2) rfl (nI_1 i) (by decide) rfl (fun ls hl => ?_)
      refine lv_goto (tgt := 6) hx hb dX1_hash_39 (by decide) ?_
      exact ih (i + 1) ls (by omega) (by omega) (lv_sub hl [0, 1, 3, 4] rfl)
set_option maxHeartbeats 4000000 in
set_option maxRecDepth 100000 in
theorem c_X1_hash (l : Launch) (dC : Nat → ClassId) (dI : Nat → Nat → Nat) (ad : Nat → Nat) (cL cZ cI : ClassId) (S : SM) (ro hd : Nat → Int64) (k : Nat) (hk : k ≤ 9) : Met l yX1_hash wsX1_hash ({ frames := 0, cells := 0, slots := 0, locals := 0 }) (va_Pc [.ref (ad 0), .int (nI k)] (fun U => va_P (dC, dI) vwCl (wM ad cL cZ cI S ro hd) U.heap ∧ va_K (dC, dI) vwCl (tyM cL cZ cI) U)) (vp_Sl (fun r => r = foN (nI k).toInt64 ro k)) 0 0 (fun _ => False) := by
  refine Met.ofW (cc := cX1_hash) (maxL := 7) (ret := (some .long)) (by decide) rfl ?_
  intro p e s m args below meth c s₁ B hml hv
  obtain ⟨rfl, hP, hK⟩ := hv
  have hx := B.exec
  have hb := B.bytes
  have hr := B.returns
  have hts := atoms_spec (ws := wsX1_hash) B.pre
  have hown : s.vm.findClass RX1 = some m.cls := findClass_of_methodNamed B.named
  have hlocks := B.notSynchronized
  have hin : ∀ w ∈ wsX10, w ∈ wsX1_hash := fun _ h => List.mem_cons_of_mem _ (List.mem_append_right _ h)
  have hl := lv_entry ([.ref (ad 0), .int (nI k)]) (n := 7) (Nat.le_of_ble_eq_true rfl)
  rw [lg_entry_eq]
  generalize (lg_sl ([.ref (ad 0), .int (nI k)]) ++ List.replicate (7 - (lg_sl ([.ref (ad 0), .int (nI k)])).length) Slot.unset).toArray = ls at hl ⊢
  have hl : lv_has ls 7 [(0, .ref (ad 0)), (1, .int (nI k))] := hl
  refine lv_iload_n hx hb dX1_hash_0 rfl (lv_at hl 1 rfl) ?_
  refine lv_i2l hx hb dX1_hash_1 rfl ?_
  refine lv_lstore_n (lv' := [(2, .long ((nI k).toInt64)), (0, .ref (ad 0)), (1, .int (nI k))]) hx hb dX1_hash_2 rfl hl (by decide) rfl (fun ls hl => ?_)
  refine lv_iconst (v := 0) hx hb dX1_hash_3 (by decide) ?_
  refine lv_istore (lv' := [(4, .int (0 : Int32)), (2, .long ((nI k).toInt64)), (0, .ref (ad 0)), (1, .int (nI k))]) hx hb dX1_hash_4 hl (by decide) rfl (fun ls hl => ?_)
  refine lp_X1_hash_6 (S := S) (ro := ro) (hd := hd) k hk hx hb hml hown hts hK hP (fun  ls hl => ?_) (k + 1) 0 ls (Nat.zero_le _) (by omega) (lv_sub hl [0, 1, 2, 3] rfl)
  refine lv_lload_n hx hb dX1_hash_42 rfl (lv_at hl 1 rfl) ?_
  exact W.lret (v := (foN (nI k).toInt64 ro k)) hx hb hr (fun t ht hW => ⟨_, rfl, rfl, ht⟩) (fun _ h => by cases h) dX1_hash_43
set_option maxHeartbeats 4000000 in
set_option maxRecDepth 100000 in
theorem c_X1_two (l : Launch) (dC : Nat → ClassId) (dI : Nat → Nat → Nat) (ad : Nat → Nat) (cL cZ cI : ClassId) (S : SM) (ro hd : Nat → Int64) (sz : Nat) (a b : Int64) : Met l yX1_two wsX1_two ({ frames := 1, cells := 0, slots := 0, locals := 26 }) (va_Pc [.ref (ad 0), .long a, .long b] (fun U => U.heap.size = sz ∧ va_P (dC, dI) vwCl (wM ad cL cZ cI S ro hd) U.heap ∧ va_K (dC, dI) vwCl (tyM cL cZ cI) U ∧ va_D (fun _ => True) (wM ad cL cZ cI S ro hd))) (va_Ql (fun r (u : SMr) => r = h2 a b ∧ u.1 = S ∧ u.2.2 = hd) (xB (dC, dI) (wMr ad cL cZ cI) (tyM cL cZ cI) (va_A (wM ad cL cZ cI S ro hd) sz)) (va_A (wM ad cL cZ cI S ro hd) sz)) 0 0 (va_A (wM ad cL cZ cI S ro hd) sz) := by
  refine Met.ofW (cc := cX1_two) (maxL := 5) (ret := (some .long)) (by decide) rfl ?_
  intro p e s m args below meth c s₁ B hml hv
  obtain ⟨rfl, hsz, hP, hK, hD0⟩ := hv
  have hx := B.exec
  have hb := B.bytes
  have hr := B.returns
  have hts := atoms_spec (ws := wsX1_two) B.pre
  have hown : s.vm.findClass RX1 = some m.cls := findClass_of_methodNamed B.named
  have hlocks := B.notSynchronized
  have hin : ∀ w ∈ wsX10, w ∈ wsX1_two := fun _ h => List.mem_cons_of_mem _ (List.mem_append_right _ h)
  subst hsz
  have hD := hD0.self (sz := s.heap.size)
  generalize hAe : va_A (wM ad cL cZ cI S ro hd) s.heap.size = A at hD ⊢
  have hA : ∀ q : Nat, s.heap.size ≤ q → A q := fun q h => by rw [← hAe]; exact Or.inr h
  have hS : va_S A s.heap s.heap [] := va_S.rf
  have hl := lv_entry ([.ref (ad 0), .long a, .long b]) (n := 5) (Nat.le_of_ble_eq_true rfl)
  rw [lg_entry_eq]
  generalize (lg_sl ([.ref (ad 0), .long a, .long b]) ++ List.replicate (5 - (lg_sl ([.ref (ad 0), .long a, .long b])).length) Slot.unset).toArray = ls at hl ⊢
  have hl : lv_has ls 5 [(0, .ref (ad 0)), (1, .long a), (3, .long b)] := hl
  refine lv_aload_n hx hb dX1_two_0 rfl (lv_at hl 0 rfl) ?_
  refine g_m_arw hx hb hts hin hown hK hP (hts (.fieldLink RX1 39 RX1 "row" "[J") (by decide +kernel)) dX1_two_1 ?_
  refine lv_iconst (v := 0) hx hb dX1_two_4 (by decide) ?_
  refine lv_lload_n hx hb dX1_two_5 rfl (lv_at hl 1 rfl) ?_
  refine s_m_rw hx hb hK hP hD hS (xat_nI (by decide) (by decide)) dX1_two_6 (fun H locs hP hD hS => ?_)
  refine lv_aload_n hx hb dX1_two_7 rfl (lv_at hl 0 rfl) ?_
  refine g_m_arw hx hb hts hin hown hK hP (hts (.fieldLink RX1 39 RX1 "row" "[J") (by decide +kernel)) dX1_two_8 ?_
  refine lv_iconst (v := 1) hx hb dX1_two_11 (by decide) ?_
  refine lv_lload_n hx hb dX1_two_12 rfl (lv_at hl 2 rfl) ?_
  refine s_m_rw hx hb hK hP hD hS (xat_nI (by decide) (by decide)) dX1_two_13 (fun H locs hP hD hS => ?_)
  refine lv_aload_n hx hb dX1_two_14 rfl (lv_at hl 0 rfl) ?_
  refine lv_iconst (v := 2) hx hb dX1_two_15 (by decide) ?_
  refine vp_callSl (va_Run.run (va_runV (As := [.int (2 : Int32)]) (rest := []) ⟨hx, hb, hml, hown, hts⟩ (c_X1_hash l dC dI ad cL cZ cI S (vp_updL (vp_updL ro 0 a) 1 b) hd 2 (by decide) ) (cwV 1 hts gX1_two_X1_hash rfl rfl rfl (by decide +kernel) ⟨Nat.le_of_ble_eq_true rfl, Nat.le_of_ble_eq_true rfl⟩) (xpV_r [.int (2 : Int32)] hK hP (va_recv hK hP (ci := 1) (q0 := 0) rfl rfl)) rfl rfl hl.1 rfl (lv_room (Nat.le_of_ble_eq_true rfl)) dX1_two_16 ⟨Nat.le_of_ble_eq_true rfl, Nat.le_of_ble_eq_true rfl⟩)) (fun r hr9 => ?_)
  subst hr9
  exact W.lret (v := (foN (nI 2).toInt64 (vp_updL (vp_updL ro 0 a) 1 b) 2)) hx hb hr (fun t ht hW => ⟨⟨_, (S, (vp_updL (vp_updL ro 0 a) 1 b), hd), rfl, ⟨(foN2 _), rfl, rfl⟩, by rw [ht]; exact hP, va_K.moved hW.alike hK, hD⟩, hS.F ht⟩) hS.2.2 dX1_two_19
set_option maxHeartbeats 4000000 in
set_option maxRecDepth 100000 in
theorem c_X1_code (l : Launch) (dC : Nat → ClassId) (dI : Nat → Nat → Nat) (ad : Nat → Nat) (cL cZ cI : ClassId) (S : SM) (ro hd : Nat → Int64) (sz : Nat) (se : Int64) (k : Nat) (hk : k ≤ 5) : Met l yX1_code wsX1_code ({ frames := 1, cells := 0, slots := 0, locals := 26 }) (va_Pc [.ref (ad 0), .long se, .int (nI k)] (fun U => U.heap.size = sz ∧ va_P (dC, dI) vwCl (wM ad cL cZ cI S ro hd) U.heap ∧ va_K (dC, dI) vwCl (tyM cL cZ cI) U ∧ va_D (fun _ => True) (wM ad cL cZ cI S ro hd))) (va_Ql (fun r (u : SMr) => r = mE se (foN (nI (k + 1)).toInt64 (vp_updL ro 0 (se ^^^ 92)) (k + 1)) ∧ u.1 = S) (xB (dC, dI) (wMr ad cL cZ cI) (tyM cL cZ cI) (va_A (wM ad cL cZ cI S ro hd) sz)) (va_A (wM ad cL cZ cI S ro hd) sz)) 0 0 (va_A (wM ad cL cZ cI S ro hd) sz) := by
  refine Met.ofW (cc := cX1_code) (maxL := 6) (ret := (some .long)) (by decide) rfl ?_
  intro p e s m args below meth c s₁ B hml hv
  obtain ⟨rfl, hsz, hP, hK, hD0⟩ := hv
  have hx := B.exec
  have hb := B.bytes
  have hr := B.returns
  have hts := atoms_spec (ws := wsX1_code) B.pre
  have hown : s.vm.findClass RX1 = some m.cls := findClass_of_methodNamed B.named
  have hlocks := B.notSynchronized
  have hin : ∀ w ∈ wsX10, w ∈ wsX1_code := fun _ h => List.mem_cons_of_mem _ (List.mem_append_right _ h)
  subst hsz
  have hD := hD0.self (sz := s.heap.size)
  generalize hAe : va_A (wM ad cL cZ cI S ro hd) s.heap.size = A at hD ⊢
  have hA : ∀ q : Nat, s.heap.size ≤ q → A q := fun q h => by rw [← hAe]; exact Or.inr h
  have hS : va_S A s.heap s.heap [] := va_S.rf
  have hl := lv_entry ([.ref (ad 0), .long se, .int (nI k)]) (n := 6) (Nat.le_of_ble_eq_true rfl)
  rw [lg_entry_eq]
  generalize (lg_sl ([.ref (ad 0), .long se, .int (nI k)]) ++ List.replicate (6 - (lg_sl ([.ref (ad 0), .long se, .int (nI k)])).length) Slot.unset).toArray = ls at hl ⊢
  have hl : lv_has ls 6 [(0, .ref (ad 0)), (1, .long se), (3, .int (nI k))] := hl
  refine lv_aload_n hx hb dX1_code_0 rfl (lv_at hl 0 rfl) ?_
  refine g_m_arw hx hb hts hin hown hK hP (hts (.fieldLink RX1 39 RX1 "row" "[J") (by decide +kernel)) dX1_code_1 ?_
  refine lv_iconst (v := 0) hx hb dX1_code_4 (by decide) ?_
  refine lv_lload_n hx hb dX1_code_5 rfl (lv_at hl 1 rfl) ?_
  refine lv_ldc2 (v := 92) hx hb hown (hts (.constantLong RX1 55 (92)) (by decide +kernel)) dX1_code_6 ?_
  refine lv_lxor hx hb dX1_code_9 ?_
  refine s_m_rw hx hb hK hP hD hS (xat_nI (by decide) (by decide)) dX1_code_10 (fun H locs hP hD hS => ?_)
  refine lv_aload_n hx hb dX1_code_11 rfl (lv_at hl 0 rfl) ?_
  refine lv_iload_n hx hb dX1_code_12 rfl (lv_at hl 2 rfl) ?_
  refine lv_iconst (v := 1) hx hb dX1_code_13 (by decide) ?_
  refine lv_iadd hx hb dX1_code_14 ?_
  rw [show nI k + (1 : Int32) = nI (k + 1) from nI_1 k]
  refine vp_callSl (va_Run.run (va_runV (As := [.int (nI (k + 1))]) (rest := []) ⟨hx, hb, hml, hown, hts⟩ (c_X1_hash l dC dI ad cL cZ cI S (vp_updL ro 0 (se ^^^ (92 : Int64))) hd (k + 1) (by omega) ) (cwV 1 hts gX1_code_X1_hash rfl rfl rfl (by decide +kernel) ⟨Nat.le_of_ble_eq_true rfl, Nat.le_of_ble_eq_true rfl⟩) (xpV_r [.int (nI (k + 1))] hK hP (va_recv hK hP (ci := 1) (q0 := 0) rfl rfl)) rfl rfl hl.1 rfl (lv_room (Nat.le_of_ble_eq_true rfl)) dX1_code_15 ⟨Nat.le_of_ble_eq_true rfl, Nat.le_of_ble_eq_true rfl⟩)) (fun r hr9 => ?_)
  subst hr9
  refine lv_lstore (lv' := [(4, .long (foN (nI (k + 1)).toInt64 (vp_updL ro 0 (se ^^^ (92 : Int64))) (k + 1))), (0, .ref (ad 0)), (1, .long se), (3, .int (nI k))]) hx hb dX1_code_18 hl (by decide) rfl (fun ls hl => ?_)
  refine lv_aload_n hx hb dX1_code_20 rfl (lv_at hl 1 rfl) ?_
  refine g_m_arw hx hb hts hin hown hK hP (hts (.fieldLink RX1 39 RX1 "row" "[J") (by decide +kernel)) dX1_code_21 ?_
  refine lv_iconst (v := 0) hx hb dX1_code_24 (by decide) ?_
  refine lv_lload_n hx hb dX1_code_25 rfl (lv_at hl 2 rfl) ?_
  refine lv_ldc2 (v := 54) hx hb hown (hts (.constantLong RX1 57 (54)) (by decide +kernel)) dX1_code_26 ?_
  refine lv_lxor hx hb dX1_code_29 ?_
  refine s_m_rw hx hb hK hP hD hS (xat_nI (by decide) (by decide)) dX1_code_30 (fun H locs hP hD hS => ?_)
  refine lv_aload_n hx hb dX1_code_31 rfl (lv_at hl 1 rfl) ?_
  refine g_m_arw hx hb hts hin hown hK hP (hts (.fieldLink RX1 39 RX1 "row" "[J") (by decide +kernel)) dX1_code_32 ?_
  refine lv_iconst (v := 1) hx hb dX1_code_35 (by decide) ?_
  refine lv_lload hx hb dX1_code_36 (lv_at hl 0 rfl) ?_
  refine s_m_rw hx hb hK hP hD hS (xat_nI (by decide) (by decide)) dX1_code_38 (fun H locs hP hD hS => ?_)
  refine lv_aload_n hx hb dX1_code_39 rfl (lv_at hl 1 rfl) ?_
  refine lv_iconst (v := 2) hx hb dX1_code_40 (by decide) ?_
  refine vp_callSl (va_Run.run (va_runV (As := [.int (2 : Int32)]) (rest := []) ⟨hx, hb, hml, hown, hts⟩ (c_X1_hash l dC dI ad cL cZ cI S (vp_updL (vp_updL (vp_updL ro 0 (se ^^^ (92 : Int64))) 0 (se ^^^ (54 : Int64))) 1 (foN (nI (k + 1)).toInt64 (vp_updL ro 0 (se ^^^ (92 : Int64))) (k + 1))) hd 2 (by decide) ) (cwV 1 hts gX1_code_X1_hash rfl rfl rfl (by decide +kernel) ⟨Nat.le_of_ble_eq_true rfl, Nat.le_of_ble_eq_true rfl⟩) (xpV_r [.int (2 : Int32)] hK hP (va_recv hK hP (ci := 1) (q0 := 0) rfl rfl)) rfl rfl hl.1 rfl (lv_room (Nat.le_of_ble_eq_true rfl)) dX1_code_41 ⟨Nat.le_of_ble_eq_true rfl, Nat.le_of_ble_eq_true rfl⟩)) (fun r hr9 => ?_)
  subst hr9
  exact W.lret (v := (foN (nI 2).toInt64 (vp_updL (vp_updL (vp_updL ro 0 (se ^^^ (92 : Int64))) 0 (se ^^^ (54 : Int64))) 1 (foN (nI (k + 1)).toInt64 (vp_updL ro 0 (se ^^^ (92 : Int64))) (k + 1))) 2)) hx hb hr (fun t ht hW => ⟨⟨_, (S, (vp_updL (vp_updL (vp_updL ro 0 (se ^^^ (92 : Int64))) 0 (se ^^^ (54 : Int64))) 1 (foN (nI (k + 1)).toInt64 (vp_updL ro 0 (se ^^^ (92 : Int64))) (k + 1))), hd), rfl, ⟨(foN2 _), rfl⟩, by rw [ht]; exact hP, va_K.moved hW.alike hK, hD⟩, hS.F ht⟩) hS.2.2 dX1_code_44
set_option maxHeartbeats 4000000 in
set_option maxRecDepth 100000 in
theorem c_X1_word (l : Launch) (dC : Nat → ClassId) (dI : Nat → Nat → Nat) (ad : Nat → Nat) (cL cZ cI : ClassId) (S : SM) (ro hd : Nat → Int64) (sz : Nat) (d : Int64)  : Met l yX1_word wsX1_word ({ frames := 2, cells := 0, slots := 0, locals := 50 }) (va_Pc [.ref (ad 0), .long d] (fun U => U.heap.size = sz ∧ va_P (dC, dI) vwCl (wM ad cL cZ cI S ro hd) U.heap ∧ va_K (dC, dI) vwCl (tyM cL cZ cI) U ∧ va_D (fun _ => True) (wM ad cL cZ cI S ro hd))) (va_Ql (fun r (u : SMr) => r = M_word S d ∧ u.1 = S) (xB (dC, dI) (wMr ad cL cZ cI) (tyM cL cZ cI) (va_A (wM ad cL cZ cI S ro hd) sz)) (va_A (wM ad cL cZ cI S ro hd) sz)) 0 0 (va_A (wM ad cL cZ cI S ro hd) sz) := by
  refine Met.ofW (cc := cX1_word) (maxL := 3) (ret := (some .long)) (by decide) rfl ?_
  intro p e s m args below meth c s₁ B hml hv
  obtain ⟨rfl, hsz, hP, hK, hD0⟩ := hv
  have hx := B.exec
  have hb := B.bytes
  have hr := B.returns
  have hts := atoms_spec (ws := wsX1_word) B.pre
  have hown : s.vm.findClass RX1 = some m.cls := findClass_of_methodNamed B.named
  have hlocks := B.notSynchronized
  have hin : ∀ w ∈ wsX10, w ∈ wsX1_word := fun _ h => List.mem_cons_of_mem _ (List.mem_append_right _ h)
  subst hsz
  have hD := hD0.self (sz := s.heap.size)
  generalize hAe : va_A (wM ad cL cZ cI S ro hd) s.heap.size = A at hD ⊢
  have hA : ∀ q : Nat, s.heap.size ≤ q → A q := fun q h => by rw [← hAe]; exact Or.inr h
  have hS : va_S A s.heap s.heap [] := va_S.rf
  have hl := lv_entry ([.ref (ad 0), .long d]) (n := 3) (Nat.le_of_ble_eq_true rfl)
  rw [lg_entry_eq]
  generalize (lg_sl ([.ref (ad 0), .long d]) ++ List.replicate (3 - (lg_sl ([.ref (ad 0), .long d])).length) Slot.unset).toArray = ls at hl ⊢
  have hl : lv_has ls 3 [(0, .ref (ad 0)), (1, .long d)] := hl
  refine lv_aload_n hx hb dX1_word_0 rfl (lv_at hl 0 rfl) ?_
  refine lv_aload_n hx hb dX1_word_1 rfl (lv_at hl 0 rfl) ?_
  refine g_m_m hx hb hts hin hown hK hP (hts (.fieldLink RX1 49 RX1 "machine" "J") (by decide +kernel)) dX1_word_2 ?_
  refine lv_lload_n hx hb dX1_word_5 rfl (lv_at hl 1 rfl) ?_
  refine xcall_l (va_runV (As := [.long (m_m S), .long d]) (rest := []) ⟨hx, hb, hml, hown, hts⟩ (c_X1_two l dC dI ad cL cZ cI S ro hd s.heap.size (m_m S) d ) (cwV 2 hts gX1_word_X1_two rfl rfl rfl (by decide +kernel) ⟨Nat.le_of_ble_eq_true rfl, Nat.le_of_ble_eq_true rfl⟩) (xpV_w [.long (m_m S), .long d] hK hP hD (va_recv hK hP (ci := 1) (q0 := 0) rfl rfl)) rfl rfl hl.1 rfl (lv_room (Nat.le_of_ble_eq_true rfl)) dX1_word_6 ⟨Nat.le_of_ble_eq_true rfl, Nat.le_of_ble_eq_true rfl⟩) hD hS hA (fun r u H locs hw hP hD hS => ?_)
  obtain ⟨u1, rw1, hd1⟩ := u
  obtain ⟨rfl, hu1, hh1⟩ := hw
  change hd1 = hd at hh1
  change u1 = S at hu1
  change va_P _ vwCl (wM ad cL cZ cI u1 rw1 hd1) _ at hP
  change va_D _ (wM ad cL cZ cI u1 rw1 hd1) at hD
  rw [hu1, hh1] at hP hD
  exact W.lret (v := (h2 (m_m S) d)) hx hb hr (fun t ht hW => ⟨⟨_, (S, rw1, hd), rfl, ⟨rfl, rfl⟩, by rw [ht]; exact hP, va_K.moved hW.alike hK, hD⟩, hS.F ht⟩) hS.2.2 dX1_word_9
set_option maxHeartbeats 4000000 in
set_option maxRecDepth 100000 in
theorem lp_X1_folded_5 {p : Program} {l : Launch} {e : Env} {s : State} {m : MethodId} {args : Array Value} {below : List Frame} {meth : Method} {c : Code} {Q : State → Prop} {dC : Nat → ClassId} {dI : Nat → Nat → Nat} {ad : Nat → Nat} {cL cZ cI : ClassId} {S : SM} {ro hd : Nat → Int64} {A : Nat → Prop} {H0 : Heap} (q : Int32) (hd9 : okD (m_dn S)) (hx : p.tables.exec = Jvm.exec) (hb : c.code = cX1_folded) (hml : c.maxLocals = 5) (hown : s.vm.findClass RX1 = some m.cls) (hts : ∀ w ∈ wsX1_folded, w.before args s = true) (hK : va_K (dC, dI) vwCl (tyM cL cZ cI) s) (hA : ∀ q, H0.size ≤ q → A q)
    (kk : ∀ (H : Heap) (locs : List Loc) (ro : Nat → Int64) (ls : Array Slot), va_P (dC, dI) vwCl (wM ad cL cZ cI S ro hd) H → va_D A (wM ad cL cZ cI S ro hd) → va_S A H0 H locs → lv_has ls 5 [(4, .int (nI (m_dn S).toNatClampNeg)), (2, .long (fld (m_wh S) (m_wi S) q ((m_dn S).toNatClampNeg))), (0, .ref (ad 0)), (1, .int q)] → W p l e (headSpec wsX1_folded ({ frames := 2, cells := 0, slots := 0, locals := 50 })).room s m args below meth c H locs 0 0 Q (F0 m 60 ls [])) :
    ∀ (n i : Nat) (H : Heap) (locs : List Loc) (ro : Nat → Int64) (ls : Array Slot), i ≤ (m_dn S).toNatClampNeg → (m_dn S).toNatClampNeg < i + n → va_P (dC, dI) vwCl (wM ad cL cZ cI S ro hd) H → va_D A (wM ad cL cZ cI S ro hd) → va_S A H0 H locs → lv_has ls 5 [(4, .int (nI i)), (2, .long (fld (m_wh S) (m_wi S) q i)), (0, .ref (ad 0)), (1, .int q)] → W p l e (headSpec wsX1_folded ({ frames := 2, cells := 0, slots := 0, locals := 50 })).room s m args below meth c H locs 0 0 Q (F0 m 5 ls []) := by
  have hin : ∀ w ∈ wsX10, w ∈ wsX1_folded := fun _ h => List.mem_cons_of_mem _ (List.mem_append_right _ h)
  intro n
  induction n with
  | zero =>
    intro i H locs ro ls hi hn9
    omega
  | succ n ih =>
    intro i H locs ro ls hi hn9 hP hD hS hl
    refine lv_iload hx hb dX1_folded_5 (lv_at hl 0 rfl) ?_
    refine lv_aload_n hx hb dX1_folded_7 rfl (lv_at hl 2 rfl) ?_
    refine g_m_dn hx hb hts hin hown hK hP (hts (.fieldLink RX1 63 RX1 "done" "I") (by decide +kernel)) dX1_folded_8 ?_
    rw [show m_dn S = nI (m_dn S).toNatClampNeg from (okD_nI hd9).1]
    refine lv_icmp_ge (tgt := 60) hx hb dX1_folded_11 (by decide) (fun c11 => ?_) (fun c11 => ?_)
    · skip
      have hi8 := xge (n := (m_dn S).toNatClampNeg) (Nat.lt_of_le_of_lt (okD_nI hd9).2 (by decide)) hi c11
      subst hi8
      exact kk H locs ro ls hP hD hS (lv_sub hl [0, 1, 2, 3] rfl)
    · skip
      have hlt := xlt (n := (m_dn S).toNatClampNeg) (Nat.lt_of_le_of_lt (okD_nI hd9).2 (by decide)) hi c11
      refine lv_aload_n hx hb dX1_folded_14 rfl (lv_at hl 2 rfl) ?_
      refine g_m_awh hx hb hts hin hown hK hP (hts (.fieldLink RX1 7 RX1 "what" "[I") (by decide +kernel)) dX1_folded_15 ?_
      refine lv_iload hx hb dX1_folded_18 (lv_at hl 0 rfl) ?_
      refine l_m_wh hx hb hK hP (xat_nI (okD_in hd9 hlt) (by decide)) dX1_folded_20 ?_
      refine lv_iload_n hx hb dX1_folded_21 rfl (lv_at hl 3 rfl) ?_
      refine lv_icmp_ne (tgt := 38) hx hb dX1_folded_22 (by decide) (fun c22 => ?_) (fun c22 => ?_)
      · skip
        refine lv_aload_n hx hb dX1_folded_38 rfl (lv_at hl 2 rfl) ?_
        refine g_m_awh hx hb hts hin hown hK hP (hts (.fieldLink RX1 7 RX1 "what" "[I") (by decide +kernel)) dX1_folded_39 ?_
        refine lv_iload hx hb dX1_folded_42 (lv_at hl 0 rfl) ?_
        refine l_m_wh hx hb hK hP (xat_nI (okD_in hd9 hlt) (by decide)) dX1_folded_44 ?_
        refine lv_iload_n hx hb dX1_folded_45 rfl (lv_at hl 3 rfl) ?_
        refine lv_bipush (v := 8) hx hb dX1_folded_46 (by decide) ?_
        refine lv_iadd hx hb dX1_folded_48 ?_
        refine lv_icmp_ne (tgt := 54) hx hb dX1_folded_49 (by decide) (fun c49 => ?_) (fun c49 => ?_)
        · skip
          refine lv_iinc (v := (nI (i + 1))) (lv' := [(4, .int (nI (i + 1))), (2, .long (fld (m_wh S) (m_wi S) q i)), (0, .ref (ad 0)), (1, .int q)]) hx hb dX1_folded_54 hl (k := 0) rfl (nI_1 i) (by decide) rfl (fun ls hl => ?_)
          refine lv_goto (tgt := 5) hx hb dX1_folded_57 (by decide) ?_
          exact ih (i + 1) _ _ ro ls (by omega) (by omega) hP hD hS (by rw [show fld (m_wh S) (m_wi S) q (i + 1) = (fld (m_wh S) (m_wi S) q i) from (if_neg c49).trans (if_neg c22)]; exact lv_sub hl [0, 1, 2, 3] rfl)
        · skip
          refine lv_lconst (v := 0) hx hb dX1_folded_52 (by decide) ?_
          refine lv_lstore_n (lv' := [(2, .long (0 : Int64)), (4, .int (nI i)), (0, .ref (ad 0)), (1, .int q)]) hx hb dX1_folded_53 rfl hl (by decide) rfl (fun ls hl => ?_)
          refine lv_iinc (v := (nI (i + 1))) (lv' := [(4, .int (nI (i + 1))), (2, .long (0 : Int64)), (0, .ref (ad 0)), (1, .int q)]) hx hb dX1_folded_54 hl (k := 1) rfl (nI_1 i) (by decide) rfl (fun ls hl => ?_)
          refine lv_goto (tgt := 5) hx hb dX1_folded_57 (by decide) ?_
          exact ih (i + 1) _ _ ro ls (by omega) (by omega) hP hD hS (by rw [show fld (m_wh S) (m_wi S) q (i + 1) = 0 from if_pos c49]; exact lv_sub hl [0, 1, 2, 3] rfl)
      · skip
        refine lv_aload_n hx hb dX1_folded_25 rfl (lv_at hl 2 rfl) ?_
        refine lv_lload_n hx hb dX1_folded_26 rfl (lv_at hl 1 rfl) ?_
        refine lv_aload_n hx hb dX1_folded_27 rfl (lv_at hl 2 rfl) ?_
        refine g_m_awi hx hb hts hin hown hK hP (hts (.fieldLink RX1 13 RX1 "with" "[J") (by decide +kernel)) dX1_folded_28 ?_
        refine lv_iload hx hb dX1_folded_31 (lv_at hl 0 rfl) ?_
        refine l_m_wi hx hb hK hP (xat_nI (okD_in hd9 hlt) (by decide)) dX1_folded_33 ?_
        refine xcall_l (va_runV (As := [.long (fld (m_wh S) (m_wi S) q i), .long (m_wi S i)]) (rest := []) ⟨hx, hb, hml, hown, hts⟩ (c_X1_two l dC dI ad cL cZ cI S ro hd H.size (fld (m_wh S) (m_wi S) q i) (m_wi S i) ) (cwV 2 hts gX1_folded_X1_two rfl rfl rfl (by decide +kernel) ⟨Nat.le_of_ble_eq_true rfl, Nat.le_of_ble_eq_true rfl⟩) (xpV_w [.long (fld (m_wh S) (m_wi S) q i), .long (m_wi S i)] hK hP hD (va_recv hK hP (ci := 1) (q0 := 0) rfl rfl)) rfl rfl hl.1 rfl (lv_room (Nat.le_of_ble_eq_true rfl)) dX1_folded_34 ⟨Nat.le_of_ble_eq_true rfl, Nat.le_of_ble_eq_true rfl⟩) hD hS hA (fun r u H locs hw hP hD hS => ?_)
        obtain ⟨u1, rw1, hd1⟩ := u
        obtain ⟨rfl, hu1, hh1⟩ := hw
        change hd1 = hd at hh1
        change u1 = S at hu1
        change va_P _ vwCl (wM ad cL cZ cI u1 rw1 hd1) _ at hP
        change va_D _ (wM ad cL cZ cI u1 rw1 hd1) at hD
        rw [hu1, hh1] at hP hD
        refine lv_lstore_n (lv' := [(2, .long (h2 (fld (m_wh S) (m_wi S) q i) (m_wi S i))), (4, .int (nI i)), (0, .ref (ad 0)), (1, .int q)]) hx hb dX1_folded_37 rfl hl (by decide) rfl (fun ls hl => ?_)
        refine lv_aload_n hx hb dX1_folded_38 rfl (lv_at hl 2 rfl) ?_
        refine g_m_awh hx hb hts hin hown hK hP (hts (.fieldLink RX1 7 RX1 "what" "[I") (by decide +kernel)) dX1_folded_39 ?_
        refine lv_iload hx hb dX1_folded_42 (lv_at hl 1 rfl) ?_
        refine l_m_wh hx hb hK hP (xat_nI (okD_in hd9 hlt) (by decide)) dX1_folded_44 ?_
        refine lv_iload_n hx hb dX1_folded_45 rfl (lv_at hl 3 rfl) ?_
        refine lv_bipush (v := 8) hx hb dX1_folded_46 (by decide) ?_
        refine lv_iadd hx hb dX1_folded_48 ?_
        refine lv_icmp_ne (tgt := 54) hx hb dX1_folded_49 (by decide) (fun c49 => ?_) (fun c49 => ?_)
        · skip
          refine lv_iinc (v := (nI (i + 1))) (lv' := [(4, .int (nI (i + 1))), (2, .long (h2 (fld (m_wh S) (m_wi S) q i) (m_wi S i))), (0, .ref (ad 0)), (1, .int q)]) hx hb dX1_folded_54 hl (k := 1) rfl (nI_1 i) (by decide) rfl (fun ls hl => ?_)
          refine lv_goto (tgt := 5) hx hb dX1_folded_57 (by decide) ?_
          exact ih (i + 1) _ _ rw1 ls (by omega) (by omega) hP hD hS (by rw [show fld (m_wh S) (m_wi S) q (i + 1) = h2 (fld (m_wh S) (m_wi S) q i) (m_wi S i) from (if_neg c49).trans (if_pos c22)]; exact lv_sub hl [0, 1, 2, 3] rfl)
        · skip
          refine lv_lconst (v := 0) hx hb dX1_folded_52 (by decide) ?_
          refine lv_lstore_n (lv' := [(2, .long (0 : Int64)), (4, .int (nI i)), (0, .ref (ad 0)), (1, .int q)]) hx hb dX1_folded_53 rfl hl (by decide) rfl (fun ls hl => ?_)
          refine lv_iinc (v := (nI (i + 1))) (lv' := [(4, .int (nI (i + 1))), (2, .long (0 : Int64)), (0, .ref (ad 0)), (1, .int q)]) hx hb dX1_folded_54 hl (k := 1) rfl (nI_1 i) (by decide) rfl (fun ls hl => ?_)
          refine lv_goto (tgt := 5) hx hb dX1_folded_57 (by decide) ?_
          exact ih (i + 1) _ _ rw1 ls (by omega) (by omega) hP hD hS (by rw [show fld (m_wh S) (m_wi S) q (i + 1) = 0 from if_pos c49]; exact lv_sub hl [0, 1, 2, 3] rfl)
set_option maxHeartbeats 4000000 in
set_option maxRecDepth 100000 in
theorem c_X1_folded (l : Launch) (dC : Nat → ClassId) (dI : Nat → Nat → Nat) (ad : Nat → Nat) (cL cZ cI : ClassId) (S : SM) (ro hd : Nat → Int64) (sz : Nat) (q : Int32) (hd9 : okD (m_dn S)) : Met l yX1_folded wsX1_folded ({ frames := 2, cells := 0, slots := 0, locals := 50 }) (va_Pc [.ref (ad 0), .int q] (fun U => U.heap.size = sz ∧ va_P (dC, dI) vwCl (wM ad cL cZ cI S ro hd) U.heap ∧ va_K (dC, dI) vwCl (tyM cL cZ cI) U ∧ va_D (fun _ => True) (wM ad cL cZ cI S ro hd))) (va_Ql (fun r (u : SMr) => r = M_folded S q ∧ u.1 = S ∧ u.2.2 = hd) (xB (dC, dI) (wMr ad cL cZ cI) (tyM cL cZ cI) (va_A (wM ad cL cZ cI S ro hd) sz)) (va_A (wM ad cL cZ cI S ro hd) sz)) 0 0 (va_A (wM ad cL cZ cI S ro hd) sz) := by
  refine Met.ofW (cc := cX1_folded) (maxL := 5) (ret := (some .long)) (by decide) rfl ?_
  intro p e s m args below meth c s₁ B hml hv
  obtain ⟨rfl, hsz, hP, hK, hD0⟩ := hv
  have hx := B.exec
  have hb := B.bytes
  have hr := B.returns
  have hts := atoms_spec (ws := wsX1_folded) B.pre
  have hown : s.vm.findClass RX1 = some m.cls := findClass_of_methodNamed B.named
  have hlocks := B.notSynchronized
  have hin : ∀ w ∈ wsX10, w ∈ wsX1_folded := fun _ h => List.mem_cons_of_mem _ (List.mem_append_right _ h)
  subst hsz
  have hD := hD0.self (sz := s.heap.size)
  generalize hAe : va_A (wM ad cL cZ cI S ro hd) s.heap.size = A at hD ⊢
  have hA : ∀ q : Nat, s.heap.size ≤ q → A q := fun q h => by rw [← hAe]; exact Or.inr h
  have hS : va_S A s.heap s.heap [] := va_S.rf
  have hl := lv_entry ([.ref (ad 0), .int q]) (n := 5) (Nat.le_of_ble_eq_true rfl)
  rw [lg_entry_eq]
  generalize (lg_sl ([.ref (ad 0), .int q]) ++ List.replicate (5 - (lg_sl ([.ref (ad 0), .int q])).length) Slot.unset).toArray = ls at hl ⊢
  have hl : lv_has ls 5 [(0, .ref (ad 0)), (1, .int q)] := hl
  refine lv_lconst (v := 0) hx hb dX1_folded_0 (by decide) ?_
  refine lv_lstore_n (lv' := [(2, .long (0 : Int64)), (0, .ref (ad 0)), (1, .int q)]) hx hb dX1_folded_1 rfl hl (by decide) rfl (fun ls hl => ?_)
  refine lv_iconst (v := 0) hx hb dX1_folded_2 (by decide) ?_
  refine lv_istore (lv' := [(4, .int (0 : Int32)), (2, .long (0 : Int64)), (0, .ref (ad 0)), (1, .int q)]) hx hb dX1_folded_3 hl (by decide) rfl (fun ls hl => ?_)
  refine lp_X1_folded_5 (S := S) (ro := ro) (hd := hd) q hd9 hx hb hml hown hts hK hA (fun H locs ro ls hP hD hS hl => ?_) ((m_dn S).toNatClampNeg + 1) 0 _ _ ro ls (Nat.zero_le _) (by omega) hP hD hS (lv_sub hl [0, 1, 2, 3] rfl)
  refine lv_lload_n hx hb dX1_folded_60 rfl (lv_at hl 1 rfl) ?_
  exact W.lret (v := (fld (m_wh S) (m_wi S) q ((m_dn S).toNatClampNeg))) hx hb hr (fun t ht hW => ⟨⟨_, (S, ro, hd), rfl, ⟨rfl, rfl, rfl⟩, by rw [ht]; exact hP, va_K.moved hW.alike hK, hD⟩, hS.F ht⟩) hS.2.2 dX1_folded_61
set_option maxHeartbeats 4000000 in
set_option maxRecDepth 100000 in
theorem lp_X1_digestOf_2 {p : Program} {l : Launch} {e : Env} {s : State} {m : MethodId} {args : Array Value} {below : List Frame} {meth : Method} {c : Code} {Q : State → Prop} {dC : Nat → ClassId} {dI : Nat → Nat → Nat} {ad : Nat → Nat} {cL cZ cI : ClassId} {S : SM} {ro hd : Nat → Int64} {A : Nat → Prop} {H0 : Heap} (mask : Int32) (hd9 : okD (m_dn S)) (hx : p.tables.exec = Jvm.exec) (hb : c.code = cX1_digestOf) (hml : c.maxLocals = 4) (hown : s.vm.findClass RX1 = some m.cls) (hts : ∀ w ∈ wsX1_digestOf, w.before args s = true) (hK : va_K (dC, dI) vwCl (tyM cL cZ cI) s) (hA : ∀ q, H0.size ≤ q → A q)
    (kk : ∀ (H : Heap) (locs : List Loc) (ro hd : Nat → Int64) (ls : Array Slot), (∀ j, j < 8 → hd j = M_folded S (nI j)) → va_P (dC, dI) vwCl (wM ad cL cZ cI S ro hd) H → va_D A (wM ad cL cZ cI S ro hd) → va_S A H0 H locs → lv_has ls 4 [(2, .int (nI 8)), (0, .ref (ad 0)), (1, .int mask)] → W p l e (headSpec wsX1_digestOf ({ frames := 3, cells := 0, slots := 0, locals := 74 })).room s m args below meth c H locs 0 0 Q (F0 m 25 ls [])) :
    ∀ (n i : Nat) (H : Heap) (locs : List Loc) (ro hd : Nat → Int64) (ls : Array Slot), i ≤ 8 → 8 < i + n → (∀ j, j < i → hd j = M_folded S (nI j)) → va_P (dC, dI) vwCl (wM ad cL cZ cI S ro hd) H → va_D A (wM ad cL cZ cI S ro hd) → va_S A H0 H locs → lv_has ls 4 [(2, .int (nI i)), (0, .ref (ad 0)), (1, .int mask)] → W p l e (headSpec wsX1_digestOf ({ frames := 3, cells := 0, slots := 0, locals := 74 })).room s m args below meth c H locs 0 0 Q (F0 m 2 ls []) := by
  have hin : ∀ w ∈ wsX10, w ∈ wsX1_digestOf := fun _ h => List.mem_cons_of_mem _ (List.mem_append_right _ h)
  intro n
  induction n with
  | zero =>
    intro i H locs ro hd ls hi hn9
    omega
  | succ n ih =>
    intro i H locs ro hd ls hi hn9 hf hP hD hS hl
    refine lv_iload_n hx hb dX1_digestOf_2 rfl (lv_at hl 0 rfl) ?_
    refine lv_bipush (v := 8) hx hb dX1_digestOf_3 (by decide) ?_
    refine lv_icmp_ge (tgt := 25) hx hb dX1_digestOf_5 (by decide) (fun c5 => ?_) (fun c5 => ?_)
    · skip
      have hi8 := xge (n := 8) (by decide) hi c5
      subst hi8
      exact kk H locs ro hd ls hf hP hD hS (lv_sub hl [0, 1, 2] rfl)
    · skip
      have hlt := xlt (n := 8) (by decide) hi c5
      refine lv_aload_n hx hb dX1_digestOf_8 rfl (lv_at hl 1 rfl) ?_
      refine g_m_ahd hx hb hts hin hown hK hP (hts (.fieldLink RX1 42 RX1 "held" "[J") (by decide +kernel)) dX1_digestOf_9 ?_
      refine lv_iload_n hx hb dX1_digestOf_12 rfl (lv_at hl 0 rfl) ?_
      refine lv_aload_n hx hb dX1_digestOf_13 rfl (lv_at hl 1 rfl) ?_
      refine lv_iload_n hx hb dX1_digestOf_14 rfl (lv_at hl 0 rfl) ?_
      refine xcall_l (va_runV (As := [.int (nI i)]) (rest := [.int (nI i), .ref (ad 11)]) ⟨hx, hb, hml, hown, hts⟩ (c_X1_folded l dC dI ad cL cZ cI S ro hd H.size (nI i) hd9 ) (cwV 1 hts gX1_digestOf_X1_folded rfl rfl rfl (by decide +kernel) ⟨Nat.le_of_ble_eq_true rfl, Nat.le_of_ble_eq_true rfl⟩) (xpV_w [.int (nI i)] hK hP hD (va_recv hK hP (ci := 1) (q0 := 0) rfl rfl)) rfl rfl hl.1 rfl (lv_room (Nat.le_of_ble_eq_true rfl)) dX1_digestOf_15 ⟨Nat.le_of_ble_eq_true rfl, Nat.le_of_ble_eq_true rfl⟩) hD hS hA (fun r u H locs hw hP hD hS => ?_)
      obtain ⟨u1, rw1, hd1⟩ := u
      obtain ⟨rfl, hu1, hh1⟩ := hw
      change hd1 = hd at hh1
      change u1 = S at hu1
      change va_P _ vwCl (wM ad cL cZ cI u1 rw1 hd1) _ at hP
      change va_D _ (wM ad cL cZ cI u1 rw1 hd1) at hD
      rw [hu1, hh1] at hP hD
      refine s_m_hd hx hb hK hP hD hS (xat_nI hlt (by decide)) dX1_digestOf_18 (fun H locs hP hD hS => ?_)
      refine lv_iinc (v := (nI (i + 1))) (lv' := [(2, .int (nI (i + 1))), (0, .ref (ad 0)), (1, .int mask)]) hx hb dX1_digestOf_19 hl (k := 0) rfl (nI_1 i) (by decide) rfl (fun ls hl => ?_)
      refine lv_goto (tgt := 2) hx hb dX1_digestOf_22 (by decide) ?_
      exact ih (i + 1) _ _ rw1 (vp_updL hd i (M_folded S (nI i))) ls (by omega) (by omega) (fun j hj => by
        show (if j = i then _ else hd j) = _
        by_cases e : j = i
        · rw [if_pos e, e]
        · rw [if_neg e]; exact hf j (by omega)) hP hD hS (lv_sub hl [0, 1, 2] rfl)
set_option maxHeartbeats 4000000 in
set_option maxRecDepth 100000 in
theorem lp_X1_digestOf_37 {p : Program} {l : Launch} {e : Env} {s : State} {m : MethodId} {args : Array Value} {below : List Frame} {meth : Method} {c : Code} {Q : State → Prop} {dC : Nat → ClassId} {dI : Nat → Nat → Nat} {ad : Nat → Nat} {cL cZ cI : ClassId} {S : SM} {ro hd : Nat → Int64} {A : Nat → Prop} {H0 : Heap} (mask : Int32) (hx : p.tables.exec = Jvm.exec) (hb : c.code = cX1_digestOf) (hml : c.maxLocals = 4) (hown : s.vm.findClass RX1 = some m.cls) (hts : ∀ w ∈ wsX1_digestOf, w.before args s = true) (hK : va_K (dC, dI) vwCl (tyM cL cZ cI) s) (hA : ∀ q, H0.size ≤ q → A q)
    (kk : ∀ (H : Heap) (locs : List Loc) (ls : Array Slot), va_P (dC, dI) vwCl (wM ad cL cZ cI S (rowN ro hd mask 8) hd) H → va_D A (wM ad cL cZ cI S (rowN ro hd mask 8) hd) → va_S A H0 H locs → lv_has ls 4 [(2, .int (nI (cntN mask 8))), (3, .int (nI 8)), (0, .ref (ad 0)), (1, .int mask)] → W p l e (headSpec wsX1_digestOf ({ frames := 3, cells := 0, slots := 0, locals := 74 })).room s m args below meth c H locs 0 0 Q (F0 m 73 ls [])) :
    ∀ (n i : Nat) (H : Heap) (locs : List Loc) (ls : Array Slot), i ≤ 8 → 8 < i + n → va_P (dC, dI) vwCl (wM ad cL cZ cI S (rowN ro hd mask i) hd) H → va_D A (wM ad cL cZ cI S (rowN ro hd mask i) hd) → va_S A H0 H locs → lv_has ls 4 [(2, .int (nI (cntN mask i))), (3, .int (nI i)), (0, .ref (ad 0)), (1, .int mask)] → W p l e (headSpec wsX1_digestOf ({ frames := 3, cells := 0, slots := 0, locals := 74 })).room s m args below meth c H locs 0 0 Q (F0 m 37 ls []) := by
  have hin : ∀ w ∈ wsX10, w ∈ wsX1_digestOf := fun _ h => List.mem_cons_of_mem _ (List.mem_append_right _ h)
  intro n
  induction n with
  | zero =>
    intro i H locs ls hi hn9
    omega
  | succ n ih =>
    intro i H locs ls hi hn9 hP hD hS hl
    refine lv_iload_n hx hb dX1_digestOf_37 rfl (lv_at hl 1 rfl) ?_
    refine lv_bipush (v := 8) hx hb dX1_digestOf_38 (by decide) ?_
    refine lv_icmp_ge (tgt := 73) hx hb dX1_digestOf_40 (by decide) (fun c40 => ?_) (fun c40 => ?_)
    · skip
      have hi8 := xge (n := 8) (by decide) hi c40
      subst hi8
      exact kk H locs ls hP hD hS (lv_sub hl [0, 1, 2, 3] rfl)
    · skip
      have hlt := xlt (n := 8) (by decide) hi c40
      refine lv_iload_n hx hb dX1_digestOf_43 rfl (lv_at hl 3 rfl) ?_
      refine lv_iload_n hx hb dX1_digestOf_44 rfl (lv_at hl 1 rfl) ?_
      refine lv_ishr hx hb dX1_digestOf_45 ?_
      refine lv_iconst (v := 1) hx hb dX1_digestOf_46 (by decide) ?_
      refine lv_iand hx hb dX1_digestOf_47 ?_
      refine lv_iconst (v := 1) hx hb dX1_digestOf_48 (by decide) ?_
      refine lv_icmp_ne (tgt := 67) hx hb dX1_digestOf_49 (by decide) (fun c49 => ?_) (fun c49 => ?_)
      · skip
        refine lv_iinc (v := (nI (i + 1))) (lv' := [(3, .int (nI (i + 1))), (2, .int (nI (cntN mask i))), (0, .ref (ad 0)), (1, .int mask)]) hx hb dX1_digestOf_67 hl (k := 1) rfl (nI_1 i) (by decide) rfl (fun ls hl => ?_)
        refine lv_goto (tgt := 37) hx hb dX1_digestOf_70 (by decide) ?_
        exact ih (i + 1) _ _ ls (by omega) (by omega) (by rw [show rowN ro hd mask (i + 1) = (rowN ro hd mask i) from if_neg c49]; exact hP) (by rw [show rowN ro hd mask (i + 1) = (rowN ro hd mask i) from if_neg c49]; exact hD) hS (by rw [show cntN mask (i + 1) = cntN mask i from if_neg c49]; exact lv_sub hl [1, 0, 2, 3] rfl)
      · skip
        refine lv_aload_n hx hb dX1_digestOf_52 rfl (lv_at hl 2 rfl) ?_
        refine g_m_arw hx hb hts hin hown hK hP (hts (.fieldLink RX1 39 RX1 "row" "[J") (by decide +kernel)) dX1_digestOf_53 ?_
        refine lv_iload_n hx hb dX1_digestOf_56 rfl (lv_at hl 0 rfl) ?_
        refine lv_aload_n hx hb dX1_digestOf_57 rfl (lv_at hl 2 rfl) ?_
        refine g_m_ahd hx hb hts hin hown hK hP (hts (.fieldLink RX1 42 RX1 "held" "[J") (by decide +kernel)) dX1_digestOf_58 ?_
        refine lv_iload_n hx hb dX1_digestOf_61 rfl (lv_at hl 1 rfl) ?_
        refine l_m_hd hx hb hK hP (xat_nI hlt (by decide)) dX1_digestOf_62 ?_
        refine s_m_rw hx hb hK hP hD hS (xat_nI (by have := cntN_le mask i; omega) (by decide)) dX1_digestOf_63 (fun H locs hP hD hS => ?_)
        refine lv_iinc (v := (nI (cntN mask i + 1))) (lv' := [(2, .int (nI (cntN mask i + 1))), (3, .int (nI i)), (0, .ref (ad 0)), (1, .int mask)]) hx hb dX1_digestOf_64 hl (k := 0) rfl (nI_1 (cntN mask i)) (by decide) rfl (fun ls hl => ?_)
        refine lv_iinc (v := (nI (i + 1))) (lv' := [(3, .int (nI (i + 1))), (2, .int (nI (cntN mask i + 1))), (0, .ref (ad 0)), (1, .int mask)]) hx hb dX1_digestOf_67 hl (k := 1) rfl (nI_1 i) (by decide) rfl (fun ls hl => ?_)
        refine lv_goto (tgt := 37) hx hb dX1_digestOf_70 (by decide) ?_
        exact ih (i + 1) _ _ ls (by omega) (by omega) (by rw [show rowN ro hd mask (i + 1) = vp_updL (rowN ro hd mask i) (cntN mask i) (hd i) from if_pos c49]; exact hP) (by rw [show rowN ro hd mask (i + 1) = vp_updL (rowN ro hd mask i) (cntN mask i) (hd i) from if_pos c49]; exact hD) hS (by rw [show cntN mask (i + 1) = cntN mask i + 1 from if_pos c49]; exact lv_sub hl [1, 0, 2, 3] rfl)
set_option maxHeartbeats 4000000 in
set_option maxRecDepth 100000 in
theorem c_X1_digestOf (l : Launch) (dC : Nat → ClassId) (dI : Nat → Nat → Nat) (ad : Nat → Nat) (cL cZ cI : ClassId) (S : SM) (ro hd : Nat → Int64) (sz : Nat) (mask : Int32) (hd9 : okD (m_dn S)) : Met l yX1_digestOf wsX1_digestOf ({ frames := 3, cells := 0, slots := 0, locals := 74 }) (va_Pc [.ref (ad 0), .int mask] (fun U => U.heap.size = sz ∧ va_P (dC, dI) vwCl (wM ad cL cZ cI S ro hd) U.heap ∧ va_K (dC, dI) vwCl (tyM cL cZ cI) U ∧ va_D (fun _ => True) (wM ad cL cZ cI S ro hd))) (va_Ql (fun r (u : SMr) => r = M_digestOf S mask ∧ u.1 = S) (xB (dC, dI) (wMr ad cL cZ cI) (tyM cL cZ cI) (va_A (wM ad cL cZ cI S ro hd) sz)) (va_A (wM ad cL cZ cI S ro hd) sz)) 0 0 (va_A (wM ad cL cZ cI S ro hd) sz) := by
  refine Met.ofW (cc := cX1_digestOf) (maxL := 4) (ret := (some .long)) (by decide) rfl ?_
  intro p e s m args below meth c s₁ B hml hv
  obtain ⟨rfl, hsz, hP, hK, hD0⟩ := hv
  have hx := B.exec
  have hb := B.bytes
  have hr := B.returns
  have hts := atoms_spec (ws := wsX1_digestOf) B.pre
  have hown : s.vm.findClass RX1 = some m.cls := findClass_of_methodNamed B.named
  have hlocks := B.notSynchronized
  have hin : ∀ w ∈ wsX10, w ∈ wsX1_digestOf := fun _ h => List.mem_cons_of_mem _ (List.mem_append_right _ h)
  subst hsz
  have hD := hD0.self (sz := s.heap.size)
  generalize hAe : va_A (wM ad cL cZ cI S ro hd) s.heap.size = A at hD ⊢
  have hA : ∀ q : Nat, s.heap.size ≤ q → A q := fun q h => by rw [← hAe]; exact Or.inr h
  have hS : va_S A s.heap s.heap [] := va_S.rf
  have hl := lv_entry ([.ref (ad 0), .int mask]) (n := 4) (Nat.le_of_ble_eq_true rfl)
  rw [lg_entry_eq]
  generalize (lg_sl ([.ref (ad 0), .int mask]) ++ List.replicate (4 - (lg_sl ([.ref (ad 0), .int mask])).length) Slot.unset).toArray = ls at hl ⊢
  have hl : lv_has ls 4 [(0, .ref (ad 0)), (1, .int mask)] := hl
  refine lv_iconst (v := 0) hx hb dX1_digestOf_0 (by decide) ?_
  refine lv_istore_n (lv' := [(2, .int (0 : Int32)), (0, .ref (ad 0)), (1, .int mask)]) hx hb dX1_digestOf_1 rfl hl (by decide) rfl (fun ls hl => ?_)
  refine lp_X1_digestOf_2 (S := S) (ro := ro) (hd := hd) mask hd9 hx hb hml hown hts hK hA (fun H locs ro hd ls hf hP hD hS hl => ?_) (8 + 1) 0 _ _ ro hd ls (Nat.zero_le _) (by omega) (fun j h => absurd h (Nat.not_lt_zero j)) hP hD hS (lv_sub hl [0, 1, 2] rfl)
  refine lv_aload_n hx hb dX1_digestOf_25 rfl (lv_at hl 1 rfl) ?_
  refine g_m_arw hx hb hts hin hown hK hP (hts (.fieldLink RX1 39 RX1 "row" "[J") (by decide +kernel)) dX1_digestOf_26 ?_
  refine lv_iconst (v := 0) hx hb dX1_digestOf_29 (by decide) ?_
  refine lv_iload_n hx hb dX1_digestOf_30 rfl (lv_at hl 2 rfl) ?_
  refine lv_i2l hx hb dX1_digestOf_31 rfl ?_
  refine s_m_rw hx hb hK hP hD hS (xat_nI (by decide) (by decide)) dX1_digestOf_32 (fun H locs hP hD hS => ?_)
  refine lv_iconst (v := 1) hx hb dX1_digestOf_33 (by decide) ?_
  refine lv_istore_n (lv' := [(2, .int (1 : Int32)), (0, .ref (ad 0)), (1, .int mask)]) hx hb dX1_digestOf_34 rfl hl (by decide) rfl (fun ls hl => ?_)
  refine lv_iconst (v := 0) hx hb dX1_digestOf_35 (by decide) ?_
  refine lv_istore_n (lv' := [(3, .int (0 : Int32)), (2, .int (1 : Int32)), (0, .ref (ad 0)), (1, .int mask)]) hx hb dX1_digestOf_36 rfl hl (by decide) rfl (fun ls hl => ?_)
  refine lp_X1_digestOf_37 (S := S) (ro := (vp_updL ro 0 mask.toInt64)) (hd := hd) mask hx hb hml hown hts hK hA (fun H locs ls hP hD hS hl => ?_) (8 + 1) 0 _ _ ls (Nat.zero_le _) (by omega) hP hD hS (lv_sub hl [1, 0, 2, 3] rfl)
  refine lv_aload_n hx hb dX1_digestOf_73 rfl (lv_at hl 2 rfl) ?_
  refine lv_iload_n hx hb dX1_digestOf_74 rfl (lv_at hl 0 rfl) ?_
  refine vp_callSl (va_Run.run (va_runV (As := [.int (nI (cntN mask 8))]) (rest := []) ⟨hx, hb, hml, hown, hts⟩ (c_X1_hash l dC dI ad cL cZ cI S (rowN (vp_updL ro 0 mask.toInt64) hd mask 8) hd (cntN mask 8) (by have := cntN_le mask 8; omega) ) (cwV 1 hts gX1_digestOf_X1_hash rfl rfl rfl (by decide +kernel) ⟨Nat.le_of_ble_eq_true rfl, Nat.le_of_ble_eq_true rfl⟩) (xpV_r [.int (nI (cntN mask 8))] hK hP (va_recv hK hP (ci := 1) (q0 := 0) rfl rfl)) rfl rfl hl.1 rfl (lv_room (Nat.le_of_ble_eq_true rfl)) dX1_digestOf_75 ⟨Nat.le_of_ble_eq_true rfl, Nat.le_of_ble_eq_true rfl⟩)) (fun r hr9 => ?_)
  subst hr9
  exact W.lret (v := (foN (nI (cntN mask 8)).toInt64 (rowN (vp_updL ro 0 mask.toInt64) hd mask 8) (cntN mask 8))) hx hb hr (fun t ht hW => ⟨⟨_, (S, (rowN (vp_updL ro 0 mask.toInt64) hd mask 8), hd), rfl, ⟨(M_digest_row hf), rfl⟩, by rw [ht]; exact hP, va_K.moved hW.alike hK, hD⟩, hS.F ht⟩) hS.2.2 dX1_digestOf_78
set_option maxHeartbeats 4000000 in
set_option maxRecDepth 100000 in
theorem c_X1_veil (l : Launch) (dC : Nat → ClassId) (dI : Nat → Nat → Nat) (ad : Nat → Nat) (cL cZ cI : ClassId) (S : SM) (ro hd : Nat → Int64) (sz : Nat) (sa : Int64) (dg : Int64)  : Met l yX1_veil wsX1_veil ({ frames := 1, cells := 0, slots := 0, locals := 26 }) (va_Pc [.ref (ad 0), .long sa, .long dg] (fun U => U.heap.size = sz ∧ va_P (dC, dI) vwCl (wM ad cL cZ cI S ro hd) U.heap ∧ va_K (dC, dI) vwCl (tyM cL cZ cI) U ∧ va_D (fun _ => True) (wM ad cL cZ cI S ro hd))) (va_Ql (fun r (u : SMr) => r = M_veil S sa dg ∧ u.1 = S) (xB (dC, dI) (wMr ad cL cZ cI) (tyM cL cZ cI) (va_A (wM ad cL cZ cI S ro hd) sz)) (va_A (wM ad cL cZ cI S ro hd) sz)) 0 0 (va_A (wM ad cL cZ cI S ro hd) sz) := by
  refine Met.ofW (cc := cX1_veil) (maxL := 5) (ret := (some .long)) (by decide) rfl ?_
  intro p e s m args below meth c s₁ B hml hv
  obtain ⟨rfl, hsz, hP, hK, hD0⟩ := hv
  have hx := B.exec
  have hb := B.bytes
  have hr := B.returns
  have hts := atoms_spec (ws := wsX1_veil) B.pre
  have hown : s.vm.findClass RX1 = some m.cls := findClass_of_methodNamed B.named
  have hlocks := B.notSynchronized
  have hin : ∀ w ∈ wsX10, w ∈ wsX1_veil := fun _ h => List.mem_cons_of_mem _ (List.mem_append_right _ h)
  subst hsz
  have hD := hD0.self (sz := s.heap.size)
  generalize hAe : va_A (wM ad cL cZ cI S ro hd) s.heap.size = A at hD ⊢
  have hA : ∀ q : Nat, s.heap.size ≤ q → A q := fun q h => by rw [← hAe]; exact Or.inr h
  have hS : va_S A s.heap s.heap [] := va_S.rf
  have hl := lv_entry ([.ref (ad 0), .long sa, .long dg]) (n := 5) (Nat.le_of_ble_eq_true rfl)
  rw [lg_entry_eq]
  generalize (lg_sl ([.ref (ad 0), .long sa, .long dg]) ++ List.replicate (5 - (lg_sl ([.ref (ad 0), .long sa, .long dg])).length) Slot.unset).toArray = ls at hl ⊢
  have hl : lv_has ls 5 [(0, .ref (ad 0)), (1, .long sa), (3, .long dg)] := hl
  refine lv_aload_n hx hb dX1_veil_0 rfl (lv_at hl 0 rfl) ?_
  refine g_m_arw hx hb hts hin hown hK hP (hts (.fieldLink RX1 39 RX1 "row" "[J") (by decide +kernel)) dX1_veil_1 ?_
  refine lv_iconst (v := 0) hx hb dX1_veil_4 (by decide) ?_
  refine lv_aload_n hx hb dX1_veil_5 rfl (lv_at hl 0 rfl) ?_
  refine g_m_m hx hb hts hin hown hK hP (hts (.fieldLink RX1 49 RX1 "machine" "J") (by decide +kernel)) dX1_veil_6 ?_
  refine s_m_rw hx hb hK hP hD hS (xat_nI (by decide) (by decide)) dX1_veil_9 (fun H locs hP hD hS => ?_)
  refine lv_aload_n hx hb dX1_veil_10 rfl (lv_at hl 0 rfl) ?_
  refine g_m_arw hx hb hts hin hown hK hP (hts (.fieldLink RX1 39 RX1 "row" "[J") (by decide +kernel)) dX1_veil_11 ?_
  refine lv_iconst (v := 1) hx hb dX1_veil_14 (by decide) ?_
  refine lv_lload_n hx hb dX1_veil_15 rfl (lv_at hl 1 rfl) ?_
  refine s_m_rw hx hb hK hP hD hS (xat_nI (by decide) (by decide)) dX1_veil_16 (fun H locs hP hD hS => ?_)
  refine lv_aload_n hx hb dX1_veil_17 rfl (lv_at hl 0 rfl) ?_
  refine g_m_arw hx hb hts hin hown hK hP (hts (.fieldLink RX1 39 RX1 "row" "[J") (by decide +kernel)) dX1_veil_18 ?_
  refine lv_iconst (v := 2) hx hb dX1_veil_21 (by decide) ?_
  refine lv_lload_n hx hb dX1_veil_22 rfl (lv_at hl 2 rfl) ?_
  refine s_m_rw hx hb hK hP hD hS (xat_nI (by decide) (by decide)) dX1_veil_23 (fun H locs hP hD hS => ?_)
  refine lv_aload_n hx hb dX1_veil_24 rfl (lv_at hl 0 rfl) ?_
  refine lv_iconst (v := 3) hx hb dX1_veil_25 (by decide) ?_
  refine vp_callSl (va_Run.run (va_runV (As := [.int (3 : Int32)]) (rest := []) ⟨hx, hb, hml, hown, hts⟩ (c_X1_hash l dC dI ad cL cZ cI S (vp_updL (vp_updL (vp_updL ro 0 (m_m S)) 1 sa) 2 dg) hd 3 (by decide) ) (cwV 1 hts gX1_veil_X1_hash rfl rfl rfl (by decide +kernel) ⟨Nat.le_of_ble_eq_true rfl, Nat.le_of_ble_eq_true rfl⟩) (xpV_r [.int (3 : Int32)] hK hP (va_recv hK hP (ci := 1) (q0 := 0) rfl rfl)) rfl rfl hl.1 rfl (lv_room (Nat.le_of_ble_eq_true rfl)) dX1_veil_26 ⟨Nat.le_of_ble_eq_true rfl, Nat.le_of_ble_eq_true rfl⟩)) (fun r hr9 => ?_)
  subst hr9
  exact W.lret (v := (foN (nI 3).toInt64 (vp_updL (vp_updL (vp_updL ro 0 (m_m S)) 1 sa) 2 dg) 3)) hx hb hr (fun t ht hW => ⟨⟨_, (S, (vp_updL (vp_updL (vp_updL ro 0 (m_m S)) 1 sa) 2 dg), hd), rfl, ⟨(foN3 _), rfl⟩, by rw [ht]; exact hP, va_K.moved hW.alike hK, hD⟩, hS.F ht⟩) hS.2.2 dX1_veil_29
set_option maxHeartbeats 4000000 in
set_option maxRecDepth 100000 in
theorem lp_X1_sealOf_2 {p : Program} {l : Launch} {e : Env} {s : State} {m : MethodId} {args : Array Value} {below : List Frame} {meth : Method} {c : Code} {Q : State → Prop} {dC : Nat → ClassId} {dI : Nat → Nat → Nat} {ad : Nat → Nat} {cL cZ cI : ClassId} {S : SM} {ro hd : Nat → Int64} {A : Nat → Prop} {H0 : Heap} (q : Int32) (hq : vp_in q 10) (hx : p.tables.exec = Jvm.exec) (hb : c.code = cX1_sealOf) (hml : c.maxLocals = 3) (hown : s.vm.findClass RX1 = some m.cls) (hts : ∀ w ∈ wsX1_sealOf, w.before args s = true) (hK : va_K (dC, dI) vwCl (tyM cL cZ cI) s) (hA : ∀ q, H0.size ≤ q → A q)
    (kk : ∀ (H : Heap) (locs : List Loc) (ls : Array Slot), va_P (dC, dI) vwCl (wM ad cL cZ cI S (rowS ro (m_bw S) q.toNatClampNeg 5) hd) H → va_D A (wM ad cL cZ cI S (rowS ro (m_bw S) q.toNatClampNeg 5) hd) → va_S A H0 H locs → lv_has ls 3 [(2, .int (nI 5)), (0, .ref (ad 0)), (1, .int q)] → W p l e (headSpec wsX1_sealOf ({ frames := 2, cells := 0, slots := 0, locals := 51 })).room s m args below meth c H locs 0 0 Q (F0 m 32 ls [])) :
    ∀ (n i : Nat) (H : Heap) (locs : List Loc) (ls : Array Slot), i ≤ 5 → 5 < i + n → va_P (dC, dI) vwCl (wM ad cL cZ cI S (rowS ro (m_bw S) q.toNatClampNeg i) hd) H → va_D A (wM ad cL cZ cI S (rowS ro (m_bw S) q.toNatClampNeg i) hd) → va_S A H0 H locs → lv_has ls 3 [(2, .int (nI i)), (0, .ref (ad 0)), (1, .int q)] → W p l e (headSpec wsX1_sealOf ({ frames := 2, cells := 0, slots := 0, locals := 51 })).room s m args below meth c H locs 0 0 Q (F0 m 2 ls []) := by
  have hin : ∀ w ∈ wsX10, w ∈ wsX1_sealOf := fun _ h => List.mem_cons_of_mem _ (List.mem_append_right _ h)
  intro n
  induction n with
  | zero =>
    intro i H locs ls hi hn9
    omega
  | succ n ih =>
    intro i H locs ls hi hn9 hP hD hS hl
    refine lv_iload_n hx hb dX1_sealOf_2 rfl (lv_at hl 0 rfl) ?_
    refine lv_iconst (v := 5) hx hb dX1_sealOf_3 (by decide) ?_
    refine lv_icmp_ge (tgt := 32) hx hb dX1_sealOf_4 (by decide) (fun c4 => ?_) (fun c4 => ?_)
    · skip
      have hi8 := xge (n := 5) (by decide) hi c4
      subst hi8
      exact kk H locs ls hP hD hS (lv_sub hl [0, 1, 2] rfl)
    · skip
      have hlt := xlt (n := 5) (by decide) hi c4
      refine lv_aload_n hx hb dX1_sealOf_7 rfl (lv_at hl 1 rfl) ?_
      refine g_m_arw hx hb hts hin hown hK hP (hts (.fieldLink RX1 39 RX1 "row" "[J") (by decide +kernel)) dX1_sealOf_8 ?_
      refine lv_iconst (v := 1) hx hb dX1_sealOf_11 (by decide) ?_
      refine lv_iload_n hx hb dX1_sealOf_12 rfl (lv_at hl 0 rfl) ?_
      refine lv_iadd hx hb dX1_sealOf_13 ?_
      refine lv_aload_n hx hb dX1_sealOf_14 rfl (lv_at hl 1 rfl) ?_
      refine g_m_abw hx hb hts hin hown hK hP (hts (.fieldLink RX1 36 RX1 "blobWord" "[J") (by decide +kernel)) dX1_sealOf_15 ?_
      refine lv_bipush (v := 6) hx hb dX1_sealOf_18 (by decide) ?_
      refine lv_iload_n hx hb dX1_sealOf_20 rfl (lv_at hl 2 rfl) ?_
      refine lv_imul hx hb dX1_sealOf_21 ?_
      refine lv_iload_n hx hb dX1_sealOf_22 rfl (lv_at hl 0 rfl) ?_
      refine lv_iadd hx hb dX1_sealOf_23 ?_
      refine l_m_bw hx hb hK hP (xat6 hq (xat_nI (by omega) (by decide))) dX1_sealOf_24 ?_
      refine s_m_rw hx hb hK hP hD hS (xat1 hlt) dX1_sealOf_25 (fun H locs hP hD hS => ?_)
      refine lv_iinc (v := (nI (i + 1))) (lv' := [(2, .int (nI (i + 1))), (0, .ref (ad 0)), (1, .int q)]) hx hb dX1_sealOf_26 hl (k := 0) rfl (nI_1 i) (by decide) rfl (fun ls hl => ?_)
      refine lv_goto (tgt := 2) hx hb dX1_sealOf_29 (by decide) ?_
      exact ih (i + 1) _ _ ls (by omega) (by omega) hP hD hS (lv_sub hl [0, 1, 2] rfl)
set_option maxHeartbeats 4000000 in
set_option maxRecDepth 100000 in
theorem c_X1_sealOf (l : Launch) (dC : Nat → ClassId) (dI : Nat → Nat → Nat) (ad : Nat → Nat) (cL cZ cI : ClassId) (S : SM) (ro hd : Nat → Int64) (sz : Nat) (q : Int32) (hq : vp_in q 10) : Met l yX1_sealOf wsX1_sealOf ({ frames := 2, cells := 0, slots := 0, locals := 51 }) (va_Pc [.ref (ad 0), .int q] (fun U => U.heap.size = sz ∧ va_P (dC, dI) vwCl (wM ad cL cZ cI S ro hd) U.heap ∧ va_K (dC, dI) vwCl (tyM cL cZ cI) U ∧ va_D (fun _ => True) (wM ad cL cZ cI S ro hd))) (va_Ql (fun r (u : SMr) => r = M_sealOf S q ∧ u.1 = S) (xB (dC, dI) (wMr ad cL cZ cI) (tyM cL cZ cI) (va_A (wM ad cL cZ cI S ro hd) sz)) (va_A (wM ad cL cZ cI S ro hd) sz)) 0 0 (va_A (wM ad cL cZ cI S ro hd) sz) := by
  refine Met.ofW (cc := cX1_sealOf) (maxL := 3) (ret := (some .long)) (by decide) rfl ?_
  intro p e s m args below meth c s₁ B hml hv
  obtain ⟨rfl, hsz, hP, hK, hD0⟩ := hv
  have hx := B.exec
  have hb := B.bytes
  have hr := B.returns
  have hts := atoms_spec (ws := wsX1_sealOf) B.pre
  have hown : s.vm.findClass RX1 = some m.cls := findClass_of_methodNamed B.named
  have hlocks := B.notSynchronized
  have hin : ∀ w ∈ wsX10, w ∈ wsX1_sealOf := fun _ h => List.mem_cons_of_mem _ (List.mem_append_right _ h)
  subst hsz
  have hD := hD0.self (sz := s.heap.size)
  generalize hAe : va_A (wM ad cL cZ cI S ro hd) s.heap.size = A at hD ⊢
  have hA : ∀ q : Nat, s.heap.size ≤ q → A q := fun q h => by rw [← hAe]; exact Or.inr h
  have hS : va_S A s.heap s.heap [] := va_S.rf
  have hl := lv_entry ([.ref (ad 0), .int q]) (n := 3) (Nat.le_of_ble_eq_true rfl)
  rw [lg_entry_eq]
  generalize (lg_sl ([.ref (ad 0), .int q]) ++ List.replicate (3 - (lg_sl ([.ref (ad 0), .int q])).length) Slot.unset).toArray = ls at hl ⊢
  have hl : lv_has ls 3 [(0, .ref (ad 0)), (1, .int q)] := hl
  refine lv_iconst (v := 0) hx hb dX1_sealOf_0 (by decide) ?_
  refine lv_istore_n (lv' := [(2, .int (0 : Int32)), (0, .ref (ad 0)), (1, .int q)]) hx hb dX1_sealOf_1 rfl hl (by decide) rfl (fun ls hl => ?_)
  refine lp_X1_sealOf_2 (S := S) (ro := ro) (hd := hd) q hq hx hb hml hown hts hK hA (fun H locs ls hP hD hS hl => ?_) (5 + 1) 0 _ _ ls (Nat.zero_le _) (by omega) hP hD hS (lv_sub hl [0, 1, 2] rfl)
  refine lv_aload_n hx hb dX1_sealOf_32 rfl (lv_at hl 1 rfl) ?_
  refine lv_aload_n hx hb dX1_sealOf_33 rfl (lv_at hl 1 rfl) ?_
  refine g_m_m hx hb hts hin hown hK hP (hts (.fieldLink RX1 49 RX1 "machine" "J") (by decide +kernel)) dX1_sealOf_34 ?_
  refine lv_iconst (v := 5) hx hb dX1_sealOf_37 (by decide) ?_
  refine xcall_l (va_runV (As := [.long (m_m S), .int (5 : Int32)]) (rest := []) ⟨hx, hb, hml, hown, hts⟩ (c_X1_code l dC dI ad cL cZ cI S (rowS ro (m_bw S) q.toNatClampNeg 5) hd H.size (m_m S) 5 (by decide) ) (cwV 2 hts gX1_sealOf_X1_code rfl rfl rfl (by decide +kernel) ⟨Nat.le_of_ble_eq_true rfl, Nat.le_of_ble_eq_true rfl⟩) (xpV_w [.long (m_m S), .int (5 : Int32)] hK hP hD (va_recv hK hP (ci := 1) (q0 := 0) rfl rfl)) rfl rfl hl.1 rfl (lv_room (Nat.le_of_ble_eq_true rfl)) dX1_sealOf_38 ⟨Nat.le_of_ble_eq_true rfl, Nat.le_of_ble_eq_true rfl⟩) hD hS hA (fun r u H locs hw hP hD hS => ?_)
  obtain ⟨u1, rw1, hd1⟩ := u
  obtain ⟨rfl, hu1⟩ := hw
  change u1 = S at hu1
  change va_P _ vwCl (wM ad cL cZ cI u1 rw1 hd1) _ at hP
  change va_D _ (wM ad cL cZ cI u1 rw1 hd1) at hD
  rw [hu1] at hP hD
  exact W.lret (v := (mE (m_m S) (foN (nI (5 + 1)).toInt64 (vp_updL (rowS ro (m_bw S) q.toNatClampNeg 5) 0 ((m_m S) ^^^ 92)) (5 + 1)))) hx hb hr (fun t ht hW => ⟨⟨_, (S, rw1, hd1), rfl, ⟨M_seal_row, rfl⟩, by rw [ht]; exact hP, va_K.moved hW.alike hK, hD⟩, hS.F ht⟩) hS.2.2 dX1_sealOf_41
end
section
set_option maxHeartbeats 4000000 in
set_option maxRecDepth 100000 in
theorem c_X1_locality (l : Launch) (dC : Nat → ClassId) (dI : Nat → Nat → Nat) (ad : Nat → Nat) (cL cZ cI : ClassId) (S : SM) (ro hd : Nat → Int64) (sz : Nat) (q : Int32)  : Met l yX1_locality wsX1_locality ({ frames := 0, cells := 0, slots := 0, locals := 0 }) (va_Pc [.ref (ad 0), .int q] (fun U => U.heap.size = sz ∧ va_P (dC, dI) vwCl (wM ad cL cZ cI S ro hd) U.heap ∧ va_K (dC, dI) vwCl (tyM cL cZ cI) U ∧ va_D (fun _ => True) (wM ad cL cZ cI S ro hd))) (va_Qi (fun r (u : SMr) => r = (M_locality S q).1 ∧ u.1 = (M_locality S q).2) (xB (dC, dI) (wMr ad cL cZ cI) (tyM cL cZ cI) (va_A (wM ad cL cZ cI S ro hd) sz)) (va_A (wM ad cL cZ cI S ro hd) sz)) 0 0 (va_A (wM ad cL cZ cI S ro hd) sz) := by
  refine Met.ofW (cc := cX1_locality) (maxL := 2) (ret := (some .boolean)) (by decide) rfl ?_
  intro p e s m args below meth c s₁ B hml hv
  obtain ⟨rfl, hsz, hP, hK, hD0⟩ := hv
  have hx := B.exec
  have hb := B.bytes
  have hr := B.returns
  have hts := atoms_spec (ws := wsX1_locality) B.pre
  have hown : s.vm.findClass RX1 = some m.cls := findClass_of_methodNamed B.named
  have hlocks := B.notSynchronized
  have hin : ∀ w ∈ wsX10, w ∈ wsX1_locality := fun _ h => List.mem_cons_of_mem _ (List.mem_append_right _ h)
  subst hsz
  have hD := hD0.self (sz := s.heap.size)
  generalize hAe : va_A (wM ad cL cZ cI S ro hd) s.heap.size = A at hD ⊢
  have hA : ∀ q : Nat, s.heap.size ≤ q → A q := fun q h => by rw [← hAe]; exact Or.inr h
  have hS : va_S A s.heap s.heap [] := va_S.rf
  have hl := lv_entry ([.ref (ad 0), .int q]) (n := 2) (Nat.le_of_ble_eq_true rfl)
  rw [lg_entry_eq]
  generalize (lg_sl ([.ref (ad 0), .int q]) ++ List.replicate (2 - (lg_sl ([.ref (ad 0), .int q])).length) Slot.unset).toArray = ls at hl ⊢
  have hl : lv_has ls 2 [(0, .ref (ad 0)), (1, .int q)] := hl
  refine lv_iload_n hx hb dX1_locality_0 rfl (lv_at hl 1 rfl) ?_
  refine lv_if_lt (tgt := 9) hx hb dX1_locality_1 (by decide) (fun c1 => ?_) (fun c1 => ?_)
  · skip
    refine lv_iconst (v := 0) hx hb dX1_locality_9 (by decide) ?_
    exact W.zret (v := (0 : Int32)) hx hb hr rfl (fun t ht hW => ⟨⟨_, (S, ro, hd), rfl, ⟨(by simp only [M_locality, if_pos c1] <;> rfl), (by simp only [M_locality, if_pos c1] <;> rfl)⟩, by rw [ht]; exact hP, va_K.moved hW.alike hK, hD⟩, hS.F ht⟩) hS.2.2 dX1_locality_10
  · skip
    refine lv_iload_n hx hb dX1_locality_4 rfl (lv_at hl 1 rfl) ?_
    refine lv_iconst (v := 3) hx hb dX1_locality_5 (by decide) ?_
    refine lv_icmp_le (tgt := 11) hx hb dX1_locality_6 (by decide) (fun c6 => ?_) (fun c6 => ?_)
    · skip
      refine lv_aload_n hx hb dX1_locality_11 rfl (lv_at hl 0 rfl) ?_
      refine lv_iload_n hx hb dX1_locality_12 rfl (lv_at hl 1 rfl) ?_
      refine p_m_lo hx hb hts hin hown hK hP hD hS (hts (.fieldLink RX1 74 RX1 "locality" "I") (by decide +kernel)) dX1_locality_13 (fun H locs hP hD hS => ?_)
      refine lv_iconst (v := 1) hx hb dX1_locality_16 (by decide) ?_
      exact W.zret (v := (1 : Int32)) hx hb hr rfl (fun t ht hW => ⟨⟨_, ((mu_lo S q), ro, hd), rfl, ⟨(by simp only [M_locality, if_neg c1, if_pos c6] <;> rfl), (by simp only [M_locality, if_neg c1, if_pos c6] <;> rfl)⟩, by rw [ht]; exact hP, va_K.moved hW.alike hK, hD⟩, hS.F ht⟩) hS.2.2 dX1_locality_17
    · skip
      refine lv_iconst (v := 0) hx hb dX1_locality_9 (by decide) ?_
      exact W.zret (v := (0 : Int32)) hx hb hr rfl (fun t ht hW => ⟨⟨_, (S, ro, hd), rfl, ⟨(by simp only [M_locality, if_neg c1, if_neg c6] <;> rfl), (by simp only [M_locality, if_neg c1, if_neg c6] <;> rfl)⟩, by rw [ht]; exact hP, va_K.moved hW.alike hK, hD⟩, hS.F ht⟩) hS.2.2 dX1_locality_10
set_option maxHeartbeats 4000000 in
set_option maxRecDepth 100000 in
theorem c_X1_note (l : Launch) (dC : Nat → ClassId) (dI : Nat → Nat → Nat) (ad : Nat → Nat) (cL cZ cI : ClassId) (S : SM) (ro hd : Nat → Int64) (sz : Nat) (q : Int32) (kd : Int32) (v : Int64) (hd9 : vp_in (m_dn S) 512) : Met l yX1_note wsX1_note ({ frames := 0, cells := 0, slots := 0, locals := 0 }) (va_Pc [.ref (ad 0), .int q, .int kd, .long v] (fun U => U.heap.size = sz ∧ va_P (dC, dI) vwCl (wM ad cL cZ cI S ro hd) U.heap ∧ va_K (dC, dI) vwCl (tyM cL cZ cI) U ∧ va_D (fun _ => True) (wM ad cL cZ cI S ro hd))) (va_Qi (fun r (u : SMr) => r = (M_note S q kd v).1 ∧ u.1 = (M_note S q kd v).2) (xB (dC, dI) (wMr ad cL cZ cI) (tyM cL cZ cI) (va_A (wM ad cL cZ cI S ro hd) sz)) (va_A (wM ad cL cZ cI S ro hd) sz)) 0 0 (va_A (wM ad cL cZ cI S ro hd) sz) := by
  refine Met.ofW (cc := cX1_note) (maxL := 5) (ret := (some .boolean)) (by decide) rfl ?_
  intro p e s m args below meth c s₁ B hml hv
  obtain ⟨rfl, hsz, hP, hK, hD0⟩ := hv
  have hx := B.exec
  have hb := B.bytes
  have hr := B.returns
  have hts := atoms_spec (ws := wsX1_note) B.pre
  have hown : s.vm.findClass RX1 = some m.cls := findClass_of_methodNamed B.named
  have hlocks := B.notSynchronized
  have hin : ∀ w ∈ wsX10, w ∈ wsX1_note := fun _ h => List.mem_cons_of_mem _ (List.mem_append_right _ h)
  subst hsz
  have hD := hD0.self (sz := s.heap.size)
  generalize hAe : va_A (wM ad cL cZ cI S ro hd) s.heap.size = A at hD ⊢
  have hA : ∀ q : Nat, s.heap.size ≤ q → A q := fun q h => by rw [← hAe]; exact Or.inr h
  have hS : va_S A s.heap s.heap [] := va_S.rf
  have hl := lv_entry ([.ref (ad 0), .int q, .int kd, .long v]) (n := 5) (Nat.le_of_ble_eq_true rfl)
  rw [lg_entry_eq]
  generalize (lg_sl ([.ref (ad 0), .int q, .int kd, .long v]) ++ List.replicate (5 - (lg_sl ([.ref (ad 0), .int q, .int kd, .long v])).length) Slot.unset).toArray = ls at hl ⊢
  have hl : lv_has ls 5 [(0, .ref (ad 0)), (1, .int q), (2, .int kd), (3, .long v)] := hl
  refine lv_iload_n hx hb dX1_note_0 rfl (lv_at hl 1 rfl) ?_
  refine lv_if_lt (tgt := 20) hx hb dX1_note_1 (by decide) (fun c1 => ?_) (fun c1 => ?_)
  · skip
    refine lv_iconst (v := 0) hx hb dX1_note_20 (by decide) ?_
    exact W.zret (v := (0 : Int32)) hx hb hr rfl (fun t ht hW => ⟨⟨_, (S, ro, hd), rfl, ⟨(by simp only [M_note, if_pos c1] <;> rfl), (by simp only [M_note, if_pos c1] <;> rfl)⟩, by rw [ht]; exact hP, va_K.moved hW.alike hK, hD⟩, hS.F ht⟩) hS.2.2 dX1_note_21
  · skip
    refine lv_iload_n hx hb dX1_note_4 rfl (lv_at hl 1 rfl) ?_
    refine lv_bipush (v := 7) hx hb dX1_note_5 (by decide) ?_
    refine lv_icmp_gt (tgt := 20) hx hb dX1_note_7 (by decide) (fun c7 => ?_) (fun c7 => ?_)
    · skip
      refine lv_iconst (v := 0) hx hb dX1_note_20 (by decide) ?_
      exact W.zret (v := (0 : Int32)) hx hb hr rfl (fun t ht hW => ⟨⟨_, (S, ro, hd), rfl, ⟨(by simp only [M_note, if_neg c1, if_pos c7] <;> rfl), (by simp only [M_note, if_neg c1, if_pos c7] <;> rfl)⟩, by rw [ht]; exact hP, va_K.moved hW.alike hK, hD⟩, hS.F ht⟩) hS.2.2 dX1_note_21
    · skip
      refine lv_iload_n hx hb dX1_note_10 rfl (lv_at hl 1 rfl) ?_
      refine lv_iconst (v := 2) hx hb dX1_note_11 (by decide) ?_
      refine lv_idiv hx hb dX1_note_12 (by decide) ?_
      refine lv_aload_n hx hb dX1_note_13 rfl (lv_at hl 0 rfl) ?_
      refine g_m_lo hx hb hts hin hown hK hP (hts (.fieldLink RX1 74 RX1 "locality" "I") (by decide +kernel)) dX1_note_14 ?_
      refine lv_icmp_le (tgt := 22) hx hb dX1_note_17 (by decide) (fun c17 => ?_) (fun c17 => ?_)
      · skip
        refine lv_aload_n hx hb dX1_note_22 rfl (lv_at hl 0 rfl) ?_
        refine g_m_awh hx hb hts hin hown hK hP (hts (.fieldLink RX1 7 RX1 "what" "[I") (by decide +kernel)) dX1_note_23 ?_
        refine lv_aload_n hx hb dX1_note_26 rfl (lv_at hl 0 rfl) ?_
        refine g_m_dn hx hb hts hin hown hK hP (hts (.fieldLink RX1 63 RX1 "done" "I") (by decide +kernel)) dX1_note_27 ?_
        refine lv_iload_n hx hb dX1_note_30 rfl (lv_at hl 2 rfl) ?_
        refine s_m_wh hx hb hK hP hD hS (xat_self hd9) dX1_note_31 (fun H locs hP hD hS => ?_)
        refine lv_aload_n hx hb dX1_note_32 rfl (lv_at hl 0 rfl) ?_
        refine g_m_awi hx hb hts hin hown hK hP (hts (.fieldLink RX1 13 RX1 "with" "[J") (by decide +kernel)) dX1_note_33 ?_
        refine lv_aload_n hx hb dX1_note_36 rfl (lv_at hl 0 rfl) ?_
        refine g_m_dn hx hb hts hin hown hK hP (hts (.fieldLink RX1 63 RX1 "done" "I") (by decide +kernel)) dX1_note_37 ?_
        refine lv_lload_n hx hb dX1_note_40 rfl (lv_at hl 3 rfl) ?_
        refine s_m_wi hx hb hK hP hD hS (xat_self hd9) dX1_note_41 (fun H locs hP hD hS => ?_)
        refine lv_aload_n hx hb dX1_note_42 rfl (lv_at hl 0 rfl) ?_
        refine lv_dup hx hb dX1_note_43 rfl ?_
        refine g_m_dn hx hb hts hin hown hK hP (hts (.fieldLink RX1 63 RX1 "done" "I") (by decide +kernel)) dX1_note_44 ?_
        refine lv_iconst (v := 1) hx hb dX1_note_47 (by decide) ?_
        refine lv_iadd hx hb dX1_note_48 ?_
        refine p_m_dn hx hb hts hin hown hK hP hD hS (hts (.fieldLink RX1 63 RX1 "done" "I") (by decide +kernel)) dX1_note_49 (fun H locs hP hD hS => ?_)
        refine lv_iconst (v := 1) hx hb dX1_note_52 (by decide) ?_
        exact W.zret (v := (1 : Int32)) hx hb hr rfl (fun t ht hW => ⟨⟨_, ((mu_dn (mu_wi (mu_wh S (upd (m_wh S) ((m_dn S).toNatClampNeg) kd)) (vp_updL (m_wi (mu_wh S (upd (m_wh S) ((m_dn S).toNatClampNeg) kd))) ((m_dn S).toNatClampNeg) v)) ((m_dn (mu_wi (mu_wh S (upd (m_wh S) ((m_dn S).toNatClampNeg) kd)) (vp_updL (m_wi (mu_wh S (upd (m_wh S) ((m_dn S).toNatClampNeg) kd))) ((m_dn S).toNatClampNeg) v))) + (1 : Int32))), ro, hd), rfl, ⟨(by simp only [M_note, if_neg c1, if_neg c7, if_pos c17] <;> rfl), (by simp only [M_note, if_neg c1, if_neg c7, if_pos c17] <;> rfl)⟩, by rw [ht]; exact hP, va_K.moved hW.alike hK, hD⟩, hS.F ht⟩) hS.2.2 dX1_note_53
      · skip
        refine lv_iconst (v := 0) hx hb dX1_note_20 (by decide) ?_
        exact W.zret (v := (0 : Int32)) hx hb hr rfl (fun t ht hW => ⟨⟨_, (S, ro, hd), rfl, ⟨(by simp only [M_note, if_neg c1, if_neg c7, if_neg c17] <;> rfl), (by simp only [M_note, if_neg c1, if_neg c7, if_neg c17] <;> rfl)⟩, by rw [ht]; exact hP, va_K.moved hW.alike hK, hD⟩, hS.F ht⟩) hS.2.2 dX1_note_21
set_option maxHeartbeats 4000000 in
set_option maxRecDepth 100000 in
theorem c_X1_extend (l : Launch) (dC : Nat → ClassId) (dI : Nat → Nat → Nat) (ad : Nat → Nat) (cL cZ cI : ClassId) (S : SM) (ro hd : Nat → Int64) (sz : Nat) (q : Int32) (v : Int64) (hd9 : vp_in (m_dn S) 512) : Met l yX1_extend wsX1_extend ({ frames := 1, cells := 0, slots := 0, locals := 24 }) (va_Pc [.ref (ad 0), .int q, .long v] (fun U => U.heap.size = sz ∧ va_P (dC, dI) vwCl (wM ad cL cZ cI S ro hd) U.heap ∧ va_K (dC, dI) vwCl (tyM cL cZ cI) U ∧ va_D (fun _ => True) (wM ad cL cZ cI S ro hd))) (va_Qi (fun r (u : SMr) => r = (M_extend S q v).1 ∧ u.1 = (M_extend S q v).2) (xB (dC, dI) (wMr ad cL cZ cI) (tyM cL cZ cI) (va_A (wM ad cL cZ cI S ro hd) sz)) (va_A (wM ad cL cZ cI S ro hd) sz)) 0 0 (va_A (wM ad cL cZ cI S ro hd) sz) := by
  refine Met.ofW (cc := cX1_extend) (maxL := 4) (ret := (some .boolean)) (by decide) rfl ?_
  intro p e s m args below meth c s₁ B hml hv
  obtain ⟨rfl, hsz, hP, hK, hD0⟩ := hv
  have hx := B.exec
  have hb := B.bytes
  have hr := B.returns
  have hts := atoms_spec (ws := wsX1_extend) B.pre
  have hown : s.vm.findClass RX1 = some m.cls := findClass_of_methodNamed B.named
  have hlocks := B.notSynchronized
  have hin : ∀ w ∈ wsX10, w ∈ wsX1_extend := fun _ h => List.mem_cons_of_mem _ (List.mem_append_right _ h)
  subst hsz
  have hD := hD0.self (sz := s.heap.size)
  generalize hAe : va_A (wM ad cL cZ cI S ro hd) s.heap.size = A at hD ⊢
  have hA : ∀ q : Nat, s.heap.size ≤ q → A q := fun q h => by rw [← hAe]; exact Or.inr h
  have hS : va_S A s.heap s.heap [] := va_S.rf
  have hl := lv_entry ([.ref (ad 0), .int q, .long v]) (n := 4) (Nat.le_of_ble_eq_true rfl)
  rw [lg_entry_eq]
  generalize (lg_sl ([.ref (ad 0), .int q, .long v]) ++ List.replicate (4 - (lg_sl ([.ref (ad 0), .int q, .long v])).length) Slot.unset).toArray = ls at hl ⊢
  have hl : lv_has ls 4 [(0, .ref (ad 0)), (1, .int q), (2, .long v)] := hl
  refine lv_aload_n hx hb dX1_extend_0 rfl (lv_at hl 0 rfl) ?_
  refine lv_iload_n hx hb dX1_extend_1 rfl (lv_at hl 1 rfl) ?_
  refine lv_iload_n hx hb dX1_extend_2 rfl (lv_at hl 1 rfl) ?_
  refine lv_lload_n hx hb dX1_extend_3 rfl (lv_at hl 2 rfl) ?_
  refine xcall_i (va_runV (As := [.int q, .int q, .long v]) (rest := []) ⟨hx, hb, hml, hown, hts⟩ (c_X1_note l dC dI ad cL cZ cI S ro hd s.heap.size q q v hd9 ) (cwV 3 hts gX1_extend_X1_note rfl rfl rfl (by decide +kernel) ⟨Nat.le_of_ble_eq_true rfl, Nat.le_of_ble_eq_true rfl⟩) (xpV_w [.int q, .int q, .long v] hK hP hD (va_recv hK hP (ci := 1) (q0 := 0) rfl rfl)) rfl rfl hl.1 rfl (lv_room (Nat.le_of_ble_eq_true rfl)) dX1_extend_4 ⟨Nat.le_of_ble_eq_true rfl, Nat.le_of_ble_eq_true rfl⟩) hD hS hA (fun r u H locs hw hP hD hS => ?_)
  obtain ⟨u1, rw1, hd1⟩ := u
  obtain ⟨rfl, hu1⟩ := hw
  change u1 = (M_note S q q v).2 at hu1
  change va_P _ vwCl (wM ad cL cZ cI u1 rw1 hd1) _ at hP
  change va_D _ (wM ad cL cZ cI u1 rw1 hd1) at hD
  rw [hu1] at hP hD
  exact W.zret (v := (M_note S q q v).1) hx hb hr (narB (M_note_01 _ _ _ _)) (fun t ht hW => ⟨⟨_, ((M_note S q q v).2, rw1, hd1), rfl, ⟨rfl, rfl⟩, by rw [ht]; exact hP, va_K.moved hW.alike hK, hD⟩, hS.F ht⟩) hS.2.2 dX1_extend_7
set_option maxHeartbeats 4000000 in
set_option maxRecDepth 100000 in
theorem c_X1_reset (l : Launch) (dC : Nat → ClassId) (dI : Nat → Nat → Nat) (ad : Nat → Nat) (cL cZ cI : ClassId) (S : SM) (ro hd : Nat → Int64) (sz : Nat) (q : Int32) (hd9 : vp_in (m_dn S) 512) : Met l yX1_reset wsX1_reset ({ frames := 1, cells := 0, slots := 0, locals := 24 }) (va_Pc [.ref (ad 0), .int q] (fun U => U.heap.size = sz ∧ va_P (dC, dI) vwCl (wM ad cL cZ cI S ro hd) U.heap ∧ va_K (dC, dI) vwCl (tyM cL cZ cI) U ∧ va_D (fun _ => True) (wM ad cL cZ cI S ro hd))) (va_Qi (fun r (u : SMr) => r = (M_reset S q).1 ∧ u.1 = (M_reset S q).2) (xB (dC, dI) (wMr ad cL cZ cI) (tyM cL cZ cI) (va_A (wM ad cL cZ cI S ro hd) sz)) (va_A (wM ad cL cZ cI S ro hd) sz)) 0 0 (va_A (wM ad cL cZ cI S ro hd) sz) := by
  refine Met.ofW (cc := cX1_reset) (maxL := 2) (ret := (some .boolean)) (by decide) rfl ?_
  intro p e s m args below meth c s₁ B hml hv
  obtain ⟨rfl, hsz, hP, hK, hD0⟩ := hv
  have hx := B.exec
  have hb := B.bytes
  have hr := B.returns
  have hts := atoms_spec (ws := wsX1_reset) B.pre
  have hown : s.vm.findClass RX1 = some m.cls := findClass_of_methodNamed B.named
  have hlocks := B.notSynchronized
  have hin : ∀ w ∈ wsX10, w ∈ wsX1_reset := fun _ h => List.mem_cons_of_mem _ (List.mem_append_right _ h)
  subst hsz
  have hD := hD0.self (sz := s.heap.size)
  generalize hAe : va_A (wM ad cL cZ cI S ro hd) s.heap.size = A at hD ⊢
  have hA : ∀ q : Nat, s.heap.size ≤ q → A q := fun q h => by rw [← hAe]; exact Or.inr h
  have hS : va_S A s.heap s.heap [] := va_S.rf
  have hl := lv_entry ([.ref (ad 0), .int q]) (n := 2) (Nat.le_of_ble_eq_true rfl)
  rw [lg_entry_eq]
  generalize (lg_sl ([.ref (ad 0), .int q]) ++ List.replicate (2 - (lg_sl ([.ref (ad 0), .int q])).length) Slot.unset).toArray = ls at hl ⊢
  have hl : lv_has ls 2 [(0, .ref (ad 0)), (1, .int q)] := hl
  refine lv_iload_n hx hb dX1_reset_0 rfl (lv_at hl 1 rfl) ?_
  refine lv_iconst (v := 4) hx hb dX1_reset_1 (by decide) ?_
  refine lv_icmp_lt (tgt := 28) hx hb dX1_reset_2 (by decide) (fun c2 => ?_) (fun c2 => ?_)
  · skip
    refine lv_iconst (v := 0) hx hb dX1_reset_28 (by decide) ?_
    exact W.zret (v := (0 : Int32)) hx hb hr rfl (fun t ht hW => ⟨⟨_, (S, ro, hd), rfl, ⟨(by simp only [M_reset, if_pos c2] <;> rfl), (by simp only [M_reset, if_pos c2] <;> rfl)⟩, by rw [ht]; exact hP, va_K.moved hW.alike hK, hD⟩, hS.F ht⟩) hS.2.2 dX1_reset_29
  · skip
    refine lv_iload_n hx hb dX1_reset_5 rfl (lv_at hl 1 rfl) ?_
    refine lv_bipush (v := 7) hx hb dX1_reset_6 (by decide) ?_
    refine lv_icmp_gt (tgt := 28) hx hb dX1_reset_8 (by decide) (fun c8 => ?_) (fun c8 => ?_)
    · skip
      refine lv_iconst (v := 0) hx hb dX1_reset_28 (by decide) ?_
      exact W.zret (v := (0 : Int32)) hx hb hr rfl (fun t ht hW => ⟨⟨_, (S, ro, hd), rfl, ⟨(by simp only [M_reset, if_neg c2, if_pos c8] <;> rfl), (by simp only [M_reset, if_neg c2, if_pos c8] <;> rfl)⟩, by rw [ht]; exact hP, va_K.moved hW.alike hK, hD⟩, hS.F ht⟩) hS.2.2 dX1_reset_29
    · skip
      refine lv_aload_n hx hb dX1_reset_11 rfl (lv_at hl 0 rfl) ?_
      refine lv_iload_n hx hb dX1_reset_12 rfl (lv_at hl 1 rfl) ?_
      refine lv_iload_n hx hb dX1_reset_13 rfl (lv_at hl 1 rfl) ?_
      refine lv_bipush (v := 8) hx hb dX1_reset_14 (by decide) ?_
      refine lv_iadd hx hb dX1_reset_16 ?_
      refine lv_lconst (v := 0) hx hb dX1_reset_17 (by decide) ?_
      refine xcall_i (va_runV (As := [.int q, .int (q + (8 : Int32)), .long (0 : Int64)]) (rest := []) ⟨hx, hb, hml, hown, hts⟩ (c_X1_note l dC dI ad cL cZ cI S ro hd s.heap.size q (q + (8 : Int32)) (0 : Int64) hd9 ) (cwV 3 hts gX1_reset_X1_note rfl rfl rfl (by decide +kernel) ⟨Nat.le_of_ble_eq_true rfl, Nat.le_of_ble_eq_true rfl⟩) (xpV_w [.int q, .int (q + (8 : Int32)), .long (0 : Int64)] hK hP hD (va_recv hK hP (ci := 1) (q0 := 0) rfl rfl)) rfl rfl hl.1 rfl (lv_room (Nat.le_of_ble_eq_true rfl)) dX1_reset_18 ⟨Nat.le_of_ble_eq_true rfl, Nat.le_of_ble_eq_true rfl⟩) hD hS hA (fun r u H locs hw hP hD hS => ?_)
      obtain ⟨u1, rw1, hd1⟩ := u
      obtain ⟨rfl, hu1⟩ := hw
      change u1 = (M_note S q (q + (8 : Int32)) (0 : Int64)).2 at hu1
      change va_P _ vwCl (wM ad cL cZ cI u1 rw1 hd1) _ at hP
      change va_D _ (wM ad cL cZ cI u1 rw1 hd1) at hD
      rw [hu1] at hP hD
      refine lv_if_eq (tgt := 28) hx hb dX1_reset_21 (by decide) (fun c21 => ?_) (fun c21 => ?_)
      · skip
        refine lv_iconst (v := 0) hx hb dX1_reset_28 (by decide) ?_
        exact W.zret (v := (0 : Int32)) hx hb hr rfl (fun t ht hW => ⟨⟨_, ((M_note S q (q + (8 : Int32)) (0 : Int64)).2, rw1, hd1), rfl, ⟨(by simp only [M_reset, if_neg c2, if_neg c8, if_pos c21] <;> rfl), (by simp only [M_reset, if_neg c2, if_neg c8, if_pos c21] <;> rfl)⟩, by rw [ht]; exact hP, va_K.moved hW.alike hK, hD⟩, hS.F ht⟩) hS.2.2 dX1_reset_29
      · skip
        refine lv_iconst (v := 1) hx hb dX1_reset_24 (by decide) ?_
        refine lv_goto (tgt := 29) hx hb dX1_reset_25 (by decide) ?_
        exact W.zret (v := (1 : Int32)) hx hb hr rfl (fun t ht hW => ⟨⟨_, ((M_note S q (q + (8 : Int32)) (0 : Int64)).2, rw1, hd1), rfl, ⟨(by simp only [M_reset, if_neg c2, if_neg c8, if_neg c21] <;> rfl), (by simp only [M_reset, if_neg c2, if_neg c8, if_neg c21] <;> rfl)⟩, by rw [ht]; exact hP, va_K.moved hW.alike hK, hD⟩, hS.F ht⟩) hS.2.2 dX1_reset_29
set_option maxHeartbeats 4000000 in
set_option maxRecDepth 100000 in
theorem c_X1_register (l : Launch) (dC : Nat → ClassId) (dI : Nat → Nat → Nat) (ad : Nat → Nat) (cL cZ cI : ClassId) (S : SM) (ro hd : Nat → Int64) (sz : Nat) (q : Int32) (hd9 : okD (m_dn S)) : Met l yX1_register wsX1_register ({ frames := 3, cells := 0, slots := 0, locals := 74 }) (va_Pc [.ref (ad 0), .int q] (fun U => U.heap.size = sz ∧ va_P (dC, dI) vwCl (wM ad cL cZ cI S ro hd) U.heap ∧ va_K (dC, dI) vwCl (tyM cL cZ cI) U ∧ va_D (fun _ => True) (wM ad cL cZ cI S ro hd))) (va_Ql (fun r (u : SMr) => r = M_register S q ∧ u.1 = S) (xB (dC, dI) (wMr ad cL cZ cI) (tyM cL cZ cI) (va_A (wM ad cL cZ cI S ro hd) sz)) (va_A (wM ad cL cZ cI S ro hd) sz)) 0 0 (va_A (wM ad cL cZ cI S ro hd) sz) := by
  refine Met.ofW (cc := cX1_register) (maxL := 2) (ret := (some .long)) (by decide) rfl ?_
  intro p e s m args below meth c s₁ B hml hv
  obtain ⟨rfl, hsz, hP, hK, hD0⟩ := hv
  have hx := B.exec
  have hb := B.bytes
  have hr := B.returns
  have hts := atoms_spec (ws := wsX1_register) B.pre
  have hown : s.vm.findClass RX1 = some m.cls := findClass_of_methodNamed B.named
  have hlocks := B.notSynchronized
  have hin : ∀ w ∈ wsX10, w ∈ wsX1_register := fun _ h => List.mem_cons_of_mem _ (List.mem_append_right _ h)
  subst hsz
  have hD := hD0.self (sz := s.heap.size)
  generalize hAe : va_A (wM ad cL cZ cI S ro hd) s.heap.size = A at hD ⊢
  have hA : ∀ q : Nat, s.heap.size ≤ q → A q := fun q h => by rw [← hAe]; exact Or.inr h
  have hS : va_S A s.heap s.heap [] := va_S.rf
  have hl := lv_entry ([.ref (ad 0), .int q]) (n := 2) (Nat.le_of_ble_eq_true rfl)
  rw [lg_entry_eq]
  generalize (lg_sl ([.ref (ad 0), .int q]) ++ List.replicate (2 - (lg_sl ([.ref (ad 0), .int q])).length) Slot.unset).toArray = ls at hl ⊢
  have hl : lv_has ls 2 [(0, .ref (ad 0)), (1, .int q)] := hl
  refine lv_iload_n hx hb dX1_register_0 rfl (lv_at hl 1 rfl) ?_
  refine lv_if_lt (tgt := 10) hx hb dX1_register_1 (by decide) (fun c1 => ?_) (fun c1 => ?_)
  · skip
    refine lv_lconst (v := 0) hx hb dX1_register_10 (by decide) ?_
    refine lv_goto (tgt := 19) hx hb dX1_register_11 (by decide) ?_
    exact W.lret (v := (0 : Int64)) hx hb hr (fun t ht hW => ⟨⟨_, (S, ro, hd), rfl, ⟨(by simp only [M_register, if_pos c1] <;> rfl), (by simp only [M_register, if_pos c1] <;> rfl)⟩, by rw [ht]; exact hP, va_K.moved hW.alike hK, hD⟩, hS.F ht⟩) hS.2.2 dX1_register_19
  · skip
    refine lv_iload_n hx hb dX1_register_4 rfl (lv_at hl 1 rfl) ?_
    refine lv_bipush (v := 7) hx hb dX1_register_5 (by decide) ?_
    refine lv_icmp_le (tgt := 14) hx hb dX1_register_7 (by decide) (fun c7 => ?_) (fun c7 => ?_)
    · skip
      refine lv_aload_n hx hb dX1_register_14 rfl (lv_at hl 0 rfl) ?_
      refine lv_iload_n hx hb dX1_register_15 rfl (lv_at hl 1 rfl) ?_
      refine xcall_l (va_runV (As := [.int q]) (rest := []) ⟨hx, hb, hml, hown, hts⟩ (c_X1_folded l dC dI ad cL cZ cI S ro hd s.heap.size q hd9 ) (cwV 1 hts gX1_register_X1_folded rfl rfl rfl (by decide +kernel) ⟨Nat.le_of_ble_eq_true rfl, Nat.le_of_ble_eq_true rfl⟩) (xpV_w [.int q] hK hP hD (va_recv hK hP (ci := 1) (q0 := 0) rfl rfl)) rfl rfl hl.1 rfl (lv_room (Nat.le_of_ble_eq_true rfl)) dX1_register_16 ⟨Nat.le_of_ble_eq_true rfl, Nat.le_of_ble_eq_true rfl⟩) hD hS hA (fun r u H locs hw hP hD hS => ?_)
      obtain ⟨u1, rw1, hd1⟩ := u
      obtain ⟨rfl, hu1, hh1⟩ := hw
      change hd1 = hd at hh1
      change u1 = S at hu1
      change va_P _ vwCl (wM ad cL cZ cI u1 rw1 hd1) _ at hP
      change va_D _ (wM ad cL cZ cI u1 rw1 hd1) at hD
      rw [hu1, hh1] at hP hD
      exact W.lret (v := (M_folded S q)) hx hb hr (fun t ht hW => ⟨⟨_, (S, rw1, hd), rfl, ⟨(by simp only [M_register, if_neg c1, if_pos c7] <;> rfl), (by simp only [M_register, if_neg c1, if_pos c7] <;> rfl)⟩, by rw [ht]; exact hP, va_K.moved hW.alike hK, hD⟩, hS.F ht⟩) hS.2.2 dX1_register_19
    · skip
      refine lv_lconst (v := 0) hx hb dX1_register_10 (by decide) ?_
      refine lv_goto (tgt := 19) hx hb dX1_register_11 (by decide) ?_
      exact W.lret (v := (0 : Int64)) hx hb hr (fun t ht hW => ⟨⟨_, (S, ro, hd), rfl, ⟨(by simp only [M_register, if_neg c1, if_neg c7] <;> rfl), (by simp only [M_register, if_neg c1, if_neg c7] <;> rfl)⟩, by rw [ht]; exact hP, va_K.moved hW.alike hK, hD⟩, hS.F ht⟩) hS.2.2 dX1_register_19
set_option maxHeartbeats 4000000 in
set_option maxRecDepth 100000 in
theorem c_X1_isMask (l : Launch)  (q : Int64) : Met l yX1_isMask wsX1_isMask ({ frames := 0, cells := 0, slots := 0, locals := 0 }) (va_Pc [.long q] (fun _ => True)) (vp_Si (fun r => r = M_isMask q)) 0 0 (fun _ => False) := by
  refine Met.ofW (cc := cX1_isMask) (maxL := 2) (ret := (some .boolean)) (by decide) rfl ?_
  intro p e s m args below meth c s₁ B hml hv
  obtain ⟨rfl, -⟩ := hv
  have hx := B.exec
  have hb := B.bytes
  have hr := B.returns
  have hts := atoms_spec (ws := wsX1_isMask) B.pre
  have hown : s.vm.findClass RX1 = some m.cls := findClass_of_methodNamed B.named
  have hlocks := B.notSynchronized
  have hl := lv_entry ([.long q]) (n := 2) (Nat.le_of_ble_eq_true rfl)
  rw [lg_entry_eq]
  generalize (lg_sl ([.long q]) ++ List.replicate (2 - (lg_sl ([.long q])).length) Slot.unset).toArray = ls at hl ⊢
  have hl : lv_has ls 2 [(0, .long q)] := hl
  refine lv_lload_n hx hb dX1_isMask_0 rfl (lv_at hl 0 rfl) ?_
  refine lv_lconst (v := 0) hx hb dX1_isMask_1 (by decide) ?_
  refine W.lcmp hx hb dX1_isMask_2 ?_
  refine lv_if_lt (tgt := 18) hx hb dX1_isMask_3 (by decide) (fun c3 => ?_) (fun c3 => ?_)
  · skip
    refine lv_iconst (v := 0) hx hb dX1_isMask_18 (by decide) ?_
    exact W.zret (v := (0 : Int32)) hx hb hr rfl (fun t ht hW => ⟨_, rfl, (by simp only [M_isMask, if_pos c3] <;> rfl), ht⟩) (fun _ h => by cases h) dX1_isMask_19
  · skip
    refine lv_lload_n hx hb dX1_isMask_6 rfl (lv_at hl 0 rfl) ?_
    refine lv_ldc2 (v := 255) hx hb hown (hts (.constantLong RX1 81 (255)) (by decide +kernel)) dX1_isMask_7 ?_
    refine W.lcmp hx hb dX1_isMask_10 ?_
    refine lv_if_gt (tgt := 18) hx hb dX1_isMask_11 (by decide) (fun c11 => ?_) (fun c11 => ?_)
    · skip
      refine lv_iconst (v := 0) hx hb dX1_isMask_18 (by decide) ?_
      exact W.zret (v := (0 : Int32)) hx hb hr rfl (fun t ht hW => ⟨_, rfl, (by simp only [M_isMask, if_neg c3, if_pos c11] <;> rfl), ht⟩) (fun _ h => by cases h) dX1_isMask_19
    · skip
      refine lv_iconst (v := 1) hx hb dX1_isMask_14 (by decide) ?_
      refine lv_goto (tgt := 19) hx hb dX1_isMask_15 (by decide) ?_
      exact W.zret (v := (1 : Int32)) hx hb hr rfl (fun t ht hW => ⟨_, rfl, (by simp only [M_isMask, if_neg c3, if_neg c11] <;> rfl), ht⟩) (fun _ h => by cases h) dX1_isMask_19
set_option maxHeartbeats 4000000 in
set_option maxRecDepth 100000 in
theorem c_X1_digest (l : Launch) (dC : Nat → ClassId) (dI : Nat → Nat → Nat) (ad : Nat → Nat) (cL cZ cI : ClassId) (S : SM) (ro hd : Nat → Int64) (sz : Nat) (mask : Int32) (hd9 : okD (m_dn S)) : Met l yX1_digest wsX1_digest ({ frames := 4, cells := 0, slots := 0, locals := 97 }) (va_Pc [.ref (ad 0), .int mask] (fun U => U.heap.size = sz ∧ va_P (dC, dI) vwCl (wM ad cL cZ cI S ro hd) U.heap ∧ va_K (dC, dI) vwCl (tyM cL cZ cI) U ∧ va_D (fun _ => True) (wM ad cL cZ cI S ro hd))) (va_Ql (fun r (u : SMr) => r = M_digest S mask ∧ u.1 = S) (xB (dC, dI) (wMr ad cL cZ cI) (tyM cL cZ cI) (va_A (wM ad cL cZ cI S ro hd) sz)) (va_A (wM ad cL cZ cI S ro hd) sz)) 0 0 (va_A (wM ad cL cZ cI S ro hd) sz) := by
  refine Met.ofW (cc := cX1_digest) (maxL := 2) (ret := (some .long)) (by decide) rfl ?_
  intro p e s m args below meth c s₁ B hml hv
  obtain ⟨rfl, hsz, hP, hK, hD0⟩ := hv
  have hx := B.exec
  have hb := B.bytes
  have hr := B.returns
  have hts := atoms_spec (ws := wsX1_digest) B.pre
  have hown : s.vm.findClass RX1 = some m.cls := findClass_of_methodNamed B.named
  have hlocks := B.notSynchronized
  have hin : ∀ w ∈ wsX10, w ∈ wsX1_digest := fun _ h => List.mem_cons_of_mem _ (List.mem_append_right _ h)
  subst hsz
  have hD := hD0.self (sz := s.heap.size)
  generalize hAe : va_A (wM ad cL cZ cI S ro hd) s.heap.size = A at hD ⊢
  have hA : ∀ q : Nat, s.heap.size ≤ q → A q := fun q h => by rw [← hAe]; exact Or.inr h
  have hS : va_S A s.heap s.heap [] := va_S.rf
  have hl := lv_entry ([.ref (ad 0), .int mask]) (n := 2) (Nat.le_of_ble_eq_true rfl)
  rw [lg_entry_eq]
  generalize (lg_sl ([.ref (ad 0), .int mask]) ++ List.replicate (2 - (lg_sl ([.ref (ad 0), .int mask])).length) Slot.unset).toArray = ls at hl ⊢
  have hl : lv_has ls 2 [(0, .ref (ad 0)), (1, .int mask)] := hl
  refine lv_iload_n hx hb dX1_digest_0 rfl (lv_at hl 1 rfl) ?_
  refine lv_i2l hx hb dX1_digest_1 rfl ?_
  refine vp_callSi (va_Run.run (va_runS (As := [.long mask.toInt64]) (rest := []) ⟨hx, hb, hml, hown, hts⟩ (c_X1_isMask l mask.toInt64 ) (va_cwS 1 hts gX1_digest_X1_isMask rfl rfl rfl (by decide +kernel) ⟨Nat.le_of_ble_eq_true rfl, Nat.le_of_ble_eq_true rfl⟩) (xpS_n _) rfl rfl hl.1 rfl (lv_room (Nat.le_of_ble_eq_true rfl)) dX1_digest_2 ⟨Nat.le_of_ble_eq_true rfl, Nat.le_of_ble_eq_true rfl⟩)) (fun r hr9 => ?_)
  subst hr9
  refine lv_if_eq (tgt := 16) hx hb dX1_digest_5 (by decide) (fun c5 => ?_) (fun c5 => ?_)
  · skip
    refine lv_lconst (v := 0) hx hb dX1_digest_16 (by decide) ?_
    exact W.lret (v := (0 : Int64)) hx hb hr (fun t ht hW => ⟨⟨_, (S, ro, hd), rfl, ⟨(by simp only [M_digest, if_pos c5] <;> rfl), (by simp only [M_digest, if_pos c5] <;> rfl)⟩, by rw [ht]; exact hP, va_K.moved hW.alike hK, hD⟩, hS.F ht⟩) hS.2.2 dX1_digest_17
  · skip
    refine lv_aload_n hx hb dX1_digest_8 rfl (lv_at hl 0 rfl) ?_
    refine lv_iload_n hx hb dX1_digest_9 rfl (lv_at hl 1 rfl) ?_
    refine xcall_l (va_runV (As := [.int mask]) (rest := []) ⟨hx, hb, hml, hown, hts⟩ (c_X1_digestOf l dC dI ad cL cZ cI S ro hd s.heap.size mask hd9 ) (cwV 1 hts gX1_digest_X1_digestOf rfl rfl rfl (by decide +kernel) ⟨Nat.le_of_ble_eq_true rfl, Nat.le_of_ble_eq_true rfl⟩) (xpV_w [.int mask] hK hP hD (va_recv hK hP (ci := 1) (q0 := 0) rfl rfl)) rfl rfl hl.1 rfl (lv_room (Nat.le_of_ble_eq_true rfl)) dX1_digest_10 ⟨Nat.le_of_ble_eq_true rfl, Nat.le_of_ble_eq_true rfl⟩) hD hS hA (fun r u H locs hw hP hD hS => ?_)
    obtain ⟨u1, rw1, hd1⟩ := u
    obtain ⟨rfl, hu1⟩ := hw
    change u1 = S at hu1
    change va_P _ vwCl (wM ad cL cZ cI u1 rw1 hd1) _ at hP
    change va_D _ (wM ad cL cZ cI u1 rw1 hd1) at hD
    rw [hu1] at hP hD
    refine lv_goto (tgt := 17) hx hb dX1_digest_13 (by decide) ?_
    exact W.lret (v := (M_digestOf S mask)) hx hb hr (fun t ht hW => ⟨⟨_, (S, rw1, hd1), rfl, ⟨(by simp only [M_digest, if_neg c5] <;> rfl), (by simp only [M_digest, if_neg c5] <;> rfl)⟩, by rw [ht]; exact hP, va_K.moved hW.alike hK, hD⟩, hS.F ht⟩) hS.2.2 dX1_digest_17
set_option maxHeartbeats 4000000 in
set_option maxRecDepth 100000 in
theorem c_X1_hasKey (l : Launch) (dC : Nat → ClassId) (dI : Nat → Nat → Nat) (ad : Nat → Nat) (cL cZ cI : ClassId) (S : SM) (ro hd : Nat → Int64) (q : Int32)  : Met l yX1_hasKey wsX1_hasKey ({ frames := 0, cells := 0, slots := 0, locals := 0 }) (va_Pc [.ref (ad 0), .int q] (fun U => va_P (dC, dI) vwCl (wM ad cL cZ cI S ro hd) U.heap ∧ va_K (dC, dI) vwCl (tyM cL cZ cI) U)) (vp_Si (fun r => r = M_hasKey S q)) 0 0 (fun _ => False) := by
  refine Met.ofW (cc := cX1_hasKey) (maxL := 2) (ret := (some .boolean)) (by decide) rfl ?_
  intro p e s m args below meth c s₁ B hml hv
  obtain ⟨rfl, hP, hK⟩ := hv
  have hx := B.exec
  have hb := B.bytes
  have hr := B.returns
  have hts := atoms_spec (ws := wsX1_hasKey) B.pre
  have hown : s.vm.findClass RX1 = some m.cls := findClass_of_methodNamed B.named
  have hlocks := B.notSynchronized
  have hin : ∀ w ∈ wsX10, w ∈ wsX1_hasKey := fun _ h => List.mem_cons_of_mem _ (List.mem_append_right _ h)
  have hl := lv_entry ([.ref (ad 0), .int q]) (n := 2) (Nat.le_of_ble_eq_true rfl)
  rw [lg_entry_eq]
  generalize (lg_sl ([.ref (ad 0), .int q]) ++ List.replicate (2 - (lg_sl ([.ref (ad 0), .int q])).length) Slot.unset).toArray = ls at hl ⊢
  have hl : lv_has ls 2 [(0, .ref (ad 0)), (1, .int q)] := hl
  refine lv_iload_n hx hb dX1_hasKey_0 rfl (lv_at hl 1 rfl) ?_
  refine lv_if_lt (tgt := 23) hx hb dX1_hasKey_1 (by decide) (fun c1 => ?_) (fun c1 => ?_)
  · skip
    refine lv_iconst (v := 0) hx hb dX1_hasKey_23 (by decide) ?_
    exact W.zret (v := (0 : Int32)) hx hb hr rfl (fun t ht hW => ⟨_, rfl, (by simp only [M_hasKey, if_pos c1] <;> rfl), ht⟩) (fun _ h => by cases h) dX1_hasKey_24
  · skip
    refine lv_iload_n hx hb dX1_hasKey_4 rfl (lv_at hl 1 rfl) ?_
    refine lv_bipush (v := 6) hx hb dX1_hasKey_5 (by decide) ?_
    refine lv_icmp_ge (tgt := 23) hx hb dX1_hasKey_7 (by decide) (fun c7 => ?_) (fun c7 => ?_)
    · skip
      refine lv_iconst (v := 0) hx hb dX1_hasKey_23 (by decide) ?_
      exact W.zret (v := (0 : Int32)) hx hb hr rfl (fun t ht hW => ⟨_, rfl, (by simp only [M_hasKey, if_neg c1, if_pos c7] <;> rfl), ht⟩) (fun _ h => by cases h) dX1_hasKey_24
    · skip
      have hq : vp_in q 6 := xin_of (M := 6) rfl (by decide) c1 c7
      refine lv_aload_n hx hb dX1_hasKey_10 rfl (lv_at hl 0 rfl) ?_
      refine g_m_akt hx hb hts hin hown hK hP (hts (.fieldLink RX1 17 RX1 "keyThere" "[Z") (by decide +kernel)) dX1_hasKey_11 ?_
      refine lv_iload_n hx hb dX1_hasKey_14 rfl (lv_at hl 1 rfl) ?_
      refine l_m_kt hx hb hK hP (xat_self hq) dX1_hasKey_15 ?_
      refine lv_if_eq (tgt := 23) hx hb dX1_hasKey_16 (by decide) (fun c16 => ?_) (fun c16 => ?_)
      · skip
        refine lv_iconst (v := 0) hx hb dX1_hasKey_23 (by decide) ?_
        exact W.zret (v := (0 : Int32)) hx hb hr rfl (fun t ht hW => ⟨_, rfl, (by simp only [M_hasKey, if_neg c1, if_neg c7, if_pos c16] <;> rfl), ht⟩) (fun _ h => by cases h) dX1_hasKey_24
      · skip
        refine lv_iconst (v := 1) hx hb dX1_hasKey_19 (by decide) ?_
        refine lv_goto (tgt := 24) hx hb dX1_hasKey_20 (by decide) ?_
        exact W.zret (v := (1 : Int32)) hx hb hr rfl (fun t ht hW => ⟨_, rfl, (by simp only [M_hasKey, if_neg c1, if_neg c7, if_neg c16] <;> rfl), ht⟩) (fun _ h => by cases h) dX1_hasKey_24
set_option maxHeartbeats 4000000 in
set_option maxRecDepth 100000 in
theorem c_X1_hasSession (l : Launch) (dC : Nat → ClassId) (dI : Nat → Nat → Nat) (ad : Nat → Nat) (cL cZ cI : ClassId) (S : SM) (ro hd : Nat → Int64) (q : Int32)  : Met l yX1_hasSession wsX1_hasSession ({ frames := 0, cells := 0, slots := 0, locals := 0 }) (va_Pc [.ref (ad 0), .int q] (fun U => va_P (dC, dI) vwCl (wM ad cL cZ cI S ro hd) U.heap ∧ va_K (dC, dI) vwCl (tyM cL cZ cI) U)) (vp_Si (fun r => r = M_hasSession S q)) 0 0 (fun _ => False) := by
  refine Met.ofW (cc := cX1_hasSession) (maxL := 2) (ret := (some .boolean)) (by decide) rfl ?_
  intro p e s m args below meth c s₁ B hml hv
  obtain ⟨rfl, hP, hK⟩ := hv
  have hx := B.exec
  have hb := B.bytes
  have hr := B.returns
  have hts := atoms_spec (ws := wsX1_hasSession) B.pre
  have hown : s.vm.findClass RX1 = some m.cls := findClass_of_methodNamed B.named
  have hlocks := B.notSynchronized
  have hin : ∀ w ∈ wsX10, w ∈ wsX1_hasSession := fun _ h => List.mem_cons_of_mem _ (List.mem_append_right _ h)
  have hl := lv_entry ([.ref (ad 0), .int q]) (n := 2) (Nat.le_of_ble_eq_true rfl)
  rw [lg_entry_eq]
  generalize (lg_sl ([.ref (ad 0), .int q]) ++ List.replicate (2 - (lg_sl ([.ref (ad 0), .int q])).length) Slot.unset).toArray = ls at hl ⊢
  have hl : lv_has ls 2 [(0, .ref (ad 0)), (1, .int q)] := hl
  refine lv_iload_n hx hb dX1_hasSession_0 rfl (lv_at hl 1 rfl) ?_
  refine lv_if_lt (tgt := 22) hx hb dX1_hasSession_1 (by decide) (fun c1 => ?_) (fun c1 => ?_)
  · skip
    refine lv_iconst (v := 0) hx hb dX1_hasSession_22 (by decide) ?_
    exact W.zret (v := (0 : Int32)) hx hb hr rfl (fun t ht hW => ⟨_, rfl, (by simp only [M_hasSession, if_pos c1] <;> rfl), ht⟩) (fun _ h => by cases h) dX1_hasSession_23
  · skip
    refine lv_iload_n hx hb dX1_hasSession_4 rfl (lv_at hl 1 rfl) ?_
    refine lv_iconst (v := 4) hx hb dX1_hasSession_5 (by decide) ?_
    refine lv_icmp_ge (tgt := 22) hx hb dX1_hasSession_6 (by decide) (fun c6 => ?_) (fun c6 => ?_)
    · skip
      refine lv_iconst (v := 0) hx hb dX1_hasSession_22 (by decide) ?_
      exact W.zret (v := (0 : Int32)) hx hb hr rfl (fun t ht hW => ⟨_, rfl, (by simp only [M_hasSession, if_neg c1, if_pos c6] <;> rfl), ht⟩) (fun _ h => by cases h) dX1_hasSession_23
    · skip
      have hq : vp_in q 4 := xin_of (M := 4) rfl (by decide) c1 c6
      refine lv_aload_n hx hb dX1_hasSession_9 rfl (lv_at hl 0 rfl) ?_
      refine g_m_ast hx hb hts hin hown hK hP (hts (.fieldLink RX1 27 RX1 "sessionThere" "[Z") (by decide +kernel)) dX1_hasSession_10 ?_
      refine lv_iload_n hx hb dX1_hasSession_13 rfl (lv_at hl 1 rfl) ?_
      refine l_m_st hx hb hK hP (xat_self hq) dX1_hasSession_14 ?_
      refine lv_if_eq (tgt := 22) hx hb dX1_hasSession_15 (by decide) (fun c15 => ?_) (fun c15 => ?_)
      · skip
        refine lv_iconst (v := 0) hx hb dX1_hasSession_22 (by decide) ?_
        exact W.zret (v := (0 : Int32)) hx hb hr rfl (fun t ht hW => ⟨_, rfl, (by simp only [M_hasSession, if_neg c1, if_neg c6, if_pos c15] <;> rfl), ht⟩) (fun _ h => by cases h) dX1_hasSession_23
      · skip
        refine lv_iconst (v := 1) hx hb dX1_hasSession_18 (by decide) ?_
        refine lv_goto (tgt := 23) hx hb dX1_hasSession_19 (by decide) ?_
        exact W.zret (v := (1 : Int32)) hx hb hr rfl (fun t ht hW => ⟨_, rfl, (by simp only [M_hasSession, if_neg c1, if_neg c6, if_neg c15] <;> rfl), ht⟩) (fun _ h => by cases h) dX1_hasSession_23
set_option maxHeartbeats 4000000 in
set_option maxRecDepth 100000 in
theorem c_X1_hasBlob (l : Launch) (dC : Nat → ClassId) (dI : Nat → Nat → Nat) (ad : Nat → Nat) (cL cZ cI : ClassId) (S : SM) (ro hd : Nat → Int64) (q : Int32)  : Met l yX1_hasBlob wsX1_hasBlob ({ frames := 0, cells := 0, slots := 0, locals := 0 }) (va_Pc [.ref (ad 0), .int q] (fun U => va_P (dC, dI) vwCl (wM ad cL cZ cI S ro hd) U.heap ∧ va_K (dC, dI) vwCl (tyM cL cZ cI) U)) (vp_Si (fun r => r = M_hasBlob S q)) 0 0 (fun _ => False) := by
  refine Met.ofW (cc := cX1_hasBlob) (maxL := 2) (ret := (some .boolean)) (by decide) rfl ?_
  intro p e s m args below meth c s₁ B hml hv
  obtain ⟨rfl, hP, hK⟩ := hv
  have hx := B.exec
  have hb := B.bytes
  have hr := B.returns
  have hts := atoms_spec (ws := wsX1_hasBlob) B.pre
  have hown : s.vm.findClass RX1 = some m.cls := findClass_of_methodNamed B.named
  have hlocks := B.notSynchronized
  have hin : ∀ w ∈ wsX10, w ∈ wsX1_hasBlob := fun _ h => List.mem_cons_of_mem _ (List.mem_append_right _ h)
  have hl := lv_entry ([.ref (ad 0), .int q]) (n := 2) (Nat.le_of_ble_eq_true rfl)
  rw [lg_entry_eq]
  generalize (lg_sl ([.ref (ad 0), .int q]) ++ List.replicate (2 - (lg_sl ([.ref (ad 0), .int q])).length) Slot.unset).toArray = ls at hl ⊢
  have hl : lv_has ls 2 [(0, .ref (ad 0)), (1, .int q)] := hl
  refine lv_iload_n hx hb dX1_hasBlob_0 rfl (lv_at hl 1 rfl) ?_
  refine lv_if_lt (tgt := 16) hx hb dX1_hasBlob_1 (by decide) (fun c1 => ?_) (fun c1 => ?_)
  · skip
    refine lv_iconst (v := 0) hx hb dX1_hasBlob_16 (by decide) ?_
    exact W.zret (v := (0 : Int32)) hx hb hr rfl (fun t ht hW => ⟨_, rfl, (by simp only [M_hasBlob, if_pos c1] <;> rfl), ht⟩) (fun _ h => by cases h) dX1_hasBlob_17
  · skip
    refine lv_iload_n hx hb dX1_hasBlob_4 rfl (lv_at hl 1 rfl) ?_
    refine lv_aload_n hx hb dX1_hasBlob_5 rfl (lv_at hl 0 rfl) ?_
    refine g_m_bc hx hb hts hin hown hK hP (hts (.fieldLink RX1 90 RX1 "blobs" "I") (by decide +kernel)) dX1_hasBlob_6 ?_
    refine lv_icmp_ge (tgt := 16) hx hb dX1_hasBlob_9 (by decide) (fun c9 => ?_) (fun c9 => ?_)
    · skip
      refine lv_iconst (v := 0) hx hb dX1_hasBlob_16 (by decide) ?_
      exact W.zret (v := (0 : Int32)) hx hb hr rfl (fun t ht hW => ⟨_, rfl, (by simp only [M_hasBlob, if_neg c1, if_pos c9] <;> rfl), ht⟩) (fun _ h => by cases h) dX1_hasBlob_17
    · skip
      refine lv_iconst (v := 1) hx hb dX1_hasBlob_12 (by decide) ?_
      refine lv_goto (tgt := 17) hx hb dX1_hasBlob_13 (by decide) ?_
      exact W.zret (v := (1 : Int32)) hx hb hr rfl (fun t ht hW => ⟨_, rfl, (by simp only [M_hasBlob, if_neg c1, if_neg c9] <;> rfl), ht⟩) (fun _ h => by cases h) dX1_hasBlob_17
set_option maxHeartbeats 4000000 in
set_option maxRecDepth 100000 in
theorem lp_X1_create_2 {p : Program} {l : Launch} {e : Env} {s : State} {m : MethodId} {args : Array Value} {below : List Frame} {meth : Method} {c : Code} {Q : State → Prop} {dC : Nat → ClassId} {dI : Nat → Nat → Nat} {ad : Nat → Nat} {cL cZ cI : ClassId} {S : SM} {ro hd : Nat → Int64} {A : Nat → Prop} {H0 : Heap} (se : Int64) (hx : p.tables.exec = Jvm.exec) (hb : c.code = cX1_create) (hml : c.maxLocals = 4) (hown : s.vm.findClass RX1 = some m.cls) (hts : ∀ w ∈ wsX1_create, w.before args s = true) (hK : va_K (dC, dI) vwCl (tyM cL cZ cI) s) (hA : ∀ q, H0.size ≤ q → A q)
    (kk : ∀ (H : Heap) (locs : List Loc) (K : Nat) (ls : Array Slot), K = lfK (m_kt S) 0 6 → va_P (dC, dI) vwCl (wM ad cL cZ cI S ro hd) H → va_D A (wM ad cL cZ cI S ro hd) → va_S A H0 H locs → lv_has ls 4 [(3, .int (nI K)), (0, .ref (ad 0)), (1, .long se)] → W p l e (headSpec wsX1_create ({ frames := 0, cells := 0, slots := 0, locals := 0 })).room s m args below meth c H locs 0 0 Q (F0 m 23 ls [])) :
    ∀ (n i : Nat) (H : Heap) (locs : List Loc) (ls : Array Slot), i ≤ 6 → 6 < i + n → lfK (m_kt S) i (6 - i) = lfK (m_kt S) 0 6 → va_P (dC, dI) vwCl (wM ad cL cZ cI S ro hd) H → va_D A (wM ad cL cZ cI S ro hd) → va_S A H0 H locs → lv_has ls 4 [(3, .int (nI i)), (0, .ref (ad 0)), (1, .long se)] → W p l e (headSpec wsX1_create ({ frames := 0, cells := 0, slots := 0, locals := 0 })).room s m args below meth c H locs 0 0 Q (F0 m 2 ls []) := by
  have hin : ∀ w ∈ wsX10, w ∈ wsX1_create := fun _ h => List.mem_cons_of_mem _ (List.mem_append_right _ h)
  intro n
  induction n with
  | zero =>
    intro i H locs ls hi hn9
    omega
  | succ n ih =>
    intro i H locs ls hi hn9 he hP hD hS hl
    refine lv_iload_n hx hb dX1_create_2 rfl (lv_at hl 0 rfl) ?_
    refine lv_bipush (v := 6) hx hb dX1_create_3 (by decide) ?_
    refine lv_icmp_ge (tgt := 23) hx hb dX1_create_5 (by decide) (fun c5 => ?_) (fun c5 => ?_)
    · skip
      have hi8 := xge (n := 6) (by decide) hi c5
      subst hi8
      exact kk _ _ _ ls he hP hD hS (lv_sub hl [0, 1, 2] rfl)
    · skip
      have hlt := xlt (n := 6) (by decide) hi c5
      refine lv_aload_n hx hb dX1_create_8 rfl (lv_at hl 1 rfl) ?_
      refine g_m_akt hx hb hts hin hown hK hP (hts (.fieldLink RX1 17 RX1 "keyThere" "[Z") (by decide +kernel)) dX1_create_9 ?_
      refine lv_iload_n hx hb dX1_create_12 rfl (lv_at hl 0 rfl) ?_
      refine l_m_kt hx hb hK hP (xat_nI hlt (by decide)) dX1_create_13 ?_
      refine lv_if_eq (tgt := 23) hx hb dX1_create_14 (by decide) (fun c14 => ?_) (fun c14 => ?_)
      · skip
        rw [lfK_hit hlt c14] at he
        exact kk _ _ _ ls he hP hD hS (lv_sub hl [0, 1, 2] rfl)
      · skip
        rw [lfK_miss hlt c14] at he
        refine lv_iinc (v := (nI (i + 1))) (lv' := [(3, .int (nI (i + 1))), (0, .ref (ad 0)), (1, .long se)]) hx hb dX1_create_17 hl (k := 0) rfl (nI_1 i) (by decide) rfl (fun ls hl => ?_)
        refine lv_goto (tgt := 2) hx hb dX1_create_20 (by decide) ?_
        exact ih (i + 1) _ _ ls (by omega) (by omega) he hP hD hS (lv_sub hl [0, 1, 2] rfl)
set_option maxHeartbeats 4000000 in
set_option maxRecDepth 100000 in
theorem c_X1_create (l : Launch) (dC : Nat → ClassId) (dI : Nat → Nat → Nat) (ad : Nat → Nat) (cL cZ cI : ClassId) (S : SM) (ro hd : Nat → Int64) (sz : Nat) (se : Int64)  : Met l yX1_create wsX1_create ({ frames := 0, cells := 0, slots := 0, locals := 0 }) (va_Pc [.ref (ad 0), .long se] (fun U => U.heap.size = sz ∧ va_P (dC, dI) vwCl (wM ad cL cZ cI S ro hd) U.heap ∧ va_K (dC, dI) vwCl (tyM cL cZ cI) U ∧ va_D (fun _ => True) (wM ad cL cZ cI S ro hd))) (va_Qi (fun r (u : SMr) => r = (M_create S se).1 ∧ u.1 = (M_create S se).2) (xB (dC, dI) (wMr ad cL cZ cI) (tyM cL cZ cI) (va_A (wM ad cL cZ cI S ro hd) sz)) (va_A (wM ad cL cZ cI S ro hd) sz)) 0 0 (va_A (wM ad cL cZ cI S ro hd) sz) := by
  refine Met.ofW (cc := cX1_create) (maxL := 4) (ret := (some .int)) (by decide) rfl ?_
  intro p e s m args below meth c s₁ B hml hv
  obtain ⟨rfl, hsz, hP, hK, hD0⟩ := hv
  have hx := B.exec
  have hb := B.bytes
  have hr := B.returns
  have hts := atoms_spec (ws := wsX1_create) B.pre
  have hown : s.vm.findClass RX1 = some m.cls := findClass_of_methodNamed B.named
  have hlocks := B.notSynchronized
  have hin : ∀ w ∈ wsX10, w ∈ wsX1_create := fun _ h => List.mem_cons_of_mem _ (List.mem_append_right _ h)
  subst hsz
  have hD := hD0.self (sz := s.heap.size)
  generalize hAe : va_A (wM ad cL cZ cI S ro hd) s.heap.size = A at hD ⊢
  have hA : ∀ q : Nat, s.heap.size ≤ q → A q := fun q h => by rw [← hAe]; exact Or.inr h
  have hS : va_S A s.heap s.heap [] := va_S.rf
  have hl := lv_entry ([.ref (ad 0), .long se]) (n := 4) (Nat.le_of_ble_eq_true rfl)
  rw [lg_entry_eq]
  generalize (lg_sl ([.ref (ad 0), .long se]) ++ List.replicate (4 - (lg_sl ([.ref (ad 0), .long se])).length) Slot.unset).toArray = ls at hl ⊢
  have hl : lv_has ls 4 [(0, .ref (ad 0)), (1, .long se)] := hl
  refine lv_iconst (v := 0) hx hb dX1_create_0 (by decide) ?_
  refine lv_istore_n (lv' := [(3, .int (0 : Int32)), (0, .ref (ad 0)), (1, .long se)]) hx hb dX1_create_1 rfl hl (by decide) rfl (fun ls hl => ?_)
  refine lp_X1_create_2 se hx hb hml hown hts hK hA (fun H locs K ls hKe hP hD hS hl => ?_) 7 0 _ _ ls (by decide) (by decide) rfl hP hD hS (lv_sub hl [0, 1, 2] rfl)
  subst hKe
  refine lv_iload_n hx hb dX1_create_23 rfl (lv_at hl 0 rfl) ?_
  refine lv_bipush (v := 6) hx hb dX1_create_24 (by decide) ?_
  refine lv_icmp_ne (tgt := 32) hx hb dX1_create_26 (by decide) (fun c26 => ?_) (fun c26 => ?_)
  · skip
    have hq := lfK_lt (n := 6) (by decide) c26
    refine lv_aload_n hx hb dX1_create_32 rfl (lv_at hl 1 rfl) ?_
    refine lv_dup hx hb dX1_create_33 rfl ?_
    refine g_m_dr hx hb hts hin hown hK hP (hts (.fieldLink RX1 93 RX1 "drawn" "J") (by decide +kernel)) dX1_create_34 ?_
    refine lv_lconst (v := 1) hx hb dX1_create_37 (by decide) ?_
    refine lv_ladd hx hb dX1_create_38 ?_
    refine p_m_dr hx hb hts hin hown hK hP hD hS (hts (.fieldLink RX1 93 RX1 "drawn" "J") (by decide +kernel)) dX1_create_39 (fun H locs hP hD hS => ?_)
    refine lv_aload_n hx hb dX1_create_42 rfl (lv_at hl 1 rfl) ?_
    refine g_m_akt hx hb hts hin hown hK hP (hts (.fieldLink RX1 17 RX1 "keyThere" "[Z") (by decide +kernel)) dX1_create_43 ?_
    refine lv_iload_n hx hb dX1_create_46 rfl (lv_at hl 0 rfl) ?_
    refine lv_iconst (v := 1) hx hb dX1_create_47 (by decide) ?_
    refine s_m_kt hx hb hK hP hD hS rfl (xat_nI hq (by decide)) dX1_create_48 (fun H locs hP hD hS => ?_)
    refine lv_aload_n hx hb dX1_create_49 rfl (lv_at hl 1 rfl) ?_
    refine g_m_aks hx hb hts hin hown hK hP (hts (.fieldLink RX1 21 RX1 "keySecret" "[J") (by decide +kernel)) dX1_create_50 ?_
    refine lv_iload_n hx hb dX1_create_53 rfl (lv_at hl 0 rfl) ?_
    refine lv_lload_n hx hb dX1_create_54 rfl (lv_at hl 2 rfl) ?_
    refine s_m_ks hx hb hK hP hD hS (xat_nI hq (by decide)) dX1_create_55 (fun H locs hP hD hS => ?_)
    refine lv_aload_n hx hb dX1_create_56 rfl (lv_at hl 1 rfl) ?_
    refine g_m_akd hx hb hts hin hown hK hP (hts (.fieldLink RX1 24 RX1 "keyDrawn" "[J") (by decide +kernel)) dX1_create_57 ?_
    refine lv_iload_n hx hb dX1_create_60 rfl (lv_at hl 0 rfl) ?_
    refine lv_aload_n hx hb dX1_create_61 rfl (lv_at hl 1 rfl) ?_
    refine g_m_dr hx hb hts hin hown hK hP (hts (.fieldLink RX1 93 RX1 "drawn" "J") (by decide +kernel)) dX1_create_62 ?_
    refine s_m_kd hx hb hK hP hD hS (xat_nI hq (by decide)) dX1_create_65 (fun H locs hP hD hS => ?_)
    have hP : va_P (dC, dI) vwCl (wM ad cL cZ cI (M_made S (lfK (m_kt S) 0 6) se) ro hd) H := hP
    have hD : va_D A (wM ad cL cZ cI (M_made S (lfK (m_kt S) 0 6) se) ro hd) := hD
    refine lv_iload_n hx hb dX1_create_66 rfl (lv_at hl 0 rfl) ?_
    exact W.iret (v := (nI (lfK (m_kt S) 0 6))) hx hb hr (fun t ht hW => ⟨⟨_, ((M_made S (lfK (m_kt S) 0 6) se), ro, hd), rfl, ⟨(by simp only [M_create, if_neg c26] <;> rfl), (by simp only [M_create, if_neg c26] <;> rfl)⟩, by rw [ht]; exact hP, va_K.moved hW.alike hK, hD⟩, hS.F ht⟩) hS.2.2 dX1_create_67
  · skip
    refine lv_bipush (v := -5) hx hb dX1_create_29 (by decide) ?_
    exact W.iret (v := (-5 : Int32)) hx hb hr (fun t ht hW => ⟨⟨_, (S, ro, hd), rfl, ⟨(by simp only [M_create, if_pos c26] <;> rfl), (by simp only [M_create, if_pos c26] <;> rfl)⟩, by rw [ht]; exact hP, va_K.moved hW.alike hK, hD⟩, hS.F ht⟩) hS.2.2 dX1_create_31
set_option maxHeartbeats 4000000 in
set_option maxRecDepth 100000 in
theorem lp_X1_begin_2 {p : Program} {l : Launch} {e : Env} {s : State} {m : MethodId} {args : Array Value} {below : List Frame} {meth : Method} {c : Code} {Q : State → Prop} {dC : Nat → ClassId} {dI : Nat → Nat → Nat} {ad : Nat → Nat} {cL cZ cI : ClassId} {S : SM} {ro hd : Nat → Int64} {A : Nat → Prop} {H0 : Heap} (no : Int64) (hx : p.tables.exec = Jvm.exec) (hb : c.code = cX1_begin) (hml : c.maxLocals = 4) (hown : s.vm.findClass RX1 = some m.cls) (hts : ∀ w ∈ wsX1_begin, w.before args s = true) (hK : va_K (dC, dI) vwCl (tyM cL cZ cI) s) (hA : ∀ q, H0.size ≤ q → A q)
    (kk : ∀ (H : Heap) (locs : List Loc) (K : Nat) (ls : Array Slot), K = lfK (m_st S) 0 4 → va_P (dC, dI) vwCl (wM ad cL cZ cI S ro hd) H → va_D A (wM ad cL cZ cI S ro hd) → va_S A H0 H locs → lv_has ls 4 [(3, .int (nI K)), (0, .ref (ad 0)), (1, .long no)] → W p l e (headSpec wsX1_begin ({ frames := 0, cells := 0, slots := 0, locals := 0 })).room s m args below meth c H locs 0 0 Q (F0 m 22 ls [])) :
    ∀ (n i : Nat) (H : Heap) (locs : List Loc) (ls : Array Slot), i ≤ 4 → 4 < i + n → lfK (m_st S) i (4 - i) = lfK (m_st S) 0 4 → va_P (dC, dI) vwCl (wM ad cL cZ cI S ro hd) H → va_D A (wM ad cL cZ cI S ro hd) → va_S A H0 H locs → lv_has ls 4 [(3, .int (nI i)), (0, .ref (ad 0)), (1, .long no)] → W p l e (headSpec wsX1_begin ({ frames := 0, cells := 0, slots := 0, locals := 0 })).room s m args below meth c H locs 0 0 Q (F0 m 2 ls []) := by
  have hin : ∀ w ∈ wsX10, w ∈ wsX1_begin := fun _ h => List.mem_cons_of_mem _ (List.mem_append_right _ h)
  intro n
  induction n with
  | zero =>
    intro i H locs ls hi hn9
    omega
  | succ n ih =>
    intro i H locs ls hi hn9 he hP hD hS hl
    refine lv_iload_n hx hb dX1_begin_2 rfl (lv_at hl 0 rfl) ?_
    refine lv_iconst (v := 4) hx hb dX1_begin_3 (by decide) ?_
    refine lv_icmp_ge (tgt := 22) hx hb dX1_begin_4 (by decide) (fun c4 => ?_) (fun c4 => ?_)
    · skip
      have hi8 := xge (n := 4) (by decide) hi c4
      subst hi8
      exact kk _ _ _ ls he hP hD hS (lv_sub hl [0, 1, 2] rfl)
    · skip
      have hlt := xlt (n := 4) (by decide) hi c4
      refine lv_aload_n hx hb dX1_begin_7 rfl (lv_at hl 1 rfl) ?_
      refine g_m_ast hx hb hts hin hown hK hP (hts (.fieldLink RX1 27 RX1 "sessionThere" "[Z") (by decide +kernel)) dX1_begin_8 ?_
      refine lv_iload_n hx hb dX1_begin_11 rfl (lv_at hl 0 rfl) ?_
      refine l_m_st hx hb hK hP (xat_nI hlt (by decide)) dX1_begin_12 ?_
      refine lv_if_eq (tgt := 22) hx hb dX1_begin_13 (by decide) (fun c13 => ?_) (fun c13 => ?_)
      · skip
        rw [lfK_hit hlt c13] at he
        exact kk _ _ _ ls he hP hD hS (lv_sub hl [0, 1, 2] rfl)
      · skip
        rw [lfK_miss hlt c13] at he
        refine lv_iinc (v := (nI (i + 1))) (lv' := [(3, .int (nI (i + 1))), (0, .ref (ad 0)), (1, .long no)]) hx hb dX1_begin_16 hl (k := 0) rfl (nI_1 i) (by decide) rfl (fun ls hl => ?_)
        refine lv_goto (tgt := 2) hx hb dX1_begin_19 (by decide) ?_
        exact ih (i + 1) _ _ ls (by omega) (by omega) he hP hD hS (lv_sub hl [0, 1, 2] rfl)
set_option maxHeartbeats 4000000 in
set_option maxRecDepth 100000 in
theorem c_X1_begin (l : Launch) (dC : Nat → ClassId) (dI : Nat → Nat → Nat) (ad : Nat → Nat) (cL cZ cI : ClassId) (S : SM) (ro hd : Nat → Int64) (sz : Nat) (no : Int64)  : Met l yX1_begin wsX1_begin ({ frames := 0, cells := 0, slots := 0, locals := 0 }) (va_Pc [.ref (ad 0), .long no] (fun U => U.heap.size = sz ∧ va_P (dC, dI) vwCl (wM ad cL cZ cI S ro hd) U.heap ∧ va_K (dC, dI) vwCl (tyM cL cZ cI) U ∧ va_D (fun _ => True) (wM ad cL cZ cI S ro hd))) (va_Qi (fun r (u : SMr) => r = (M_begin S no).1 ∧ u.1 = (M_begin S no).2) (xB (dC, dI) (wMr ad cL cZ cI) (tyM cL cZ cI) (va_A (wM ad cL cZ cI S ro hd) sz)) (va_A (wM ad cL cZ cI S ro hd) sz)) 0 0 (va_A (wM ad cL cZ cI S ro hd) sz) := by
  refine Met.ofW (cc := cX1_begin) (maxL := 4) (ret := (some .int)) (by decide) rfl ?_
  intro p e s m args below meth c s₁ B hml hv
  obtain ⟨rfl, hsz, hP, hK, hD0⟩ := hv
  have hx := B.exec
  have hb := B.bytes
  have hr := B.returns
  have hts := atoms_spec (ws := wsX1_begin) B.pre
  have hown : s.vm.findClass RX1 = some m.cls := findClass_of_methodNamed B.named
  have hlocks := B.notSynchronized
  have hin : ∀ w ∈ wsX10, w ∈ wsX1_begin := fun _ h => List.mem_cons_of_mem _ (List.mem_append_right _ h)
  subst hsz
  have hD := hD0.self (sz := s.heap.size)
  generalize hAe : va_A (wM ad cL cZ cI S ro hd) s.heap.size = A at hD ⊢
  have hA : ∀ q : Nat, s.heap.size ≤ q → A q := fun q h => by rw [← hAe]; exact Or.inr h
  have hS : va_S A s.heap s.heap [] := va_S.rf
  have hl := lv_entry ([.ref (ad 0), .long no]) (n := 4) (Nat.le_of_ble_eq_true rfl)
  rw [lg_entry_eq]
  generalize (lg_sl ([.ref (ad 0), .long no]) ++ List.replicate (4 - (lg_sl ([.ref (ad 0), .long no])).length) Slot.unset).toArray = ls at hl ⊢
  have hl : lv_has ls 4 [(0, .ref (ad 0)), (1, .long no)] := hl
  refine lv_iconst (v := 0) hx hb dX1_begin_0 (by decide) ?_
  refine lv_istore_n (lv' := [(3, .int (0 : Int32)), (0, .ref (ad 0)), (1, .long no)]) hx hb dX1_begin_1 rfl hl (by decide) rfl (fun ls hl => ?_)
  refine lp_X1_begin_2 no hx hb hml hown hts hK hA (fun H locs K ls hKe hP hD hS hl => ?_) 5 0 _ _ ls (by decide) (by decide) rfl hP hD hS (lv_sub hl [0, 1, 2] rfl)
  subst hKe
  refine lv_iload_n hx hb dX1_begin_22 rfl (lv_at hl 0 rfl) ?_
  refine lv_iconst (v := 4) hx hb dX1_begin_23 (by decide) ?_
  refine lv_icmp_ne (tgt := 30) hx hb dX1_begin_24 (by decide) (fun c24 => ?_) (fun c24 => ?_)
  · skip
    have hq := lfK_lt (n := 4) (by decide) c24
    refine lv_aload_n hx hb dX1_begin_30 rfl (lv_at hl 1 rfl) ?_
    refine lv_dup hx hb dX1_begin_31 rfl ?_
    refine g_m_dr hx hb hts hin hown hK hP (hts (.fieldLink RX1 93 RX1 "drawn" "J") (by decide +kernel)) dX1_begin_32 ?_
    refine lv_lconst (v := 1) hx hb dX1_begin_35 (by decide) ?_
    refine lv_ladd hx hb dX1_begin_36 ?_
    refine p_m_dr hx hb hts hin hown hK hP hD hS (hts (.fieldLink RX1 93 RX1 "drawn" "J") (by decide +kernel)) dX1_begin_37 (fun H locs hP hD hS => ?_)
    refine lv_aload_n hx hb dX1_begin_40 rfl (lv_at hl 1 rfl) ?_
    refine g_m_ast hx hb hts hin hown hK hP (hts (.fieldLink RX1 27 RX1 "sessionThere" "[Z") (by decide +kernel)) dX1_begin_41 ?_
    refine lv_iload_n hx hb dX1_begin_44 rfl (lv_at hl 0 rfl) ?_
    refine lv_iconst (v := 1) hx hb dX1_begin_45 (by decide) ?_
    refine s_m_st hx hb hK hP hD hS rfl (xat_nI hq (by decide)) dX1_begin_46 (fun H locs hP hD hS => ?_)
    refine lv_aload_n hx hb dX1_begin_47 rfl (lv_at hl 1 rfl) ?_
    refine g_m_acn hx hb hts hin hown hK hP (hts (.fieldLink RX1 30 RX1 "caller" "[J") (by decide +kernel)) dX1_begin_48 ?_
    refine lv_iload_n hx hb dX1_begin_51 rfl (lv_at hl 0 rfl) ?_
    refine lv_lload_n hx hb dX1_begin_52 rfl (lv_at hl 2 rfl) ?_
    refine s_m_cn hx hb hK hP hD hS (xat_nI hq (by decide)) dX1_begin_53 (fun H locs hP hD hS => ?_)
    refine lv_aload_n hx hb dX1_begin_54 rfl (lv_at hl 1 rfl) ?_
    refine g_m_asd hx hb hts hin hown hK hP (hts (.fieldLink RX1 33 RX1 "sessionDrawn" "[J") (by decide +kernel)) dX1_begin_55 ?_
    refine lv_iload_n hx hb dX1_begin_58 rfl (lv_at hl 0 rfl) ?_
    refine lv_aload_n hx hb dX1_begin_59 rfl (lv_at hl 1 rfl) ?_
    refine g_m_dr hx hb hts hin hown hK hP (hts (.fieldLink RX1 93 RX1 "drawn" "J") (by decide +kernel)) dX1_begin_60 ?_
    refine s_m_sd hx hb hK hP hD hS (xat_nI hq (by decide)) dX1_begin_63 (fun H locs hP hD hS => ?_)
    have hP : va_P (dC, dI) vwCl (wM ad cL cZ cI (M_begun S (lfK (m_st S) 0 4) no) ro hd) H := hP
    have hD : va_D A (wM ad cL cZ cI (M_begun S (lfK (m_st S) 0 4) no) ro hd) := hD
    refine lv_iload_n hx hb dX1_begin_64 rfl (lv_at hl 0 rfl) ?_
    exact W.iret (v := (nI (lfK (m_st S) 0 4))) hx hb hr (fun t ht hW => ⟨⟨_, ((M_begun S (lfK (m_st S) 0 4) no), ro, hd), rfl, ⟨(by simp only [M_begin, if_neg c24] <;> rfl), (by simp only [M_begin, if_neg c24] <;> rfl)⟩, by rw [ht]; exact hP, va_K.moved hW.alike hK, hD⟩, hS.F ht⟩) hS.2.2 dX1_begin_65
  · skip
    refine lv_bipush (v := -5) hx hb dX1_begin_27 (by decide) ?_
    exact W.iret (v := (-5 : Int32)) hx hb hr (fun t ht hW => ⟨⟨_, (S, ro, hd), rfl, ⟨(by simp only [M_begin, if_pos c24] <;> rfl), (by simp only [M_begin, if_pos c24] <;> rfl)⟩, by rw [ht]; exact hP, va_K.moved hW.alike hK, hD⟩, hS.F ht⟩) hS.2.2 dX1_begin_29
set_option maxHeartbeats 4000000 in
set_option maxRecDepth 100000 in
theorem c_X1_destroy (l : Launch) (dC : Nat → ClassId) (dI : Nat → Nat → Nat) (ad : Nat → Nat) (cL cZ cI : ClassId) (S : SM) (ro hd : Nat → Int64) (sz : Nat) (q : Int32)  : Met l yX1_destroy wsX1_destroy ({ frames := 1, cells := 0, slots := 0, locals := 21 }) (va_Pc [.ref (ad 0), .int q] (fun U => U.heap.size = sz ∧ va_P (dC, dI) vwCl (wM ad cL cZ cI S ro hd) U.heap ∧ va_K (dC, dI) vwCl (tyM cL cZ cI) U ∧ va_D (fun _ => True) (wM ad cL cZ cI S ro hd))) (va_Qi (fun r (u : SMr) => r = (M_destroy S q).1 ∧ u.1 = (M_destroy S q).2) (xB (dC, dI) (wMr ad cL cZ cI) (tyM cL cZ cI) (va_A (wM ad cL cZ cI S ro hd) sz)) (va_A (wM ad cL cZ cI S ro hd) sz)) 0 0 (va_A (wM ad cL cZ cI S ro hd) sz) := by
  refine Met.ofW (cc := cX1_destroy) (maxL := 2) (ret := (some .boolean)) (by decide) rfl ?_
  intro p e s m args below meth c s₁ B hml hv
  obtain ⟨rfl, hsz, hP, hK, hD0⟩ := hv
  have hx := B.exec
  have hb := B.bytes
  have hr := B.returns
  have hts := atoms_spec (ws := wsX1_destroy) B.pre
  have hown : s.vm.findClass RX1 = some m.cls := findClass_of_methodNamed B.named
  have hlocks := B.notSynchronized
  have hin : ∀ w ∈ wsX10, w ∈ wsX1_destroy := fun _ h => List.mem_cons_of_mem _ (List.mem_append_right _ h)
  subst hsz
  have hD := hD0.self (sz := s.heap.size)
  generalize hAe : va_A (wM ad cL cZ cI S ro hd) s.heap.size = A at hD ⊢
  have hA : ∀ q : Nat, s.heap.size ≤ q → A q := fun q h => by rw [← hAe]; exact Or.inr h
  have hS : va_S A s.heap s.heap [] := va_S.rf
  have hl := lv_entry ([.ref (ad 0), .int q]) (n := 2) (Nat.le_of_ble_eq_true rfl)
  rw [lg_entry_eq]
  generalize (lg_sl ([.ref (ad 0), .int q]) ++ List.replicate (2 - (lg_sl ([.ref (ad 0), .int q])).length) Slot.unset).toArray = ls at hl ⊢
  have hl : lv_has ls 2 [(0, .ref (ad 0)), (1, .int q)] := hl
  refine lv_aload_n hx hb dX1_destroy_0 rfl (lv_at hl 0 rfl) ?_
  refine lv_iload_n hx hb dX1_destroy_1 rfl (lv_at hl 1 rfl) ?_
  refine vp_callSi (va_Run.run (va_runV (As := [.int q]) (rest := []) ⟨hx, hb, hml, hown, hts⟩ (c_X1_hasKey l dC dI ad cL cZ cI S ro hd q ) (cwV 1 hts gX1_destroy_X1_hasKey rfl rfl rfl (by decide +kernel) ⟨Nat.le_of_ble_eq_true rfl, Nat.le_of_ble_eq_true rfl⟩) (xpV_r [.int q] hK hP (va_recv hK hP (ci := 1) (q0 := 0) rfl rfl)) rfl rfl hl.1 rfl (lv_room (Nat.le_of_ble_eq_true rfl)) dX1_destroy_2 ⟨Nat.le_of_ble_eq_true rfl, Nat.le_of_ble_eq_true rfl⟩)) (fun r hr9 => ?_)
  subst hr9
  refine lv_if_ne (tgt := 10) hx hb dX1_destroy_5 (by decide) (fun c5 => ?_) (fun c5 => ?_)
  · skip
    have hq := M_hasKey_in c5
    refine lv_aload_n hx hb dX1_destroy_10 rfl (lv_at hl 0 rfl) ?_
    refine g_m_akt hx hb hts hin hown hK hP (hts (.fieldLink RX1 17 RX1 "keyThere" "[Z") (by decide +kernel)) dX1_destroy_11 ?_
    refine lv_iload_n hx hb dX1_destroy_14 rfl (lv_at hl 1 rfl) ?_
    refine lv_iconst (v := 0) hx hb dX1_destroy_15 (by decide) ?_
    refine s_m_kt hx hb hK hP hD hS rfl (xat_self hq) dX1_destroy_16 (fun H locs hP hD hS => ?_)
    refine lv_iconst (v := 1) hx hb dX1_destroy_17 (by decide) ?_
    exact W.zret (v := (1 : Int32)) hx hb hr rfl (fun t ht hW => ⟨⟨_, ((mu_kt S (upd (m_kt S) q.toNatClampNeg (0 : Int32))), ro, hd), rfl, ⟨(by simp only [M_destroy, if_neg c5] <;> rfl), (by simp only [M_destroy, if_neg c5] <;> rfl)⟩, by rw [ht]; exact hP, va_K.moved hW.alike hK, hD⟩, hS.F ht⟩) hS.2.2 dX1_destroy_18
  · skip
    refine lv_iconst (v := 0) hx hb dX1_destroy_8 (by decide) ?_
    exact W.zret (v := (0 : Int32)) hx hb hr rfl (fun t ht hW => ⟨⟨_, (S, ro, hd), rfl, ⟨(by simp only [M_destroy, if_pos c5] <;> rfl), (by simp only [M_destroy, if_pos c5] <;> rfl)⟩, by rw [ht]; exact hP, va_K.moved hW.alike hK, hD⟩, hS.F ht⟩) hS.2.2 dX1_destroy_9
set_option maxHeartbeats 4000000 in
set_option maxRecDepth 100000 in
theorem c_X1_nameOf (l : Launch) (dC : Nat → ClassId) (dI : Nat → Nat → Nat) (ad : Nat → Nat) (cL cZ cI : ClassId) (S : SM) (ro hd : Nat → Int64) (sz : Nat) (q : Int32) (hq : vp_in q 6) : Met l yX1_nameOf wsX1_nameOf ({ frames := 3, cells := 0, slots := 0, locals := 72 }) (va_Pc [.ref (ad 0), .int q] (fun U => U.heap.size = sz ∧ va_P (dC, dI) vwCl (wM ad cL cZ cI S ro hd) U.heap ∧ va_K (dC, dI) vwCl (tyM cL cZ cI) U ∧ va_D (fun _ => True) (wM ad cL cZ cI S ro hd))) (va_Ql (fun r (u : SMr) => r = M_nameOf S q ∧ u.1 = S) (xB (dC, dI) (wMr ad cL cZ cI) (tyM cL cZ cI) (va_A (wM ad cL cZ cI S ro hd) sz)) (va_A (wM ad cL cZ cI S ro hd) sz)) 0 0 (va_A (wM ad cL cZ cI S ro hd) sz) := by
  refine Met.ofW (cc := cX1_nameOf) (maxL := 4) (ret := (some .long)) (by decide) rfl ?_
  intro p e s m args below meth c s₁ B hml hv
  obtain ⟨rfl, hsz, hP, hK, hD0⟩ := hv
  have hx := B.exec
  have hb := B.bytes
  have hr := B.returns
  have hts := atoms_spec (ws := wsX1_nameOf) B.pre
  have hown : s.vm.findClass RX1 = some m.cls := findClass_of_methodNamed B.named
  have hlocks := B.notSynchronized
  have hin : ∀ w ∈ wsX10, w ∈ wsX1_nameOf := fun _ h => List.mem_cons_of_mem _ (List.mem_append_right _ h)
  subst hsz
  have hD := hD0.self (sz := s.heap.size)
  generalize hAe : va_A (wM ad cL cZ cI S ro hd) s.heap.size = A at hD ⊢
  have hA : ∀ q : Nat, s.heap.size ≤ q → A q := fun q h => by rw [← hAe]; exact Or.inr h
  have hS : va_S A s.heap s.heap [] := va_S.rf
  have hl := lv_entry ([.ref (ad 0), .int q]) (n := 4) (Nat.le_of_ble_eq_true rfl)
  rw [lg_entry_eq]
  generalize (lg_sl ([.ref (ad 0), .int q]) ++ List.replicate (4 - (lg_sl ([.ref (ad 0), .int q])).length) Slot.unset).toArray = ls at hl ⊢
  have hl : lv_has ls 4 [(0, .ref (ad 0)), (1, .int q)] := hl
  refine lv_aload_n hx hb dX1_nameOf_0 rfl (lv_at hl 0 rfl) ?_
  refine lv_aload_n hx hb dX1_nameOf_1 rfl (lv_at hl 0 rfl) ?_
  refine g_m_akd hx hb hts hin hown hK hP (hts (.fieldLink RX1 24 RX1 "keyDrawn" "[J") (by decide +kernel)) dX1_nameOf_2 ?_
  refine lv_iload_n hx hb dX1_nameOf_5 rfl (lv_at hl 1 rfl) ?_
  refine l_m_kd hx hb hK hP (xat_self hq) dX1_nameOf_6 ?_
  refine xcall_l (va_runV (As := [.long (m_kd S q.toNatClampNeg)]) (rest := []) ⟨hx, hb, hml, hown, hts⟩ (c_X1_word l dC dI ad cL cZ cI S ro hd s.heap.size (m_kd S q.toNatClampNeg) ) (cwV 1 hts gX1_nameOf_X1_word rfl rfl rfl (by decide +kernel) ⟨Nat.le_of_ble_eq_true rfl, Nat.le_of_ble_eq_true rfl⟩) (xpV_w [.long (m_kd S q.toNatClampNeg)] hK hP hD (va_recv hK hP (ci := 1) (q0 := 0) rfl rfl)) rfl rfl hl.1 rfl (lv_room (Nat.le_of_ble_eq_true rfl)) dX1_nameOf_7 ⟨Nat.le_of_ble_eq_true rfl, Nat.le_of_ble_eq_true rfl⟩) hD hS hA (fun r u H locs hw hP hD hS => ?_)
  obtain ⟨u1, rw1, hd1⟩ := u
  obtain ⟨rfl, hu1⟩ := hw
  change u1 = S at hu1
  change va_P _ vwCl (wM ad cL cZ cI u1 rw1 hd1) _ at hP
  change va_D _ (wM ad cL cZ cI u1 rw1 hd1) at hD
  rw [hu1] at hP hD
  refine lv_lstore_n (lv' := [(2, .long (M_word S (m_kd S q.toNatClampNeg))), (0, .ref (ad 0)), (1, .int q)]) hx hb dX1_nameOf_10 rfl hl (by decide) rfl (fun ls hl => ?_)
  refine lv_aload_n hx hb dX1_nameOf_11 rfl (lv_at hl 1 rfl) ?_
  refine lv_aload_n hx hb dX1_nameOf_12 rfl (lv_at hl 1 rfl) ?_
  refine g_m_aks hx hb hts hin hown hK hP (hts (.fieldLink RX1 21 RX1 "keySecret" "[J") (by decide +kernel)) dX1_nameOf_13 ?_
  refine lv_iload_n hx hb dX1_nameOf_16 rfl (lv_at hl 2 rfl) ?_
  refine l_m_ks hx hb hK hP (xat_self hq) dX1_nameOf_17 ?_
  refine lv_lload_n hx hb dX1_nameOf_18 rfl (lv_at hl 0 rfl) ?_
  refine xcall_l (va_runV (As := [.long (m_ks S q.toNatClampNeg), .long (M_word S (m_kd S q.toNatClampNeg))]) (rest := []) ⟨hx, hb, hml, hown, hts⟩ (c_X1_two l dC dI ad cL cZ cI S rw1 hd1 H.size (m_ks S q.toNatClampNeg) (M_word S (m_kd S q.toNatClampNeg)) ) (cwV 2 hts gX1_nameOf_X1_two rfl rfl rfl (by decide +kernel) ⟨Nat.le_of_ble_eq_true rfl, Nat.le_of_ble_eq_true rfl⟩) (xpV_w [.long (m_ks S q.toNatClampNeg), .long (M_word S (m_kd S q.toNatClampNeg))] hK hP hD (va_recv hK hP (ci := 1) (q0 := 0) rfl rfl)) rfl rfl hl.1 rfl (lv_room (Nat.le_of_ble_eq_true rfl)) dX1_nameOf_19 ⟨Nat.le_of_ble_eq_true rfl, Nat.le_of_ble_eq_true rfl⟩) hD hS hA (fun r u H locs hw hP hD hS => ?_)
  obtain ⟨u2, rw2, hd2⟩ := u
  obtain ⟨rfl, hu2, hh2⟩ := hw
  change hd2 = hd1 at hh2
  change u2 = S at hu2
  change va_P _ vwCl (wM ad cL cZ cI u2 rw2 hd2) _ at hP
  change va_D _ (wM ad cL cZ cI u2 rw2 hd2) at hD
  rw [hu2, hh2] at hP hD
  exact W.lret (v := (h2 (m_ks S q.toNatClampNeg) (M_word S (m_kd S q.toNatClampNeg)))) hx hb hr (fun t ht hW => ⟨⟨_, (S, rw2, hd1), rfl, ⟨rfl, rfl⟩, by rw [ht]; exact hP, va_K.moved hW.alike hK, hD⟩, hS.F ht⟩) hS.2.2 dX1_nameOf_22
set_option maxHeartbeats 4000000 in
set_option maxRecDepth 100000 in
theorem c_X1_name (l : Launch) (dC : Nat → ClassId) (dI : Nat → Nat → Nat) (ad : Nat → Nat) (cL cZ cI : ClassId) (S : SM) (ro hd : Nat → Int64) (sz : Nat) (q : Int32)  : Met l yX1_name wsX1_name ({ frames := 4, cells := 0, slots := 0, locals := 95 }) (va_Pc [.ref (ad 0), .int q] (fun U => U.heap.size = sz ∧ va_P (dC, dI) vwCl (wM ad cL cZ cI S ro hd) U.heap ∧ va_K (dC, dI) vwCl (tyM cL cZ cI) U ∧ va_D (fun _ => True) (wM ad cL cZ cI S ro hd))) (va_Ql (fun r (u : SMr) => r = M_name S q ∧ u.1 = S) (xB (dC, dI) (wMr ad cL cZ cI) (tyM cL cZ cI) (va_A (wM ad cL cZ cI S ro hd) sz)) (va_A (wM ad cL cZ cI S ro hd) sz)) 0 0 (va_A (wM ad cL cZ cI S ro hd) sz) := by
  refine Met.ofW (cc := cX1_name) (maxL := 2) (ret := (some .long)) (by decide) rfl ?_
  intro p e s m args below meth c s₁ B hml hv
  obtain ⟨rfl, hsz, hP, hK, hD0⟩ := hv
  have hx := B.exec
  have hb := B.bytes
  have hr := B.returns
  have hts := atoms_spec (ws := wsX1_name) B.pre
  have hown : s.vm.findClass RX1 = some m.cls := findClass_of_methodNamed B.named
  have hlocks := B.notSynchronized
  have hin : ∀ w ∈ wsX10, w ∈ wsX1_name := fun _ h => List.mem_cons_of_mem _ (List.mem_append_right _ h)
  subst hsz
  have hD := hD0.self (sz := s.heap.size)
  generalize hAe : va_A (wM ad cL cZ cI S ro hd) s.heap.size = A at hD ⊢
  have hA : ∀ q : Nat, s.heap.size ≤ q → A q := fun q h => by rw [← hAe]; exact Or.inr h
  have hS : va_S A s.heap s.heap [] := va_S.rf
  have hl := lv_entry ([.ref (ad 0), .int q]) (n := 2) (Nat.le_of_ble_eq_true rfl)
  rw [lg_entry_eq]
  generalize (lg_sl ([.ref (ad 0), .int q]) ++ List.replicate (2 - (lg_sl ([.ref (ad 0), .int q])).length) Slot.unset).toArray = ls at hl ⊢
  have hl : lv_has ls 2 [(0, .ref (ad 0)), (1, .int q)] := hl
  refine lv_aload_n hx hb dX1_name_0 rfl (lv_at hl 0 rfl) ?_
  refine lv_iload_n hx hb dX1_name_1 rfl (lv_at hl 1 rfl) ?_
  refine vp_callSi (va_Run.run (va_runV (As := [.int q]) (rest := []) ⟨hx, hb, hml, hown, hts⟩ (c_X1_hasKey l dC dI ad cL cZ cI S ro hd q ) (cwV 1 hts gX1_name_X1_hasKey rfl rfl rfl (by decide +kernel) ⟨Nat.le_of_ble_eq_true rfl, Nat.le_of_ble_eq_true rfl⟩) (xpV_r [.int q] hK hP (va_recv hK hP (ci := 1) (q0 := 0) rfl rfl)) rfl rfl hl.1 rfl (lv_room (Nat.le_of_ble_eq_true rfl)) dX1_name_2 ⟨Nat.le_of_ble_eq_true rfl, Nat.le_of_ble_eq_true rfl⟩)) (fun r hr9 => ?_)
  subst hr9
  refine lv_if_eq (tgt := 16) hx hb dX1_name_5 (by decide) (fun c5 => ?_) (fun c5 => ?_)
  · skip
    refine lv_lconst (v := 0) hx hb dX1_name_16 (by decide) ?_
    exact W.lret (v := (0 : Int64)) hx hb hr (fun t ht hW => ⟨⟨_, (S, ro, hd), rfl, ⟨(by simp only [M_name, if_pos c5] <;> rfl), (by simp only [M_name, if_pos c5] <;> rfl)⟩, by rw [ht]; exact hP, va_K.moved hW.alike hK, hD⟩, hS.F ht⟩) hS.2.2 dX1_name_17
  · skip
    have hq := M_hasKey_in c5
    refine lv_aload_n hx hb dX1_name_8 rfl (lv_at hl 0 rfl) ?_
    refine lv_iload_n hx hb dX1_name_9 rfl (lv_at hl 1 rfl) ?_
    refine xcall_l (va_runV (As := [.int q]) (rest := []) ⟨hx, hb, hml, hown, hts⟩ (c_X1_nameOf l dC dI ad cL cZ cI S ro hd s.heap.size q hq ) (cwV 1 hts gX1_name_X1_nameOf rfl rfl rfl (by decide +kernel) ⟨Nat.le_of_ble_eq_true rfl, Nat.le_of_ble_eq_true rfl⟩) (xpV_w [.int q] hK hP hD (va_recv hK hP (ci := 1) (q0 := 0) rfl rfl)) rfl rfl hl.1 rfl (lv_room (Nat.le_of_ble_eq_true rfl)) dX1_name_10 ⟨Nat.le_of_ble_eq_true rfl, Nat.le_of_ble_eq_true rfl⟩) hD hS hA (fun r u H locs hw hP hD hS => ?_)
    obtain ⟨u1, rw1, hd1⟩ := u
    obtain ⟨rfl, hu1⟩ := hw
    change u1 = S at hu1
    change va_P _ vwCl (wM ad cL cZ cI u1 rw1 hd1) _ at hP
    change va_D _ (wM ad cL cZ cI u1 rw1 hd1) at hD
    rw [hu1] at hP hD
    refine lv_goto (tgt := 17) hx hb dX1_name_13 (by decide) ?_
    exact W.lret (v := (M_nameOf S q)) hx hb hr (fun t ht hW => ⟨⟨_, (S, rw1, hd1), rfl, ⟨(by simp only [M_name, if_neg c5] <;> rfl), (by simp only [M_name, if_neg c5] <;> rfl)⟩, by rw [ht]; exact hP, va_K.moved hW.alike hK, hD⟩, hS.F ht⟩) hS.2.2 dX1_name_17
set_option maxHeartbeats 4000000 in
set_option maxRecDepth 100000 in
theorem c_X1_end (l : Launch) (dC : Nat → ClassId) (dI : Nat → Nat → Nat) (ad : Nat → Nat) (cL cZ cI : ClassId) (S : SM) (ro hd : Nat → Int64) (sz : Nat) (q : Int32)  : Met l yX1_end wsX1_end ({ frames := 1, cells := 0, slots := 0, locals := 21 }) (va_Pc [.ref (ad 0), .int q] (fun U => U.heap.size = sz ∧ va_P (dC, dI) vwCl (wM ad cL cZ cI S ro hd) U.heap ∧ va_K (dC, dI) vwCl (tyM cL cZ cI) U ∧ va_D (fun _ => True) (wM ad cL cZ cI S ro hd))) (va_Qi (fun r (u : SMr) => r = (M_end S q).1 ∧ u.1 = (M_end S q).2) (xB (dC, dI) (wMr ad cL cZ cI) (tyM cL cZ cI) (va_A (wM ad cL cZ cI S ro hd) sz)) (va_A (wM ad cL cZ cI S ro hd) sz)) 0 0 (va_A (wM ad cL cZ cI S ro hd) sz) := by
  refine Met.ofW (cc := cX1_end) (maxL := 2) (ret := (some .boolean)) (by decide) rfl ?_
  intro p e s m args below meth c s₁ B hml hv
  obtain ⟨rfl, hsz, hP, hK, hD0⟩ := hv
  have hx := B.exec
  have hb := B.bytes
  have hr := B.returns
  have hts := atoms_spec (ws := wsX1_end) B.pre
  have hown : s.vm.findClass RX1 = some m.cls := findClass_of_methodNamed B.named
  have hlocks := B.notSynchronized
  have hin : ∀ w ∈ wsX10, w ∈ wsX1_end := fun _ h => List.mem_cons_of_mem _ (List.mem_append_right _ h)
  subst hsz
  have hD := hD0.self (sz := s.heap.size)
  generalize hAe : va_A (wM ad cL cZ cI S ro hd) s.heap.size = A at hD ⊢
  have hA : ∀ q : Nat, s.heap.size ≤ q → A q := fun q h => by rw [← hAe]; exact Or.inr h
  have hS : va_S A s.heap s.heap [] := va_S.rf
  have hl := lv_entry ([.ref (ad 0), .int q]) (n := 2) (Nat.le_of_ble_eq_true rfl)
  rw [lg_entry_eq]
  generalize (lg_sl ([.ref (ad 0), .int q]) ++ List.replicate (2 - (lg_sl ([.ref (ad 0), .int q])).length) Slot.unset).toArray = ls at hl ⊢
  have hl : lv_has ls 2 [(0, .ref (ad 0)), (1, .int q)] := hl
  refine lv_aload_n hx hb dX1_end_0 rfl (lv_at hl 0 rfl) ?_
  refine lv_iload_n hx hb dX1_end_1 rfl (lv_at hl 1 rfl) ?_
  refine vp_callSi (va_Run.run (va_runV (As := [.int q]) (rest := []) ⟨hx, hb, hml, hown, hts⟩ (c_X1_hasSession l dC dI ad cL cZ cI S ro hd q ) (cwV 1 hts gX1_end_X1_hasSession rfl rfl rfl (by decide +kernel) ⟨Nat.le_of_ble_eq_true rfl, Nat.le_of_ble_eq_true rfl⟩) (xpV_r [.int q] hK hP (va_recv hK hP (ci := 1) (q0 := 0) rfl rfl)) rfl rfl hl.1 rfl (lv_room (Nat.le_of_ble_eq_true rfl)) dX1_end_2 ⟨Nat.le_of_ble_eq_true rfl, Nat.le_of_ble_eq_true rfl⟩)) (fun r hr9 => ?_)
  subst hr9
  refine lv_if_ne (tgt := 10) hx hb dX1_end_5 (by decide) (fun c5 => ?_) (fun c5 => ?_)
  · skip
    have hq := M_hasSession_in c5
    refine lv_aload_n hx hb dX1_end_10 rfl (lv_at hl 0 rfl) ?_
    refine g_m_ast hx hb hts hin hown hK hP (hts (.fieldLink RX1 27 RX1 "sessionThere" "[Z") (by decide +kernel)) dX1_end_11 ?_
    refine lv_iload_n hx hb dX1_end_14 rfl (lv_at hl 1 rfl) ?_
    refine lv_iconst (v := 0) hx hb dX1_end_15 (by decide) ?_
    refine s_m_st hx hb hK hP hD hS rfl (xat_self hq) dX1_end_16 (fun H locs hP hD hS => ?_)
    refine lv_iconst (v := 1) hx hb dX1_end_17 (by decide) ?_
    exact W.zret (v := (1 : Int32)) hx hb hr rfl (fun t ht hW => ⟨⟨_, ((mu_st S (upd (m_st S) q.toNatClampNeg (0 : Int32))), ro, hd), rfl, ⟨(by simp only [M_end, if_neg c5] <;> rfl), (by simp only [M_end, if_neg c5] <;> rfl)⟩, by rw [ht]; exact hP, va_K.moved hW.alike hK, hD⟩, hS.F ht⟩) hS.2.2 dX1_end_18
  · skip
    refine lv_iconst (v := 0) hx hb dX1_end_8 (by decide) ?_
    exact W.zret (v := (0 : Int32)) hx hb hr rfl (fun t ht hW => ⟨⟨_, (S, ro, hd), rfl, ⟨(by simp only [M_end, if_pos c5] <;> rfl), (by simp only [M_end, if_pos c5] <;> rfl)⟩, by rw [ht]; exact hP, va_K.moved hW.alike hK, hD⟩, hS.F ht⟩) hS.2.2 dX1_end_9
set_option maxHeartbeats 4000000 in
set_option maxRecDepth 100000 in
theorem c_X1_nonce (l : Launch) (dC : Nat → ClassId) (dI : Nat → Nat → Nat) (ad : Nat → Nat) (cL cZ cI : ClassId) (S : SM) (ro hd : Nat → Int64) (sz : Nat) (q : Int32)  : Met l yX1_nonce wsX1_nonce ({ frames := 3, cells := 0, slots := 0, locals := 72 }) (va_Pc [.ref (ad 0), .int q] (fun U => U.heap.size = sz ∧ va_P (dC, dI) vwCl (wM ad cL cZ cI S ro hd) U.heap ∧ va_K (dC, dI) vwCl (tyM cL cZ cI) U ∧ va_D (fun _ => True) (wM ad cL cZ cI S ro hd))) (va_Ql (fun r (u : SMr) => r = M_nonce S q ∧ u.1 = S) (xB (dC, dI) (wMr ad cL cZ cI) (tyM cL cZ cI) (va_A (wM ad cL cZ cI S ro hd) sz)) (va_A (wM ad cL cZ cI S ro hd) sz)) 0 0 (va_A (wM ad cL cZ cI S ro hd) sz) := by
  refine Met.ofW (cc := cX1_nonce) (maxL := 2) (ret := (some .long)) (by decide) rfl ?_
  intro p e s m args below meth c s₁ B hml hv
  obtain ⟨rfl, hsz, hP, hK, hD0⟩ := hv
  have hx := B.exec
  have hb := B.bytes
  have hr := B.returns
  have hts := atoms_spec (ws := wsX1_nonce) B.pre
  have hown : s.vm.findClass RX1 = some m.cls := findClass_of_methodNamed B.named
  have hlocks := B.notSynchronized
  have hin : ∀ w ∈ wsX10, w ∈ wsX1_nonce := fun _ h => List.mem_cons_of_mem _ (List.mem_append_right _ h)
  subst hsz
  have hD := hD0.self (sz := s.heap.size)
  generalize hAe : va_A (wM ad cL cZ cI S ro hd) s.heap.size = A at hD ⊢
  have hA : ∀ q : Nat, s.heap.size ≤ q → A q := fun q h => by rw [← hAe]; exact Or.inr h
  have hS : va_S A s.heap s.heap [] := va_S.rf
  have hl := lv_entry ([.ref (ad 0), .int q]) (n := 2) (Nat.le_of_ble_eq_true rfl)
  rw [lg_entry_eq]
  generalize (lg_sl ([.ref (ad 0), .int q]) ++ List.replicate (2 - (lg_sl ([.ref (ad 0), .int q])).length) Slot.unset).toArray = ls at hl ⊢
  have hl : lv_has ls 2 [(0, .ref (ad 0)), (1, .int q)] := hl
  refine lv_aload_n hx hb dX1_nonce_0 rfl (lv_at hl 0 rfl) ?_
  refine lv_iload_n hx hb dX1_nonce_1 rfl (lv_at hl 1 rfl) ?_
  refine vp_callSi (va_Run.run (va_runV (As := [.int q]) (rest := []) ⟨hx, hb, hml, hown, hts⟩ (c_X1_hasSession l dC dI ad cL cZ cI S ro hd q ) (cwV 1 hts gX1_nonce_X1_hasSession rfl rfl rfl (by decide +kernel) ⟨Nat.le_of_ble_eq_true rfl, Nat.le_of_ble_eq_true rfl⟩) (xpV_r [.int q] hK hP (va_recv hK hP (ci := 1) (q0 := 0) rfl rfl)) rfl rfl hl.1 rfl (lv_room (Nat.le_of_ble_eq_true rfl)) dX1_nonce_2 ⟨Nat.le_of_ble_eq_true rfl, Nat.le_of_ble_eq_true rfl⟩)) (fun r hr9 => ?_)
  subst hr9
  refine lv_if_eq (tgt := 21) hx hb dX1_nonce_5 (by decide) (fun c5 => ?_) (fun c5 => ?_)
  · skip
    refine lv_lconst (v := 0) hx hb dX1_nonce_21 (by decide) ?_
    exact W.lret (v := (0 : Int64)) hx hb hr (fun t ht hW => ⟨⟨_, (S, ro, hd), rfl, ⟨(by simp only [M_nonce, if_pos c5] <;> rfl), (by simp only [M_nonce, if_pos c5] <;> rfl)⟩, by rw [ht]; exact hP, va_K.moved hW.alike hK, hD⟩, hS.F ht⟩) hS.2.2 dX1_nonce_22
  · skip
    have hq := M_hasSession_in c5
    refine lv_aload_n hx hb dX1_nonce_8 rfl (lv_at hl 0 rfl) ?_
    refine lv_aload_n hx hb dX1_nonce_9 rfl (lv_at hl 0 rfl) ?_
    refine g_m_asd hx hb hts hin hown hK hP (hts (.fieldLink RX1 33 RX1 "sessionDrawn" "[J") (by decide +kernel)) dX1_nonce_10 ?_
    refine lv_iload_n hx hb dX1_nonce_13 rfl (lv_at hl 1 rfl) ?_
    refine l_m_sd hx hb hK hP (xat_self hq) dX1_nonce_14 ?_
    refine xcall_l (va_runV (As := [.long (m_sd S q.toNatClampNeg)]) (rest := []) ⟨hx, hb, hml, hown, hts⟩ (c_X1_word l dC dI ad cL cZ cI S ro hd s.heap.size (m_sd S q.toNatClampNeg) ) (cwV 1 hts gX1_nonce_X1_word rfl rfl rfl (by decide +kernel) ⟨Nat.le_of_ble_eq_true rfl, Nat.le_of_ble_eq_true rfl⟩) (xpV_w [.long (m_sd S q.toNatClampNeg)] hK hP hD (va_recv hK hP (ci := 1) (q0 := 0) rfl rfl)) rfl rfl hl.1 rfl (lv_room (Nat.le_of_ble_eq_true rfl)) dX1_nonce_15 ⟨Nat.le_of_ble_eq_true rfl, Nat.le_of_ble_eq_true rfl⟩) hD hS hA (fun r u H locs hw hP hD hS => ?_)
    obtain ⟨u1, rw1, hd1⟩ := u
    obtain ⟨rfl, hu1⟩ := hw
    change u1 = S at hu1
    change va_P _ vwCl (wM ad cL cZ cI u1 rw1 hd1) _ at hP
    change va_D _ (wM ad cL cZ cI u1 rw1 hd1) at hD
    rw [hu1] at hP hD
    refine lv_goto (tgt := 22) hx hb dX1_nonce_18 (by decide) ?_
    exact W.lret (v := (M_word S (m_sd S q.toNatClampNeg))) hx hb hr (fun t ht hW => ⟨⟨_, (S, rw1, hd1), rfl, ⟨(by simp only [M_nonce, if_neg c5] <;> rfl), (by simp only [M_nonce, if_neg c5] <;> rfl)⟩, by rw [ht]; exact hP, va_K.moved hW.alike hK, hD⟩, hS.F ht⟩) hS.2.2 dX1_nonce_22
end
section
set_option maxHeartbeats 4000000 in
set_option maxRecDepth 100000 in
theorem c_X1_rightFor (l : Launch) (dC : Nat → ClassId) (dI : Nat → Nat → Nat) (ad : Nat → Nat) (cL cZ cI : ClassId) (S : SM) (ro hd : Nat → Int64) (sz : Nat) (se : Int64) (q : Int32) (cm : Int32) (pa : Int64) (hq : vp_in q 4) : Met l yX1_rightFor wsX1_rightFor ({ frames := 3, cells := 0, slots := 0, locals := 72 }) (va_Pc [.ref (ad 0), .long se, .int q, .int cm, .long pa] (fun U => U.heap.size = sz ∧ va_P (dC, dI) vwCl (wM ad cL cZ cI S ro hd) U.heap ∧ va_K (dC, dI) vwCl (tyM cL cZ cI) U ∧ va_D (fun _ => True) (wM ad cL cZ cI S ro hd))) (va_Ql (fun r (u : SMr) => r = M_rightFor S se q cm pa ∧ u.1 = S) (xB (dC, dI) (wMr ad cL cZ cI) (tyM cL cZ cI) (va_A (wM ad cL cZ cI S ro hd) sz)) (va_A (wM ad cL cZ cI S ro hd) sz)) 0 0 (va_A (wM ad cL cZ cI S ro hd) sz) := by
  refine Met.ofW (cc := cX1_rightFor) (maxL := 9) (ret := (some .long)) (by decide) rfl ?_
  intro p e s m args below meth c s₁ B hml hv
  obtain ⟨rfl, hsz, hP, hK, hD0⟩ := hv
  have hx := B.exec
  have hb := B.bytes
  have hr := B.returns
  have hts := atoms_spec (ws := wsX1_rightFor) B.pre
  have hown : s.vm.findClass RX1 = some m.cls := findClass_of_methodNamed B.named
  have hlocks := B.notSynchronized
  have hin : ∀ w ∈ wsX10, w ∈ wsX1_rightFor := fun _ h => List.mem_cons_of_mem _ (List.mem_append_right _ h)
  subst hsz
  have hD := hD0.self (sz := s.heap.size)
  generalize hAe : va_A (wM ad cL cZ cI S ro hd) s.heap.size = A at hD ⊢
  have hA : ∀ q : Nat, s.heap.size ≤ q → A q := fun q h => by rw [← hAe]; exact Or.inr h
  have hS : va_S A s.heap s.heap [] := va_S.rf
  have hl := lv_entry ([.ref (ad 0), .long se, .int q, .int cm, .long pa]) (n := 9) (Nat.le_of_ble_eq_true rfl)
  rw [lg_entry_eq]
  generalize (lg_sl ([.ref (ad 0), .long se, .int q, .int cm, .long pa]) ++ List.replicate (9 - (lg_sl ([.ref (ad 0), .long se, .int q, .int cm, .long pa])).length) Slot.unset).toArray = ls at hl ⊢
  have hl : lv_has ls 9 [(0, .ref (ad 0)), (1, .long se), (3, .int q), (4, .int cm), (5, .long pa)] := hl
  refine lv_aload_n hx hb dX1_rightFor_0 rfl (lv_at hl 0 rfl) ?_
  refine lv_aload_n hx hb dX1_rightFor_1 rfl (lv_at hl 0 rfl) ?_
  refine g_m_asd hx hb hts hin hown hK hP (hts (.fieldLink RX1 33 RX1 "sessionDrawn" "[J") (by decide +kernel)) dX1_rightFor_2 ?_
  refine lv_iload_n hx hb dX1_rightFor_5 rfl (lv_at hl 2 rfl) ?_
  refine l_m_sd hx hb hK hP (xat_self hq) dX1_rightFor_6 ?_
  refine xcall_l (va_runV (As := [.long (m_sd S q.toNatClampNeg)]) (rest := []) ⟨hx, hb, hml, hown, hts⟩ (c_X1_word l dC dI ad cL cZ cI S ro hd s.heap.size (m_sd S q.toNatClampNeg) ) (cwV 1 hts gX1_rightFor_X1_word rfl rfl rfl (by decide +kernel) ⟨Nat.le_of_ble_eq_true rfl, Nat.le_of_ble_eq_true rfl⟩) (xpV_w [.long (m_sd S q.toNatClampNeg)] hK hP hD (va_recv hK hP (ci := 1) (q0 := 0) rfl rfl)) rfl rfl hl.1 rfl (lv_room (Nat.le_of_ble_eq_true rfl)) dX1_rightFor_7 ⟨Nat.le_of_ble_eq_true rfl, Nat.le_of_ble_eq_true rfl⟩) hD hS hA (fun r u H locs hw hP hD hS => ?_)
  obtain ⟨u1, rw1, hd1⟩ := u
  obtain ⟨rfl, hu1⟩ := hw
  change u1 = S at hu1
  change va_P _ vwCl (wM ad cL cZ cI u1 rw1 hd1) _ at hP
  change va_D _ (wM ad cL cZ cI u1 rw1 hd1) at hD
  rw [hu1] at hP hD
  refine lv_lstore (lv' := [(7, .long (M_word S (m_sd S q.toNatClampNeg))), (0, .ref (ad 0)), (1, .long se), (3, .int q), (4, .int cm), (5, .long pa)]) hx hb dX1_rightFor_10 hl (by decide) rfl (fun ls hl => ?_)
  refine lv_aload_n hx hb dX1_rightFor_12 rfl (lv_at hl 1 rfl) ?_
  refine g_m_arw hx hb hts hin hown hK hP (hts (.fieldLink RX1 39 RX1 "row" "[J") (by decide +kernel)) dX1_rightFor_13 ?_
  refine lv_iconst (v := 1) hx hb dX1_rightFor_16 (by decide) ?_
  refine lv_lload hx hb dX1_rightFor_17 (lv_at hl 0 rfl) ?_
  refine s_m_rw hx hb hK hP hD hS (xat_nI (by decide) (by decide)) dX1_rightFor_19 (fun H locs hP hD hS => ?_)
  refine lv_aload_n hx hb dX1_rightFor_20 rfl (lv_at hl 1 rfl) ?_
  refine g_m_arw hx hb hts hin hown hK hP (hts (.fieldLink RX1 39 RX1 "row" "[J") (by decide +kernel)) dX1_rightFor_21 ?_
  refine lv_iconst (v := 2) hx hb dX1_rightFor_24 (by decide) ?_
  refine lv_aload_n hx hb dX1_rightFor_25 rfl (lv_at hl 1 rfl) ?_
  refine g_m_acn hx hb hts hin hown hK hP (hts (.fieldLink RX1 30 RX1 "caller" "[J") (by decide +kernel)) dX1_rightFor_26 ?_
  refine lv_iload_n hx hb dX1_rightFor_29 rfl (lv_at hl 3 rfl) ?_
  refine l_m_cn hx hb hK hP (xat_self hq) dX1_rightFor_30 ?_
  refine s_m_rw hx hb hK hP hD hS (xat_nI (by decide) (by decide)) dX1_rightFor_31 (fun H locs hP hD hS => ?_)
  refine lv_aload_n hx hb dX1_rightFor_32 rfl (lv_at hl 1 rfl) ?_
  refine g_m_arw hx hb hts hin hown hK hP (hts (.fieldLink RX1 39 RX1 "row" "[J") (by decide +kernel)) dX1_rightFor_33 ?_
  refine lv_iconst (v := 3) hx hb dX1_rightFor_36 (by decide) ?_
  refine lv_iload hx hb dX1_rightFor_37 (lv_at hl 4 rfl) ?_
  refine lv_i2l hx hb dX1_rightFor_39 rfl ?_
  refine s_m_rw hx hb hK hP hD hS (xat_nI (by decide) (by decide)) dX1_rightFor_40 (fun H locs hP hD hS => ?_)
  refine lv_aload_n hx hb dX1_rightFor_41 rfl (lv_at hl 1 rfl) ?_
  refine g_m_arw hx hb hts hin hown hK hP (hts (.fieldLink RX1 39 RX1 "row" "[J") (by decide +kernel)) dX1_rightFor_42 ?_
  refine lv_iconst (v := 4) hx hb dX1_rightFor_45 (by decide) ?_
  refine lv_lload hx hb dX1_rightFor_46 (lv_at hl 5 rfl) ?_
  refine s_m_rw hx hb hK hP hD hS (xat_nI (by decide) (by decide)) dX1_rightFor_48 (fun H locs hP hD hS => ?_)
  refine lv_aload_n hx hb dX1_rightFor_49 rfl (lv_at hl 1 rfl) ?_
  refine lv_lload_n hx hb dX1_rightFor_50 rfl (lv_at hl 2 rfl) ?_
  refine lv_iconst (v := 4) hx hb dX1_rightFor_51 (by decide) ?_
  refine xcall_l (va_runV (As := [.long se, .int (4 : Int32)]) (rest := []) ⟨hx, hb, hml, hown, hts⟩ (c_X1_code l dC dI ad cL cZ cI S (vp_updL (vp_updL (vp_updL (vp_updL rw1 1 (M_word S (m_sd S q.toNatClampNeg))) 2 (m_cn S q.toNatClampNeg)) 3 cm.toInt64) 4 pa) hd1 H.size se 4 (by decide) ) (cwV 2 hts gX1_rightFor_X1_code rfl rfl rfl (by decide +kernel) ⟨Nat.le_of_ble_eq_true rfl, Nat.le_of_ble_eq_true rfl⟩) (xpV_w [.long se, .int (4 : Int32)] hK hP hD (va_recv hK hP (ci := 1) (q0 := 0) rfl rfl)) rfl rfl hl.1 rfl (lv_room (Nat.le_of_ble_eq_true rfl)) dX1_rightFor_52 ⟨Nat.le_of_ble_eq_true rfl, Nat.le_of_ble_eq_true rfl⟩) hD hS hA (fun r u H locs hw hP hD hS => ?_)
  obtain ⟨u2, rw2, hd2⟩ := u
  obtain ⟨rfl, hu2⟩ := hw
  change u2 = S at hu2
  change va_P _ vwCl (wM ad cL cZ cI u2 rw2 hd2) _ at hP
  change va_D _ (wM ad cL cZ cI u2 rw2 hd2) at hD
  rw [hu2] at hP hD
  exact W.lret (v := (mE se (foN (nI (4 + 1)).toInt64 (vp_updL (vp_updL (vp_updL (vp_updL (vp_updL rw1 1 (M_word S (m_sd S q.toNatClampNeg))) 2 (m_cn S q.toNatClampNeg)) 3 cm.toInt64) 4 pa) 0 (se ^^^ 92)) (4 + 1)))) hx hb hr (fun t ht hW => ⟨⟨_, (S, rw2, hd2), rfl, ⟨(congrArg (mE se) (foN5 _ _)), rfl⟩, by rw [ht]; exact hP, va_K.moved hW.alike hK, hD⟩, hS.F ht⟩) hS.2.2 dX1_rightFor_55
set_option maxHeartbeats 4000000 in
set_option maxRecDepth 100000 in
theorem c_X1_present (l : Launch) (dC : Nat → ClassId) (dI : Nat → Nat → Nat) (ad : Nat → Nat) (cL cZ cI : ClassId) (S : SM) (ro hd : Nat → Int64) (sz : Nat) (v : Int64)  : Met l yX1_present wsX1_present ({ frames := 0, cells := 0, slots := 0, locals := 0 }) (va_Pc [.ref (ad 0), .long v] (fun U => U.heap.size = sz ∧ va_P (dC, dI) vwCl (wM ad cL cZ cI S ro hd) U.heap ∧ va_K (dC, dI) vwCl (tyM cL cZ cI) U ∧ va_D (fun _ => True) (wM ad cL cZ cI S ro hd))) (va_Qv (fun (u : SMr) => u.1 = mu_pr S v) (xB (dC, dI) (wMr ad cL cZ cI) (tyM cL cZ cI) (va_A (wM ad cL cZ cI S ro hd) sz)) (va_A (wM ad cL cZ cI S ro hd) sz)) 0 0 (va_A (wM ad cL cZ cI S ro hd) sz) := by
  refine Met.ofW (cc := cX1_present) (maxL := 3) (ret := none) (by decide) rfl ?_
  intro p e s m args below meth c s₁ B hml hv
  obtain ⟨rfl, hsz, hP, hK, hD0⟩ := hv
  have hx := B.exec
  have hb := B.bytes
  have hr := B.returns
  have hts := atoms_spec (ws := wsX1_present) B.pre
  have hown : s.vm.findClass RX1 = some m.cls := findClass_of_methodNamed B.named
  have hlocks := B.notSynchronized
  have hin : ∀ w ∈ wsX10, w ∈ wsX1_present := fun _ h => List.mem_cons_of_mem _ (List.mem_append_right _ h)
  subst hsz
  have hD := hD0.self (sz := s.heap.size)
  generalize hAe : va_A (wM ad cL cZ cI S ro hd) s.heap.size = A at hD ⊢
  have hA : ∀ q : Nat, s.heap.size ≤ q → A q := fun q h => by rw [← hAe]; exact Or.inr h
  have hS : va_S A s.heap s.heap [] := va_S.rf
  have hl := lv_entry ([.ref (ad 0), .long v]) (n := 3) (Nat.le_of_ble_eq_true rfl)
  rw [lg_entry_eq]
  generalize (lg_sl ([.ref (ad 0), .long v]) ++ List.replicate (3 - (lg_sl ([.ref (ad 0), .long v])).length) Slot.unset).toArray = ls at hl ⊢
  have hl : lv_has ls 3 [(0, .ref (ad 0)), (1, .long v)] := hl
  refine lv_aload_n hx hb dX1_present_0 rfl (lv_at hl 0 rfl) ?_
  refine lv_lload_n hx hb dX1_present_1 rfl (lv_at hl 1 rfl) ?_
  refine p_m_pr hx hb hts hin hown hK hP hD hS (hts (.fieldLink RX1 117 RX1 "proof" "J") (by decide +kernel)) dX1_present_2 (fun H locs hP hD hS => ?_)
  exact W.vret hx hb hr (fun t ht hW => ⟨⟨((mu_pr S v), ro, hd), rfl, rfl, by rw [ht]; exact hP, va_K.moved hW.alike hK, hD⟩, hS.F ht⟩) hS.2.2 dX1_present_5
set_option maxHeartbeats 4000000 in
set_option maxRecDepth 100000 in
theorem c_X1_prove (l : Launch) (dC : Nat → ClassId) (dI : Nat → Nat → Nat) (ad : Nat → Nat) (cL cZ cI : ClassId) (S : SM) (ro hd : Nat → Int64) (sz : Nat) (se : Int64) (q : Int32) (cm : Int32) (a : Int32) (b : Int64) (hB : okB (m_bc S)) : Met l yX1_prove wsX1_prove ({ frames := 4, cells := 0, slots := 0, locals := 100 }) (va_Pc [.ref (ad 0), .long se, .int q, .int cm, .int a, .long b] (fun U => U.heap.size = sz ∧ va_P (dC, dI) vwCl (wM ad cL cZ cI S ro hd) U.heap ∧ va_K (dC, dI) vwCl (tyM cL cZ cI) U ∧ va_D (fun _ => True) (wM ad cL cZ cI S ro hd))) (va_Qi (fun r (u : SMr) => r = (M_prove S se q cm a b).1 ∧ u.1 = (M_prove S se q cm a b).2) (xB (dC, dI) (wMr ad cL cZ cI) (tyM cL cZ cI) (va_A (wM ad cL cZ cI S ro hd) sz)) (va_A (wM ad cL cZ cI S ro hd) sz)) 0 0 (va_A (wM ad cL cZ cI S ro hd) sz) := by
  refine Met.ofW (cc := cX1_prove) (maxL := 10) (ret := (some .boolean)) (by decide) rfl ?_
  intro p e s m args below meth c s₁ B hml hv
  obtain ⟨rfl, hsz, hP, hK, hD0⟩ := hv
  have hx := B.exec
  have hb := B.bytes
  have hr := B.returns
  have hts := atoms_spec (ws := wsX1_prove) B.pre
  have hown : s.vm.findClass RX1 = some m.cls := findClass_of_methodNamed B.named
  have hlocks := B.notSynchronized
  have hin : ∀ w ∈ wsX10, w ∈ wsX1_prove := fun _ h => List.mem_cons_of_mem _ (List.mem_append_right _ h)
  subst hsz
  have hD := hD0.self (sz := s.heap.size)
  generalize hAe : va_A (wM ad cL cZ cI S ro hd) s.heap.size = A at hD ⊢
  have hA : ∀ q : Nat, s.heap.size ≤ q → A q := fun q h => by rw [← hAe]; exact Or.inr h
  have hS : va_S A s.heap s.heap [] := va_S.rf
  have hl := lv_entry ([.ref (ad 0), .long se, .int q, .int cm, .int a, .long b]) (n := 10) (Nat.le_of_ble_eq_true rfl)
  rw [lg_entry_eq]
  generalize (lg_sl ([.ref (ad 0), .long se, .int q, .int cm, .int a, .long b]) ++ List.replicate (10 - (lg_sl ([.ref (ad 0), .long se, .int q, .int cm, .int a, .long b])).length) Slot.unset).toArray = ls at hl ⊢
  have hl : lv_has ls 10 [(0, .ref (ad 0)), (1, .long se), (3, .int q), (4, .int cm), (5, .int a), (6, .long b)] := hl
  refine lv_aload_n hx hb dX1_prove_0 rfl (lv_at hl 0 rfl) ?_
  refine lv_iload_n hx hb dX1_prove_1 rfl (lv_at hl 2 rfl) ?_
  refine vp_callSi (va_Run.run (va_runV (As := [.int q]) (rest := []) ⟨hx, hb, hml, hown, hts⟩ (c_X1_hasSession l dC dI ad cL cZ cI S ro hd q ) (cwV 1 hts gX1_prove_X1_hasSession rfl rfl rfl (by decide +kernel) ⟨Nat.le_of_ble_eq_true rfl, Nat.le_of_ble_eq_true rfl⟩) (xpV_r [.int q] hK hP (va_recv hK hP (ci := 1) (q0 := 0) rfl rfl)) rfl rfl hl.1 rfl (lv_room (Nat.le_of_ble_eq_true rfl)) dX1_prove_2 ⟨Nat.le_of_ble_eq_true rfl, Nat.le_of_ble_eq_true rfl⟩)) (fun r hr9 => ?_)
  subst hr9
  refine lv_if_eq (tgt := 35) hx hb dX1_prove_5 (by decide) (fun c5 => ?_) (fun c5 => ?_)
  · skip
    refine lv_iconst (v := 0) hx hb dX1_prove_35 (by decide) ?_
    exact W.zret (v := (0 : Int32)) hx hb hr rfl (fun t ht hW => ⟨⟨_, (S, ro, hd), rfl, ⟨(by simp only [M_prove, M_param, if_pos c5] <;> rfl), (by simp only [M_prove, M_param, if_pos c5] <;> rfl)⟩, by rw [ht]; exact hP, va_K.moved hW.alike hK, hD⟩, hS.F ht⟩) hS.2.2 dX1_prove_36
  · skip
    have hq := M_hasSession_in c5
    refine lv_iload hx hb dX1_prove_8 (lv_at hl 3 rfl) ?_
    refine lv_iconst (v := 1) hx hb dX1_prove_10 (by decide) ?_
    refine lv_icmp_lt (tgt := 35) hx hb dX1_prove_11 (by decide) (fun c11 => ?_) (fun c11 => ?_)
    · skip
      refine lv_iconst (v := 0) hx hb dX1_prove_35 (by decide) ?_
      exact W.zret (v := (0 : Int32)) hx hb hr rfl (fun t ht hW => ⟨⟨_, (S, ro, hd), rfl, ⟨(by simp only [M_prove, M_param, if_neg c5, if_pos c11] <;> rfl), (by simp only [M_prove, M_param, if_neg c5, if_pos c11] <;> rfl)⟩, by rw [ht]; exact hP, va_K.moved hW.alike hK, hD⟩, hS.F ht⟩) hS.2.2 dX1_prove_36
    · skip
      refine lv_iload hx hb dX1_prove_14 (lv_at hl 3 rfl) ?_
      refine lv_iconst (v := 3) hx hb dX1_prove_16 (by decide) ?_
      refine lv_icmp_gt (tgt := 35) hx hb dX1_prove_17 (by decide) (fun c17 => ?_) (fun c17 => ?_)
      · skip
        refine lv_iconst (v := 0) hx hb dX1_prove_35 (by decide) ?_
        exact W.zret (v := (0 : Int32)) hx hb hr rfl (fun t ht hW => ⟨⟨_, (S, ro, hd), rfl, ⟨(by simp only [M_prove, M_param, if_neg c5, if_neg c11, if_pos c17] <;> rfl), (by simp only [M_prove, M_param, if_neg c5, if_neg c11, if_pos c17] <;> rfl)⟩, by rw [ht]; exact hP, va_K.moved hW.alike hK, hD⟩, hS.F ht⟩) hS.2.2 dX1_prove_36
      · skip
        refine lv_iload hx hb dX1_prove_20 (lv_at hl 3 rfl) ?_
        refine lv_iconst (v := 2) hx hb dX1_prove_22 (by decide) ?_
        refine lv_icmp_ne (tgt := 37) hx hb dX1_prove_23 (by decide) (fun c23 => ?_) (fun c23 => ?_)
        · skip
          refine lv_iload hx hb dX1_prove_37 (lv_at hl 3 rfl) ?_
          refine lv_iconst (v := 2) hx hb dX1_prove_39 (by decide) ?_
          refine lv_icmp_ne (tgt := 58) hx hb dX1_prove_40 (by decide) (fun c40 => ?_) (fun c40 => ?_)
          · skip
            refine lv_aload_n hx hb dX1_prove_58 rfl (lv_at hl 0 rfl) ?_
            refine lv_iload hx hb dX1_prove_59 (lv_at hl 4 rfl) ?_
            refine lv_i2l hx hb dX1_prove_61 rfl ?_
            refine lv_lload hx hb dX1_prove_62 (lv_at hl 5 rfl) ?_
            refine xcall_l (va_runV (As := [.long a.toInt64, .long b]) (rest := []) ⟨hx, hb, hml, hown, hts⟩ (c_X1_two l dC dI ad cL cZ cI S ro hd s.heap.size a.toInt64 b ) (cwV 2 hts gX1_prove_X1_two rfl rfl rfl (by decide +kernel) ⟨Nat.le_of_ble_eq_true rfl, Nat.le_of_ble_eq_true rfl⟩) (xpV_w [.long a.toInt64, .long b] hK hP hD (va_recv hK hP (ci := 1) (q0 := 0) rfl rfl)) rfl rfl hl.1 rfl (lv_room (Nat.le_of_ble_eq_true rfl)) dX1_prove_64 ⟨Nat.le_of_ble_eq_true rfl, Nat.le_of_ble_eq_true rfl⟩) hD hS hA (fun r u H locs hw hP hD hS => ?_)
            obtain ⟨u1, rw1, hd1⟩ := u
            obtain ⟨rfl, hu1, hh1⟩ := hw
            change hd1 = hd at hh1
            change u1 = S at hu1
            change va_P _ vwCl (wM ad cL cZ cI u1 rw1 hd1) _ at hP
            change va_D _ (wM ad cL cZ cI u1 rw1 hd1) at hD
            rw [hu1, hh1] at hP hD
            refine lv_lstore (lv' := [(8, .long (h2 a.toInt64 b)), (0, .ref (ad 0)), (1, .long se), (3, .int q), (4, .int cm), (5, .int a), (6, .long b)]) hx hb dX1_prove_67 hl (by decide) rfl (fun ls hl => ?_)
            refine lv_aload_n hx hb dX1_prove_69 rfl (lv_at hl 1 rfl) ?_
            refine lv_aload_n hx hb dX1_prove_70 rfl (lv_at hl 1 rfl) ?_
            refine lv_lload_n hx hb dX1_prove_71 rfl (lv_at hl 2 rfl) ?_
            refine lv_iload_n hx hb dX1_prove_72 rfl (lv_at hl 3 rfl) ?_
            refine lv_iload hx hb dX1_prove_73 (lv_at hl 4 rfl) ?_
            refine lv_lload hx hb dX1_prove_75 (lv_at hl 0 rfl) ?_
            refine xcall_l (va_runV (As := [.long se, .int q, .int cm, .long (h2 a.toInt64 b)]) (rest := [.ref (ad 0)]) ⟨hx, hb, hml, hown, hts⟩ (c_X1_rightFor l dC dI ad cL cZ cI S rw1 hd H.size se q cm (h2 a.toInt64 b) hq ) (cwV 4 hts gX1_prove_X1_rightFor rfl rfl rfl (by decide +kernel) ⟨Nat.le_of_ble_eq_true rfl, Nat.le_of_ble_eq_true rfl⟩) (xpV_w [.long se, .int q, .int cm, .long (h2 a.toInt64 b)] hK hP hD (va_recv hK hP (ci := 1) (q0 := 0) rfl rfl)) rfl rfl hl.1 rfl (lv_room (Nat.le_of_ble_eq_true rfl)) dX1_prove_77 ⟨Nat.le_of_ble_eq_true rfl, Nat.le_of_ble_eq_true rfl⟩) hD hS hA (fun r u H locs hw hP hD hS => ?_)
            obtain ⟨u2, rw2, hd2⟩ := u
            obtain ⟨rfl, hu2⟩ := hw
            change u2 = S at hu2
            change va_P _ vwCl (wM ad cL cZ cI u2 rw2 hd2) _ at hP
            change va_D _ (wM ad cL cZ cI u2 rw2 hd2) at hD
            rw [hu2] at hP hD
            refine p_m_pr hx hb hts hin hown hK hP hD hS (hts (.fieldLink RX1 117 RX1 "proof" "J") (by decide +kernel)) dX1_prove_80 (fun H locs hP hD hS => ?_)
            refine lv_iconst (v := 1) hx hb dX1_prove_83 (by decide) ?_
            exact W.zret (v := (1 : Int32)) hx hb hr rfl (fun t ht hW => ⟨⟨_, ((mu_pr S (M_rightFor S se q cm (h2 a.toInt64 b))), rw2, hd2), rfl, ⟨(by simp only [M_prove, M_param, if_neg c5, if_neg c11, if_neg c17, if_neg c23, if_neg c40] <;> rfl), (by simp only [M_prove, M_param, if_neg c5, if_neg c11, if_neg c17, if_neg c23, if_neg c40] <;> rfl)⟩, by rw [ht]; exact hP, va_K.moved hW.alike hK, hD⟩, hS.F ht⟩) hS.2.2 dX1_prove_84
          · skip
            exact absurd c40 c23
        · skip
          refine lv_aload_n hx hb dX1_prove_26 rfl (lv_at hl 0 rfl) ?_
          refine lv_iload hx hb dX1_prove_27 (lv_at hl 4 rfl) ?_
          refine vp_callSi (va_Run.run (va_runV (As := [.int a]) (rest := []) ⟨hx, hb, hml, hown, hts⟩ (c_X1_hasBlob l dC dI ad cL cZ cI S ro hd a ) (cwV 1 hts gX1_prove_X1_hasBlob rfl rfl rfl (by decide +kernel) ⟨Nat.le_of_ble_eq_true rfl, Nat.le_of_ble_eq_true rfl⟩) (xpV_r [.int a] hK hP (va_recv hK hP (ci := 1) (q0 := 0) rfl rfl)) rfl rfl hl.1 rfl (lv_room (Nat.le_of_ble_eq_true rfl)) dX1_prove_29 ⟨Nat.le_of_ble_eq_true rfl, Nat.le_of_ble_eq_true rfl⟩)) (fun r hr9 => ?_)
          subst hr9
          refine lv_if_ne (tgt := 37) hx hb dX1_prove_32 (by decide) (fun c32 => ?_) (fun c32 => ?_)
          · skip
            have ha := M_hasBlob_in hB c32
            refine lv_iload hx hb dX1_prove_37 (lv_at hl 3 rfl) ?_
            refine lv_iconst (v := 2) hx hb dX1_prove_39 (by decide) ?_
            refine lv_icmp_ne (tgt := 58) hx hb dX1_prove_40 (by decide) (fun c40 => ?_) (fun c40 => ?_)
            · skip
              exact absurd c23 c40
            · skip
              refine lv_aload_n hx hb dX1_prove_43 rfl (lv_at hl 0 rfl) ?_
              refine g_m_abw hx hb hts hin hown hK hP (hts (.fieldLink RX1 36 RX1 "blobWord" "[J") (by decide +kernel)) dX1_prove_44 ?_
              refine lv_bipush (v := 6) hx hb dX1_prove_47 (by decide) ?_
              refine lv_iload hx hb dX1_prove_49 (lv_at hl 4 rfl) ?_
              refine lv_imul hx hb dX1_prove_51 ?_
              refine lv_iconst (v := 5) hx hb dX1_prove_52 (by decide) ?_
              refine lv_iadd hx hb dX1_prove_53 ?_
              refine l_m_bw hx hb hK hP (xat6 ha (xat_nI (by decide) (by decide))) dX1_prove_54 ?_
              refine lv_goto (tgt := 67) hx hb dX1_prove_55 (by decide) ?_
              refine lv_lstore (lv' := [(8, .long (m_bw S (6 * a.toNatClampNeg + 5))), (0, .ref (ad 0)), (1, .long se), (3, .int q), (4, .int cm), (5, .int a), (6, .long b)]) hx hb dX1_prove_67 hl (by decide) rfl (fun ls hl => ?_)
              refine lv_aload_n hx hb dX1_prove_69 rfl (lv_at hl 1 rfl) ?_
              refine lv_aload_n hx hb dX1_prove_70 rfl (lv_at hl 1 rfl) ?_
              refine lv_lload_n hx hb dX1_prove_71 rfl (lv_at hl 2 rfl) ?_
              refine lv_iload_n hx hb dX1_prove_72 rfl (lv_at hl 3 rfl) ?_
              refine lv_iload hx hb dX1_prove_73 (lv_at hl 4 rfl) ?_
              refine lv_lload hx hb dX1_prove_75 (lv_at hl 0 rfl) ?_
              refine xcall_l (va_runV (As := [.long se, .int q, .int cm, .long (m_bw S (6 * a.toNatClampNeg + 5))]) (rest := [.ref (ad 0)]) ⟨hx, hb, hml, hown, hts⟩ (c_X1_rightFor l dC dI ad cL cZ cI S ro hd s.heap.size se q cm (m_bw S (6 * a.toNatClampNeg + 5)) hq ) (cwV 4 hts gX1_prove_X1_rightFor rfl rfl rfl (by decide +kernel) ⟨Nat.le_of_ble_eq_true rfl, Nat.le_of_ble_eq_true rfl⟩) (xpV_w [.long se, .int q, .int cm, .long (m_bw S (6 * a.toNatClampNeg + 5))] hK hP hD (va_recv hK hP (ci := 1) (q0 := 0) rfl rfl)) rfl rfl hl.1 rfl (lv_room (Nat.le_of_ble_eq_true rfl)) dX1_prove_77 ⟨Nat.le_of_ble_eq_true rfl, Nat.le_of_ble_eq_true rfl⟩) hD hS hA (fun r u H locs hw hP hD hS => ?_)
              obtain ⟨u1, rw1, hd1⟩ := u
              obtain ⟨rfl, hu1⟩ := hw
              change u1 = S at hu1
              change va_P _ vwCl (wM ad cL cZ cI u1 rw1 hd1) _ at hP
              change va_D _ (wM ad cL cZ cI u1 rw1 hd1) at hD
              rw [hu1] at hP hD
              refine p_m_pr hx hb hts hin hown hK hP hD hS (hts (.fieldLink RX1 117 RX1 "proof" "J") (by decide +kernel)) dX1_prove_80 (fun H locs hP hD hS => ?_)
              refine lv_iconst (v := 1) hx hb dX1_prove_83 (by decide) ?_
              exact W.zret (v := (1 : Int32)) hx hb hr rfl (fun t ht hW => ⟨⟨_, ((mu_pr S (M_rightFor S se q cm (m_bw S (6 * a.toNatClampNeg + 5)))), rw1, hd1), rfl, ⟨(by simp only [M_prove, M_param, if_neg c5, if_neg c11, if_neg c17, if_pos c23, if_neg c32, if_pos c40] <;> rfl), (by simp only [M_prove, M_param, if_neg c5, if_neg c11, if_neg c17, if_pos c23, if_neg c32, if_pos c40] <;> rfl)⟩, by rw [ht]; exact hP, va_K.moved hW.alike hK, hD⟩, hS.F ht⟩) hS.2.2 dX1_prove_84
          · skip
            refine lv_iconst (v := 0) hx hb dX1_prove_35 (by decide) ?_
            exact W.zret (v := (0 : Int32)) hx hb hr rfl (fun t ht hW => ⟨⟨_, (S, ro, hd), rfl, ⟨(by simp only [M_prove, M_param, if_neg c5, if_neg c11, if_neg c17, if_pos c23, if_pos c32] <;> rfl), (by simp only [M_prove, M_param, if_neg c5, if_neg c11, if_neg c17, if_pos c23, if_pos c32] <;> rfl)⟩, by rw [ht]; exact hP, va_K.moved hW.alike hK, hD⟩, hS.F ht⟩) hS.2.2 dX1_prove_36
set_option maxHeartbeats 4000000 in
set_option maxRecDepth 100000 in
theorem c_X1_proved (l : Launch) (dC : Nat → ClassId) (dI : Nat → Nat → Nat) (ad : Nat → Nat) (cL cZ cI : ClassId) (S : SM) (ro hd : Nat → Int64) (sz : Nat) (q : Int32) (k : Int32) (cm : Int32) (pa : Int64) (hq : vp_in q 4) (hk : vp_in k 6) : Met l yX1_proved wsX1_proved ({ frames := 4, cells := 0, slots := 0, locals := 100 }) (va_Pc [.ref (ad 0), .int q, .int k, .int cm, .long pa] (fun U => U.heap.size = sz ∧ va_P (dC, dI) vwCl (wM ad cL cZ cI S ro hd) U.heap ∧ va_K (dC, dI) vwCl (tyM cL cZ cI) U ∧ va_D (fun _ => True) (wM ad cL cZ cI S ro hd))) (va_Qi (fun r (u : SMr) => r = (M_proved S q k cm pa).1 ∧ u.1 = (M_proved S q k cm pa).2) (xB (dC, dI) (wMr ad cL cZ cI) (tyM cL cZ cI) (va_A (wM ad cL cZ cI S ro hd) sz)) (va_A (wM ad cL cZ cI S ro hd) sz)) 0 0 (va_A (wM ad cL cZ cI S ro hd) sz) := by
  refine Met.ofW (cc := cX1_proved) (maxL := 7) (ret := (some .boolean)) (by decide) rfl ?_
  intro p e s m args below meth c s₁ B hml hv
  obtain ⟨rfl, hsz, hP, hK, hD0⟩ := hv
  have hx := B.exec
  have hb := B.bytes
  have hr := B.returns
  have hts := atoms_spec (ws := wsX1_proved) B.pre
  have hown : s.vm.findClass RX1 = some m.cls := findClass_of_methodNamed B.named
  have hlocks := B.notSynchronized
  have hin : ∀ w ∈ wsX10, w ∈ wsX1_proved := fun _ h => List.mem_cons_of_mem _ (List.mem_append_right _ h)
  subst hsz
  have hD := hD0.self (sz := s.heap.size)
  generalize hAe : va_A (wM ad cL cZ cI S ro hd) s.heap.size = A at hD ⊢
  have hA : ∀ q : Nat, s.heap.size ≤ q → A q := fun q h => by rw [← hAe]; exact Or.inr h
  have hS : va_S A s.heap s.heap [] := va_S.rf
  have hl := lv_entry ([.ref (ad 0), .int q, .int k, .int cm, .long pa]) (n := 7) (Nat.le_of_ble_eq_true rfl)
  rw [lg_entry_eq]
  generalize (lg_sl ([.ref (ad 0), .int q, .int k, .int cm, .long pa]) ++ List.replicate (7 - (lg_sl ([.ref (ad 0), .int q, .int k, .int cm, .long pa])).length) Slot.unset).toArray = ls at hl ⊢
  have hl : lv_has ls 7 [(0, .ref (ad 0)), (1, .int q), (2, .int k), (3, .int cm), (4, .long pa)] := hl
  refine lv_aload_n hx hb dX1_proved_0 rfl (lv_at hl 0 rfl) ?_
  refine g_m_pr hx hb hts hin hown hK hP (hts (.fieldLink RX1 117 RX1 "proof" "J") (by decide +kernel)) dX1_proved_1 ?_
  refine lv_aload_n hx hb dX1_proved_4 rfl (lv_at hl 0 rfl) ?_
  refine lv_aload_n hx hb dX1_proved_5 rfl (lv_at hl 0 rfl) ?_
  refine g_m_aks hx hb hts hin hown hK hP (hts (.fieldLink RX1 21 RX1 "keySecret" "[J") (by decide +kernel)) dX1_proved_6 ?_
  refine lv_iload_n hx hb dX1_proved_9 rfl (lv_at hl 2 rfl) ?_
  refine l_m_ks hx hb hK hP (xat_self hk) dX1_proved_10 ?_
  refine lv_iload_n hx hb dX1_proved_11 rfl (lv_at hl 1 rfl) ?_
  refine lv_iload_n hx hb dX1_proved_12 rfl (lv_at hl 3 rfl) ?_
  refine lv_lload hx hb dX1_proved_13 (lv_at hl 4 rfl) ?_
  refine xcall_l (va_runV (As := [.long (m_ks S k.toNatClampNeg), .int q, .int cm, .long pa]) (rest := [.long (m_pr S)]) ⟨hx, hb, hml, hown, hts⟩ (c_X1_rightFor l dC dI ad cL cZ cI S ro hd s.heap.size (m_ks S k.toNatClampNeg) q cm pa hq ) (cwV 4 hts gX1_proved_X1_rightFor rfl rfl rfl (by decide +kernel) ⟨Nat.le_of_ble_eq_true rfl, Nat.le_of_ble_eq_true rfl⟩) (xpV_w [.long (m_ks S k.toNatClampNeg), .int q, .int cm, .long pa] hK hP hD (va_recv hK hP (ci := 1) (q0 := 0) rfl rfl)) rfl rfl hl.1 rfl (lv_room (Nat.le_of_ble_eq_true rfl)) dX1_proved_15 ⟨Nat.le_of_ble_eq_true rfl, Nat.le_of_ble_eq_true rfl⟩) hD hS hA (fun r u H locs hw hP hD hS => ?_)
  obtain ⟨u1, rw1, hd1⟩ := u
  obtain ⟨rfl, hu1⟩ := hw
  change u1 = S at hu1
  change va_P _ vwCl (wM ad cL cZ cI u1 rw1 hd1) _ at hP
  change va_D _ (wM ad cL cZ cI u1 rw1 hd1) at hD
  rw [hu1] at hP hD
  refine W.lcmp hx hb dX1_proved_18 ?_
  refine lv_if_ne (tgt := 26) hx hb dX1_proved_19 (by decide) (fun c19 => ?_) (fun c19 => ?_)
  · skip
    refine lv_iconst (v := 0) hx hb dX1_proved_26 (by decide) ?_
    refine lv_istore (lv' := [(6, .int (0 : Int32)), (0, .ref (ad 0)), (1, .int q), (2, .int k), (3, .int cm), (4, .long pa)]) hx hb dX1_proved_27 hl (by decide) rfl (fun ls hl => ?_)
    refine lv_aload_n hx hb dX1_proved_29 rfl (lv_at hl 1 rfl) ?_
    refine lv_dup hx hb dX1_proved_30 rfl ?_
    refine g_m_dr hx hb hts hin hown hK hP (hts (.fieldLink RX1 93 RX1 "drawn" "J") (by decide +kernel)) dX1_proved_31 ?_
    refine lv_lconst (v := 1) hx hb dX1_proved_34 (by decide) ?_
    refine lv_ladd hx hb dX1_proved_35 ?_
    refine p_m_dr hx hb hts hin hown hK hP hD hS (hts (.fieldLink RX1 93 RX1 "drawn" "J") (by decide +kernel)) dX1_proved_36 (fun H locs hP hD hS => ?_)
    refine lv_aload_n hx hb dX1_proved_39 rfl (lv_at hl 1 rfl) ?_
    refine g_m_asd hx hb hts hin hown hK hP (hts (.fieldLink RX1 33 RX1 "sessionDrawn" "[J") (by decide +kernel)) dX1_proved_40 ?_
    refine lv_iload_n hx hb dX1_proved_43 rfl (lv_at hl 2 rfl) ?_
    refine lv_aload_n hx hb dX1_proved_44 rfl (lv_at hl 1 rfl) ?_
    refine g_m_dr hx hb hts hin hown hK hP (hts (.fieldLink RX1 93 RX1 "drawn" "J") (by decide +kernel)) dX1_proved_45 ?_
    refine s_m_sd hx hb hK hP hD hS (xat_self hq) dX1_proved_48 (fun H locs hP hD hS => ?_)
    have hP : va_P (dC, dI) vwCl (wM ad cL cZ cI (M_anew S q) rw1 hd1) H := hP
    have hD : va_D A (wM ad cL cZ cI (M_anew S q) rw1 hd1) := hD
    refine lv_aload_n hx hb dX1_proved_49 rfl (lv_at hl 1 rfl) ?_
    refine lv_iload hx hb dX1_proved_50 (lv_at hl 0 rfl) ?_
    refine lv_if_eq (tgt := 59) hx hb dX1_proved_52 (by decide) (fun c52 => ?_) (fun c52 => ?_)
    · skip
      refine lv_aload_n hx hb dX1_proved_59 rfl (lv_at hl 1 rfl) ?_
      refine g_m_fa hx hb hts hin hown hK hP (hts (.fieldLink RX1 120 RX1 "failures" "I") (by decide +kernel)) dX1_proved_60 ?_
      refine lv_iconst (v := 1) hx hb dX1_proved_63 (by decide) ?_
      refine lv_iadd hx hb dX1_proved_64 ?_
      refine p_m_fa hx hb hts hin hown hK hP hD hS (hts (.fieldLink RX1 120 RX1 "failures" "I") (by decide +kernel)) dX1_proved_65 (fun H locs hP hD hS => ?_)
      refine lv_aload_n hx hb dX1_proved_68 rfl (lv_at hl 1 rfl) ?_
      refine lv_iload hx hb dX1_proved_69 (lv_at hl 0 rfl) ?_
      refine lv_if_eq (tgt := 81) hx hb dX1_proved_71 (by decide) (fun c71 => ?_) (fun c71 => ?_)
      · skip
        refine lv_lconst (v := 0) hx hb dX1_proved_81 (by decide) ?_
        refine p_m_ou hx hb hts hin hown hK hP hD hS (hts (.fieldLink RX1 123 RX1 "output" "J") (by decide +kernel)) dX1_proved_82 (fun H locs hP hD hS => ?_)
        refine lv_iload hx hb dX1_proved_85 (lv_at hl 0 rfl) ?_
        exact W.zret (v := (0 : Int32)) hx hb hr rfl (fun t ht hW => ⟨⟨_, ((mu_ou (mu_fa (M_anew S q) ((m_fa (M_anew S q)) + (1 : Int32))) (0 : Int64)), rw1, hd1), rfl, ⟨(by simp only [M_proved, if_neg c19, if_pos c52, if_pos c71] <;> rfl), (by simp only [M_proved, if_neg c19, if_pos c52, if_pos c71] <;> rfl)⟩, by rw [ht]; exact hP, va_K.moved hW.alike hK, hD⟩, hS.F ht⟩) hS.2.2 dX1_proved_87
      · skip
        exact absurd c52 c71
    · skip
      exact absurd c52 (by decide)
  · skip
    refine lv_iconst (v := 1) hx hb dX1_proved_22 (by decide) ?_
    refine lv_goto (tgt := 27) hx hb dX1_proved_23 (by decide) ?_
    refine lv_istore (lv' := [(6, .int (1 : Int32)), (0, .ref (ad 0)), (1, .int q), (2, .int k), (3, .int cm), (4, .long pa)]) hx hb dX1_proved_27 hl (by decide) rfl (fun ls hl => ?_)
    refine lv_aload_n hx hb dX1_proved_29 rfl (lv_at hl 1 rfl) ?_
    refine lv_dup hx hb dX1_proved_30 rfl ?_
    refine g_m_dr hx hb hts hin hown hK hP (hts (.fieldLink RX1 93 RX1 "drawn" "J") (by decide +kernel)) dX1_proved_31 ?_
    refine lv_lconst (v := 1) hx hb dX1_proved_34 (by decide) ?_
    refine lv_ladd hx hb dX1_proved_35 ?_
    refine p_m_dr hx hb hts hin hown hK hP hD hS (hts (.fieldLink RX1 93 RX1 "drawn" "J") (by decide +kernel)) dX1_proved_36 (fun H locs hP hD hS => ?_)
    refine lv_aload_n hx hb dX1_proved_39 rfl (lv_at hl 1 rfl) ?_
    refine g_m_asd hx hb hts hin hown hK hP (hts (.fieldLink RX1 33 RX1 "sessionDrawn" "[J") (by decide +kernel)) dX1_proved_40 ?_
    refine lv_iload_n hx hb dX1_proved_43 rfl (lv_at hl 2 rfl) ?_
    refine lv_aload_n hx hb dX1_proved_44 rfl (lv_at hl 1 rfl) ?_
    refine g_m_dr hx hb hts hin hown hK hP (hts (.fieldLink RX1 93 RX1 "drawn" "J") (by decide +kernel)) dX1_proved_45 ?_
    refine s_m_sd hx hb hK hP hD hS (xat_self hq) dX1_proved_48 (fun H locs hP hD hS => ?_)
    have hP : va_P (dC, dI) vwCl (wM ad cL cZ cI (M_anew S q) rw1 hd1) H := hP
    have hD : va_D A (wM ad cL cZ cI (M_anew S q) rw1 hd1) := hD
    refine lv_aload_n hx hb dX1_proved_49 rfl (lv_at hl 1 rfl) ?_
    refine lv_iload hx hb dX1_proved_50 (lv_at hl 0 rfl) ?_
    refine lv_if_eq (tgt := 59) hx hb dX1_proved_52 (by decide) (fun c52 => ?_) (fun c52 => ?_)
    · skip
      exact absurd c52 (by decide)
    · skip
      refine lv_iconst (v := 0) hx hb dX1_proved_55 (by decide) ?_
      refine lv_goto (tgt := 65) hx hb dX1_proved_56 (by decide) ?_
      refine p_m_fa hx hb hts hin hown hK hP hD hS (hts (.fieldLink RX1 120 RX1 "failures" "I") (by decide +kernel)) dX1_proved_65 (fun H locs hP hD hS => ?_)
      refine lv_aload_n hx hb dX1_proved_68 rfl (lv_at hl 1 rfl) ?_
      refine lv_iload hx hb dX1_proved_69 (lv_at hl 0 rfl) ?_
      refine lv_if_eq (tgt := 81) hx hb dX1_proved_71 (by decide) (fun c71 => ?_) (fun c71 => ?_)
      · skip
        exact absurd c71 c52
      · skip
        refine lv_aload_n hx hb dX1_proved_74 rfl (lv_at hl 1 rfl) ?_
        refine g_m_ou hx hb hts hin hown hK hP (hts (.fieldLink RX1 123 RX1 "output" "J") (by decide +kernel)) dX1_proved_75 ?_
        refine lv_goto (tgt := 82) hx hb dX1_proved_78 (by decide) ?_
        refine p_m_ou hx hb hts hin hown hK hP hD hS (hts (.fieldLink RX1 123 RX1 "output" "J") (by decide +kernel)) dX1_proved_82 (fun H locs hP hD hS => ?_)
        refine lv_iload hx hb dX1_proved_85 (lv_at hl 0 rfl) ?_
        exact W.zret (v := (1 : Int32)) hx hb hr rfl (fun t ht hW => ⟨⟨_, ((mu_ou (mu_fa (M_anew S q) (0 : Int32)) (m_ou (mu_fa (M_anew S q) (0 : Int32)))), rw1, hd1), rfl, ⟨(by simp only [M_proved, if_pos c19, if_neg c52, if_neg c71] <;> rfl), (by simp only [M_proved, if_pos c19, if_neg c52, if_neg c71] <;> rfl)⟩, by rw [ht]; exact hP, va_K.moved hW.alike hK, hD⟩, hS.F ht⟩) hS.2.2 dX1_proved_87
end
