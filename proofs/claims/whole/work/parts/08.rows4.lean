/-! ends, calls, makings -/
section ZE1
variable {X : ZX} {mc ms pc : Nat} {ls : Nat → Option Value} {st : List Value} {h : ZH} {Q : Option Value → ZH → Prop}
theorem zAt.end {p : Program} {Rm : Room} {s : State} {m : MethodId} {args : Array Value} {meth : Method} {c : Code} {H : Heap} {locs : List Loc} {cells slots : Nat} {D : va_G} {tc : Nat → ClassId} {g : ZG} {A : Nat → Prop} {MC MS : Nat} {lsA : Array Slot} (C : zAt X mc ms ls h p Rm s m args meth c H locs cells slots D tc g A MC MS lsA) {r : Option Value} (hq : Q r h) : ∀ t : State, t.heap = H → s.WarmedH t.vm → zPost D tc g A Q args s (.returned (r.map (zc g))) t := fun t ht hW =>
  ⟨⟨r, h, rfl, hq, ⟨by rw [ht]; exact C.2.2.2.1.1.1, by rw [ht]; exact C.2.2.2.1.1.2⟩, va_K.moved hW.alike C.2.2.1.1, C.2.2.2.1.2.1⟩, C.2.2.2.1.2.2.F ht⟩
theorem z_iret {v : Int32} (hd : decode X.2.1 pc = .ok (.ireturn, 1)) (hr : X.2.2.2.1 = some .int) (hq : Q (some (.int v)) h) : Zf X mc ms pc ls [.int v] h Q := by
  intro p l e Rm s m args below meth c H locs cells slots D tc g A MC MS lsA C
  have h1 := C.2.1.2.2.1
  have h2 := C.2.1.2.2.2.2.1
  refine W.widen (k := MC) (n := MS) (by omega) (by omega) ?_
  exact W.iret C.1.1 C.1.2.1 (C.1.2.2.1.trans hr) (C.end hq) C.2.2.2.1.2.2.2.2 hd C.1.2.2.2.2.2.2.1
theorem z_zret {v : Int32} (hd : decode X.2.1 pc = .ok (.ireturn, 1)) (hr : X.2.2.2.1 = some .boolean) (hv : v = 0 ∨ v = 1) (hq : Q (some (.int v)) h) : Zf X mc ms pc ls [.int v] h Q := by
  intro p l e Rm s m args below meth c H locs cells slots D tc g A MC MS lsA C
  have h1 := C.2.1.2.2.1
  have h2 := C.2.1.2.2.2.2.1
  refine W.widen (k := MC) (n := MS) (by omega) (by omega) ?_
  exact W.zret (ty := .boolean) C.1.1 C.1.2.1 (C.1.2.2.1.trans hr) (by rcases hv with rfl | rfl <;> rfl) (C.end hq) C.2.2.2.1.2.2.2.2 hd C.1.2.2.2.2.2.2.1
theorem z_vret (hd : decode X.2.1 pc = .ok (.return_, 1)) (hr : X.2.2.2.1 = none) (hq : Q none h) : Zf X mc ms pc ls [] h Q := by
  intro p l e Rm s m args below meth c H locs cells slots D tc g A MC MS lsA C
  have h1 := C.2.1.2.2.1
  have h2 := C.2.1.2.2.2.2.1
  refine W.widen (k := MC) (n := MS) (by omega) (by omega) ?_
  exact W.vret C.1.1 C.1.2.1 (C.1.2.2.1.trans hr) (C.end hq) C.2.2.2.1.2.2.2.2 hd C.1.2.2.2.2.2.2.1
/-- calls -/
def zInv (own : String) (index : Nat) (y : MethodName) (cc : ByteArray) (nL : Nat) (ret : Option FieldType) (na : Nat) : Prop := Cond.methodLink own index y ∈ zTB ∧ Cond.code y cc nL ret ∈ zTB ∧ Cond.initialized y.cls ∈ zTB ∧ (y.cls ≠ "java/lang/invoke/MethodHandle" ∧ y.cls ≠ "java/lang/invoke/VarHandle" ∧ (parseMethodDescriptor y.desc).map (fun d => d.parameters.length) = some na)
def zIns (y : MethodName) : Prop := Cond.instanceMethod y ∈ zTB ∧ Cond.selects y.cls y y ∈ zTB
theorem zGood {y : MethodName} {cc : ByteArray} {nL : Nat} {ret : Option FieldType} (hc : Cond.code y cc nL ret ∈ zTB) : GoodIn zTB (zws y cc nL ret) := fun w hw => by
  rcases List.mem_cons.mp hw with rfl | h
  · exact ⟨hc, good_of_word (zTB_good hc)⟩
  · exact ⟨h, good_of_word (zTB_good h)⟩
theorem zAt.sub {p : Program} {Rm : Room} {s : State} {m : MethodId} {args : Array Value} {meth : Method} {c : Code} {H : Heap} {locs : List Loc} {cells slots : Nat} {D : va_G} {tc : Nat → ClassId} {g : ZG} {A : Nat → Prop} {MC MS : Nat} {lsA : Array Slot} (C : zAt X mc ms ls h p Rm s m args meth c H locs cells slots D tc g A MC MS lsA) : ∀ q, va_A (zW tc g h) H.size q → A q := by
  intro q hq
  rcases hq with ⟨k, e, hk⟩ | hq
  · exact C.2.2.2.1.2.1.2 k (q, e) hk
  · exact C.2.2.1.2.2 q (Nat.le_trans C.2.2.2.1.2.2.1 hq)
theorem zBlind {D : va_G} {tc : Nat → ClassId} {g : ZG} {h : ZH} {sz : Nat} {av : List Value} : FrameBlind (va_Pc av (fun U => U.heap.size = sz ∧ zHp D tc g h U.heap ∧ va_K D vwCl (zty tc) U ∧ va_D (fun _ => True) (zW tc g h) ∧ zG g (va_A (zW tc g h) sz) U U.heap)) := by
  intro a U gf mk q
  obtain ⟨q0, q1, qP, qK, qD, qG⟩ := q
  exact ⟨q0, q1, qP, va_K.moved (u := U) (U := U.calling gf mk a) (Vm.Alike.refl U.vm) qK, qD, zG.same (U := U.calling gf mk a) rfl qG⟩
theorem zAt.pre {p : Program} {Rm : Room} {s : State} {m : MethodId} {args : Array Value} {meth : Method} {c : Code} {H : Heap} {locs : List Loc} {cells slots : Nat} {D : va_G} {tc : Nat → ClassId} {g : ZG} {A : Nat → Prop} {MC MS : Nat} {lsA : Array Slot} (C : zAt X mc ms ls h p Rm s m args meth c H locs cells slots D tc g A MC MS lsA) (U : State) (hU : U.heap = H) (hW : s.WarmedH U.vm) : U.heap.size = H.size ∧ zHp D tc g h U.heap ∧ va_K D vwCl (zty tc) U ∧ va_D (fun _ => True) (zW tc g h) ∧ zG g (va_A (zW tc g h) H.size) U U.heap := by
  refine ⟨by rw [hU], by rw [hU]; exact C.2.2.2.1.1, va_K.moved hW.alike C.2.2.1.1, C.2.2.2.1.2.1.weaken (fun _ _ _ _ => trivial), ?_⟩
  rw [hU]
  exact zG.warm hW ((C.2.2.1.2.1.kept C.2.2.2.1.2.2.2.1).narrow C.sub)
theorem z_after {p : Program} {l : Launch} {e : Env} {Rm : Room} {s : State} {m : MethodId} {args : Array Value} {below : List Frame} {meth : Method} {c : Code} {H : Heap} {locs : List Loc} {cells slots : Nat} {D : va_G} {tc : Nat → ClassId} {g : ZG} {A : Nat → Prop} {MC MS mc' ms' mc2 ms2 : Nat} {lsA : Array Slot} {st0 : List Value} {a : Array Value} {Qy : Option Value → ZH → Prop}
    (C : zAt X mc ms ls h p Rm s m args meth c H locs cells slots D tc g A MC MS lsA) (hm : mc2 + mc' ≤ mc) (hs : ms2 + ms' ≤ ms) (hr : va_Run p l e Rm s m args below meth c H locs cells slots mc' ms' (F0 m pc lsA st0) (st.map (zc g)) (zPost D tc g (va_A (zW tc g h) H.size) Qy a) (va_A (zW tc g h) H.size))
    (kk : ∀ (r : Option Value) (h2 : ZH), Qy r h2 → Zf X mc2 ms2 (pc + 3) ls (r.toList ++ st) h2 Q) : W p l e Rm s m args below meth c H locs cells slots (MQ below (zPost D tc g A Q) args s MC MS A) (F0 m pc lsA st0) := by
  intro T hT Xs
  obtain ⟨v, st₀, t, T', L, h0, X', hL, e1, e2, ⟨⟨r, h2, hv, hq, hHp, hK1, hD1⟩, hz, hkp⟩, stp⟩ := hr T hT Xs
  have hv' : v = r.map (zc g) := by injection hv
  subst hv'
  rw [h0] at hz hkp
  have hsub := C.sub
  have g1 := C.2.1.2.2.1
  have g2 := C.2.1.2.2.2.2.1
  have C2 : zAt X mc2 ms2 ls h2 p Rm s m args meth c T'.heap (locs ++ L) (cells + mc') (slots + ms') D tc g A MC MS lsA := by
    refine ⟨C.1, ⟨C.2.1.1, C.2.1.2.1, by omega, C.2.1.2.2.2.1, by omega, C.2.1.2.2.2.2.2⟩, C.2.2.1, ⟨by rw [e1]; exact hHp, hD1.weaken (fun k q _ hA => hsub q.1 hA), ?_⟩, C.2.2.2.2⟩
    have hS := C.2.2.2.1.2.2
    refine ⟨Nat.le_trans hS.1 (by rw [e1]; exact hz), fun q h1 h3 => ?_, fun q hq => ?_⟩
    · rw [e1, hkp q (Nat.lt_of_lt_of_le h1 hS.1) (fun w => h3 (hsub q w))]
      exact hS.2.1 q h1 h3
    · rcases List.mem_append.mp hq with w | w
      · exact hS.2.2 q w
      · exact hsub _ (hL q w)
  obtain ⟨t2, a1, b1⟩ := kk r h2 hq p l e Rm s m args below meth c T'.heap (locs ++ L) (cells + mc') (slots + ms') D tc g A MC MS lsA C2 T' rfl X'
  refine ⟨t2, stp t2 ?_, b1⟩
  have he : (r.map (zc g)).toList ++ st.map (zc g) = (r.toList ++ st).map (zc g) := by cases r <;> rfl
  rw [he]
  exact a1
theorem z_room {g : ZG} {m : MethodId} {lsA : Array Slot} {s0 : List Value} (hst : (st.map Value.category).sum ≤ 8) : 2 * (F0 m pc lsA s0).monitorRoom + ((st.map (zc g)).map fun v => v.category).sum ≤ 8 := by
  refine lv_room ?_
  rw [List.map_map]
  have : ((fun v : Value => v.category) ∘ zc g) = Value.category := funext (fun v => z_cat g v)
  rw [this]
  exact hst
theorem z_callS {index na mc' ms' mc2 ms2 fr lo : Nat} {y : MethodName} {cc : ByteArray} {nL : Nat} {ret : Option FieldType} {as : List Value} {Qy : Option Value → ZH → Prop} {s0 : List Value} (hi : zInv X.1 index y cc nL ret na) (hy : Cond.static y ∈ zTB) (hm : Zm y cc nL ret fr lo mc' ms' as h Qy) (hd : decode X.2.1 pc = .ok (.invokestatic index, 3)) (hs0 : s0 = as.reverse ++ st) (hna : as.length = na) (hfr : fr + 1 ≤ X.2.2.2.2.2.1) (hlo : 8 + (nL + 11) + lo ≤ X.2.2.2.2.2.2.1) (hst : (st.map Value.category).sum ≤ 8) (hmc : mc2 + mc' ≤ mc) (hms : ms2 + ms' ≤ ms)
    (kk : ∀ (r : Option Value) (h2 : ZH), Qy r h2 → Zf X mc2 ms2 (pc + 3) ls (r.toList ++ st) h2 Q) : Zf X mc ms pc ls s0 h Q := by
  intro p l e Rm s m args below meth c H locs cells slots D tc g A MC MS lsA C
  subst hs0
  have hts := C.1.2.2.2.2.2.1
  have g1 := C.2.1.2.2.1
  have g2 := C.2.1.2.2.2.2.1
  have g3 := C.2.1.2.2.2.1
  have g4 := C.2.1.2.2.2.2.2
  have g5 := C.2.1.1
  have g6 := C.2.1.2.1
  obtain ⟨h1, h2, h3, h4⟩ := hi
  refine z_after (mc' := mc') (ms' := ms') (a := (as.map (zc g)).toArray) C hmc hms (va_runS (As := as.map (zc g)) (rest := st.map (zc g)) ⟨C.1.1, C.1.2.1, C.1.2.2.2.1, C.1.2.2.2.2.1, hts⟩ (hm l D tc g H.size) ⟨callB_of na hts (zGood h2) rfl rfl rfl (hts _ h3) (hts _ h1) h4 ⟨by show fr + 1 ≤ _; omega, by show 8 + (nL + 11) + lo ≤ _; omega⟩, hts _ hy⟩ ⟨zBlind, fun U hU hW => ⟨rfl, C.pre U hU hW⟩⟩ rfl (by rw [List.length_map]; exact hna) C.2.2.2.2.1 (by simp [List.map_append, List.map_reverse]) (z_room hst) hd ⟨by omega, by omega⟩) kk
theorem z_callV {index na mc' ms' mc2 ms2 fr lo a ci : Nat} {y : MethodName} {cc : ByteArray} {nL : Nat} {ret : Option FieldType} {as : List Value} {Qy : Option Value → ZH → Prop} {s0 : List Value} {T : u_T} {N : Nat} (hi : zInv X.1 index y cc nL ret na) (hy : zIns y) (hm : Zm y cc nL ret fr lo mc' ms' (.ref a :: as) h Qy) (hd : decode X.2.1 pc = .ok (.invokevirtual index, 3)) (ha : a < h.1) (hk : (h.2.1 a).1 = ci + 5) (hc : vwCl[ci]? = some (y.cls, T, N)) (hs0 : s0 = as.reverse ++ .ref a :: st) (hna : as.length = na) (hfr : fr + 1 ≤ X.2.2.2.2.2.1) (hlo : 8 + (nL + 11) + lo ≤ X.2.2.2.2.2.2.1) (hst : (st.map Value.category).sum ≤ 8) (hmc : mc2 + mc' ≤ mc) (hms : ms2 + ms' ≤ ms)
    (kk : ∀ (r : Option Value) (h2 : ZH), Qy r h2 → Zf X mc2 ms2 (pc + 3) ls (r.toList ++ st) h2 Q) : Zf X mc ms pc ls s0 h Q := by
  intro p l e Rm s m args below meth c H locs cells slots D tc g A MC MS lsA C
  subst hs0
  have hts := C.1.2.2.2.2.2.1
  have g1 := C.2.1.2.2.1
  have g2 := C.2.1.2.2.2.2.1
  have g3 := C.2.1.2.2.2.1
  have g4 := C.2.1.2.2.2.2.2
  have g5 := C.2.1.1
  have g6 := C.2.1.2.1
  obtain ⟨h1, h2, h3, h4⟩ := hi
  have he : (zW tc g h)[a]? = some (g.1 a, .inr (ci, zFg g (h.2.2.1 a) (h.2.2.2.2 a) 0 (zT ci))) := by
    rw [zW_at ha]
    obtain ⟨n, K, I, L, R⟩ := h
    rw [zE_o (c := ci) (z := (K a).2) (Prod.ext hk rfl)]
  refine z_after (mc' := mc') (ms' := ms') (a := (Value.ref (g.1 a) :: as.map (zc g)).toArray) C hmc hms (va_runV (C := y.cls) (b := g.1 a) (As := as.map (zc g)) (rest := st.map (zc g)) ⟨C.1.1, C.1.2.1, C.1.2.2.2.1, C.1.2.2.2.2.1, hts⟩ (hm l D tc g H.size) ⟨callB_of na hts (zGood h2) rfl rfl rfl (hts _ h3) (hts _ h1) h4 ⟨by show fr + 1 ≤ _; omega, by show 8 + (nL + 11) + lo ≤ _; omega⟩, hts _ hy.1, hts _ hy.2⟩ ⟨zBlind, va_recv C.2.2.1.1 C.2.2.2.1.1.1 hc he, fun U hU hW => ⟨rfl, C.pre U hU hW⟩⟩ rfl (by rw [List.length_map]; exact hna) C.2.2.2.2.1 (by simp [List.map_append, List.map_reverse, zc]) (z_room hst) hd ⟨by omega, by omega⟩) kk
theorem z_callI {index na mc' ms' mc2 ms2 fr lo a : Nat} {y : MethodName} {cc : ByteArray} {nL : Nat} {as : List Value} {Qy : Option Value → ZH → Prop} {s0 : List Value} (hi : zInv X.1 index y cc nL none na) (hy : Cond.instanceMethod y ∈ zTB) (hyn : y.name = "<init>") (hm : Zm y cc nL none fr lo mc' ms' (.ref a :: as) h Qy) (hd : decode X.2.1 pc = .ok (.invokespecial index, 3)) (hs0 : s0 = as.reverse ++ .ref a :: st) (hna : as.length = na) (hfr : fr + 1 ≤ X.2.2.2.2.2.1) (hlo : 8 + (nL + 11) + lo ≤ X.2.2.2.2.2.2.1) (hst : (st.map Value.category).sum ≤ 8) (hmc : mc2 + mc' ≤ mc) (hms : ms2 + ms' ≤ ms)
    (kk : ∀ (r : Option Value) (h2 : ZH), Qy r h2 → Zf X mc2 ms2 (pc + 3) ls (r.toList ++ st) h2 Q) : Zf X mc ms pc ls s0 h Q := by
  intro p l e Rm s m args below meth c H locs cells slots D tc g A MC MS lsA C
  subst hs0
  have hts := C.1.2.2.2.2.2.1
  have g1 := C.2.1.2.2.1
  have g2 := C.2.1.2.2.2.2.1
  have g3 := C.2.1.2.2.2.1
  have g4 := C.2.1.2.2.2.2.2
  have g5 := C.2.1.1
  have g6 := C.2.1.2.1
  obtain ⟨h1, h2, h3, h4⟩ := hi
  refine z_after (mc' := mc') (ms' := ms') (a := (Value.ref (g.1 a) :: as.map (zc g)).toArray) C hmc hms (va_runI (b := g.1 a) (As := as.map (zc g)) (rest := st.map (zc g)) ⟨C.1.1, C.1.2.1, C.1.2.2.2.1, C.1.2.2.2.2.1, hts⟩ (hm l D tc g H.size) ⟨callB_of na hts (zGood h2) rfl rfl rfl (hts _ h3) (hts _ h1) h4 ⟨by show fr + 1 ≤ _; omega, by show 8 + (nL + 11) + lo ≤ _; omega⟩, hyn, hts _ hy⟩ ⟨zBlind, fun U hU hW => ⟨rfl, C.pre U hU hW⟩⟩ rfl (by rw [List.length_map]; exact hna) C.2.2.2.2.1 (by simp [List.map_append, List.map_reverse, zc]) (z_room hst) hd ⟨by omega, by omega⟩) kk
end ZE1
