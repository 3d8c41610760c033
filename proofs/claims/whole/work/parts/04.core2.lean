def zS0 (j : Nat) : Int32 := ([1, 1, 1, 1, 1, 1, 3, 1, 2, 2, 1, 3, 3, 1, 2, 2, 1, 3, 1, 1, 1, 1, 1, 1] : List Int32).getD j 0
def zS1 (j : Nat) : Int32 := ([1, 1, 3, 3, 1, 1, 1, 1, 2, 2, 1, 1, 1, 1, 2, 2, 1, 1, 1, 1, 3, 3, 1, 1] : List Int32).getD j 0
def zSx (i : Nat) : Nat × String := ([(64, "all"), (66, "and"), (68, "wet"), (70, "day"), (72, "age"), (74, "shut"), (76, "when"), (78, "warm"), (80, "mean"), (82, "hour"), (56, "least"), (62, "played")] : List (Nat × String)).getD i (0, "")
def zLen : List Nat := [3, 3, 3, 3, 3, 4, 4, 4, 4, 4, 5, 6]
def zByt : List (List Int32) := [[97, 108, 108], [97, 110, 100], [119, 101, 116], [100, 97, 121], [97, 103, 101], [115, 104, 117, 116], [119, 104, 101, 110], [119, 97, 114, 109], [109, 101, 97, 110], [104, 111, 117, 114], [108, 101, 97, 115, 116], [112, 108, 97, 121, 101, 100]]
def zNest : List (Nat × MethodName) := [(41, yX0_init), (48, yX5_init), (53, yX6_init), (69, yX4_init)]
/-- what lies outside the zone: two static rows, the String constants -/
def zG (g : ZG) (A : Nat → Prop) (s : State) (H : Heap) : Prop :=
  va_Z RX7 "STANDING_0" "[I" (.ref (g.2 100)) A s H ∧ va_T .int (g.2 100) 24 (fun j => .int (zS0 j)) A s H ∧ va_Z RX7 "STANDING_1" "[I" (.ref (g.2 101)) A s H ∧ va_T .int (g.2 101) 24 (fun j => .int (zS1 j)) A s H ∧ vk_S 12 zLen zByt g.2 (fun i => g.2 (200 + i)) A s H ∧ (∀ i : Nat, i < 12 → vk_R RX6 (zSx i).1 (zSx i).2 (g.2 i) s) ∧ ((∀ q ∈ zNest, va_Nw (.methodLinkNest RX8 q.1 q.2 RX8) s) ∧ va_AO RX2 s ∧ va_AO RX1 s) ∧ va_Z RJ0 "COMPACT_STRINGS" "Z" (.int 1) A s H ∧ (va_Z RJ3 "SIOOBE_FORMATTER" "Ljava/util/function/BiFunction;" .null A s H ∨ va_Z RJ3 "SIOOBE_FORMATTER" "Ljava/util/function/BiFunction;" (.ref (g.2 102)) A s H)
theorem zG.kept {g : ZG} {A : Nat → Prop} {s : State} {H H1 : Heap} (h : zG g A s H) (hq : ∀ a : Nat, a < H.size → ¬ A a → H1[a]? = H[a]?) : zG g A s H1 := by
  obtain ⟨h1, h2, h3, h4, h5, h6, h7, h8, h9⟩ := h
  exact ⟨h1.kept hq, h2.kept hq, h3.kept hq, h4.kept hq, h5.kept hq, h6, h7, h8.kept hq, h9.imp (fun q => q.kept hq) (fun q => q.kept hq)⟩
theorem zG.narrow {g : ZG} {A B : Nat → Prop} {s : State} {H : Heap} (h : zG g A s H) (hAB : ∀ q, B q → A q) : zG g B s H := by
  obtain ⟨h1, h2, h3, h4, h5, h6, h7, h8, h9⟩ := h
  exact ⟨h1.narrow hAB, h2.narrow hAB, h3.narrow hAB, h4.narrow hAB, h5.narrow hAB, h6, h7, h8.narrow hAB, h9.imp (fun q => q.narrow hAB) (fun q => q.narrow hAB)⟩
theorem zG.warm {g : ZG} {A : Nat → Prop} {s U : State} {H : Heap} (hW : s.WarmedH U.vm) (h : zG g A s H) : zG g A U H := by
  obtain ⟨h1, h2, h3, h4, h5, h6, h7, h8, h9⟩ := h
  exact ⟨h1.moved hW.alike, h2.moved hW.alike, h3.moved hW.alike, h4.moved hW.alike, h5.moved hW.alike, fun i hi => (h6 i hi).warm hW, ⟨fun q hq => va_Nw.warmM hW (h7.1 q hq), h7.2.1.moved hW.alike, h7.2.2.moved hW.alike⟩, h8.moved hW.alike, h9.imp (fun q => q.moved hW.alike) (fun q => q.moved hW.alike)⟩
theorem zG.same {g : ZG} {A : Nat → Prop} {s U : State} {H : Heap} (hv : U.vm = s.vm) (h : zG g A s H) : zG g A U H := by
  obtain ⟨h1, h2, h3, h4, h5, h6, h7, h8, h9⟩ := h
  have ha : s.vm.Alike U.vm := by rw [hv]; exact Vm.Alike.refl _
  exact ⟨h1.moved ha, h2.moved ha, h3.moved ha, h4.moved ha, h5.moved ha, fun i hi => (h6 i hi).same hv, ⟨fun q hq => va_Nw.same rfl hv.symm (h7.1 q hq), h7.2.1.moved ha, h7.2.2.moved ha⟩, h8.moved ha, h9.imp (fun q => q.moved ha) (fun q => q.moved ha)⟩
/-- the end of a method -/
def zPost (D : va_G) (tc : Nat → ClassId) (g : ZG) (A : Nat → Prop) (Q : Option Value → ZH → Prop) : Array Value → State → Outcome → State → Prop := fun _ st o t =>
  (∃ (r : Option Value) (h : ZH), o = .returned (r.map (zc g)) ∧ Q r h ∧ zHp D tc g h t.heap ∧ va_K D vwCl (zty tc) t ∧ va_D A (zW tc g h)) ∧ va_F A st t
/-- the machine stands in a method of X, over the heap h -/
def zAt (X : ZX) (mc ms : Nat) (ls : Nat → Option Value) (h : ZH) (p : Program) (Rm : Room) (s : State) (m : MethodId) (args : Array Value) (meth : Method) (c : Code) (H : Heap) (locs : List Loc) (cells slots : Nat) (D : va_G) (tc : Nat → ClassId) (g : ZG) (A : Nat → Prop) (MC MS : Nat) (lsA : Array Slot) : Prop :=
  (p.tables.exec = Jvm.exec ∧ c.code = X.2.1 ∧ meth.sig.returnType = X.2.2.2.1 ∧ c.maxLocals = X.2.2.1 ∧ s.vm.findClass X.1 = some m.cls ∧ (∀ w ∈ zTB, w.before args s = true) ∧ meth.locks = false ∧ meth.name = X.2.2.2.2.1) ∧
  (X.2.2.2.2.2.1 ≤ Rm.frames ∧ X.2.2.2.2.2.2.1 ≤ Rm.locals ∧ cells + mc ≤ MC ∧ MC ≤ Rm.cells ∧ slots + ms ≤ MS ∧ MS ≤ Rm.slots) ∧
  (va_K D vwCl (zty tc) s ∧ zG g A s s.heap ∧ ∀ q, s.heap.size ≤ q → A q) ∧
  (zHp D tc g h H ∧ va_D A (zW tc g h) ∧ va_S A s.heap H locs) ∧ zlv X.2.2.2.2.2.2.2 X.2.2.1 g ls lsA
def Zf (X : ZX) (mc ms : Nat) (pc : Nat) (ls : Nat → Option Value) (st : List Value) (h : ZH) (Q : Option Value → ZH → Prop) : Prop :=
  ∀ (p : Program) (l : Launch) (e : Env) (Rm : Room) (s : State) (m : MethodId) (args : Array Value) (below : List Frame) (meth : Method) (c : Code) (H : Heap) (locs : List Loc) (cells slots : Nat) (D : va_G) (tc : Nat → ClassId) (g : ZG) (A : Nat → Prop) (MC MS : Nat) (lsA : Array Slot),
    zAt X mc ms ls h p Rm s m args meth c H locs cells slots D tc g A MC MS lsA → W p l e Rm s m args below meth c H locs cells slots (MQ below (zPost D tc g A Q) args s MC MS A) (F0 m pc lsA (st.map (zc g)))
def zws (y : MethodName) (cc : ByteArray) (nL : Nat) (ret : Option FieldType) : List Cond := Cond.code y cc nL ret :: zTB
/-- a method's contract over the abstract heap -/
def Zm (y : MethodName) (cc : ByteArray) (nL : Nat) (ret : Option FieldType) (fr lo mc ms : Nat) (as : List Value) (h : ZH) (Q : Option Value → ZH → Prop) : Prop :=
  ∀ (l : Launch) (D : va_G) (tc : Nat → ClassId) (g : ZG) (sz : Nat),
    Met l y (zws y cc nL ret) ({ frames := fr, cells := mc, slots := ms, locals := lo })
      (va_Pc (as.map (zc g)) (fun U => U.heap.size = sz ∧ zHp D tc g h U.heap ∧ va_K D vwCl (zty tc) U ∧ va_D (fun _ => True) (zW tc g h) ∧ zG g (va_A (zW tc g h) sz) U U.heap))
      (zPost D tc g (va_A (zW tc g h) sz) Q) mc ms (va_A (zW tc g h) sz)
def zargs (as : List Value) : Nat → Option Value := fun i => (lv_args 0 as).lookup i
theorem z_look {g : ZG} : ∀ (as : List Value) (k i : Nat) (v : Value), (∀ w ∈ as, (zc g w).category = w.category) → (lv_args k as).lookup i = some v → (i, zc g v) ∈ lv_args k (as.map (zc g))
  | [], k, i, v, _, h => by simp [lv_args] at h
  | a :: as, k, i, v, hc, h => by
    have h0 := hc a List.mem_cons_self
    simp only [lv_args, List.lookup_cons] at h
    simp only [List.map_cons, lv_args]
    by_cases hi : i = k
    · subst hi
      simp at h
      subst h
      exact List.mem_cons_self
    · have : (i == k) = false := by simpa using hi
      rw [this] at h
      simp only at h
      rw [h0]
      exact List.mem_cons_of_mem _ (z_look as _ i v (fun w hw => hc w (List.mem_cons_of_mem _ hw)) h)
theorem z_cat (g : ZG) (v : Value) : (zc g v).category = v.category := by cases v <;> rfl
theorem z_args_cat {as : List Value} (hc : ∀ w ∈ as, w.category = 1) : ∀ (k i : Nat) (v : Value), (lv_args k as).lookup i = some v → v.category = 1 := by
  induction as with
  | nil => intro k i v h; simp [lv_args] at h
  | cons a as ih =>
    intro k i v h
    simp only [lv_args, List.lookup_cons] at h
    by_cases hi : i = k
    · subst hi
      simp at h
      subst h
      exact hc _ List.mem_cons_self
    · have : (i == k) = false := by simpa using hi
      rw [this] at h
      exact ih (fun w hw => hc w (List.mem_cons_of_mem _ hw)) _ i v h
theorem Zm_of {y : MethodName} {cc : ByteArray} {nL : Nat} {ret : Option FieldType} {fr lo mc ms : Nat} {lg : Bool} {as : List Value} {h : ZH} {Q : Option Value → ZH → Prop} (hy : plainName y.cls = true) (hcat : lg = false → ∀ w ∈ as, w.category = 1) (hlen : ∀ g : ZG, (lg_sl (as.map (zc g))).length ≤ nL)
    (body : Zf (y.cls, cc, nL, ret, y.name, fr, lo, lg) mc ms 0 (zargs as) [] h Q) : Zm y cc nL ret fr lo mc ms as h Q := by
  intro l D tc g sz
  refine Met.ofW (cc := cc) (maxL := nL) (ret := ret) hy rfl ?_
  intro p e s m args below meth c s₁ B hml hv
  obtain ⟨rfl, hsz, hHp, hK, hD0, hG⟩ := hv
  subst hsz
  have hts := atoms_spec (ws := zws y cc nL ret) B.pre
  rw [lg_entry_eq]
  have hl := lv_entry (as.map (zc g)) (n := nL) (hlen g)
  refine body p l e _ s m _ below meth c s.heap [] 0 0 D tc g (va_A (zW tc g h) s.heap.size) mc ms _ ⟨⟨B.exec, B.bytes, B.returns, hml, findClass_of_methodNamed B.named, fun w hw => hts w (List.mem_cons_of_mem _ hw), B.notSynchronized, (name_of_methodNamed B.named B.method).1⟩, ⟨Nat.le_refl _, Nat.le_refl _, by omega, Nat.le_refl _, by omega, Nat.le_refl _⟩, ⟨hK, hG, fun q hq => Or.inr hq⟩, ⟨hHp, hD0.self, va_S.rf⟩, ?_⟩
  refine ⟨hl.1, hl.2.1, fun i v hi => hl.2.2 (i, zc g v) (z_look as 0 i v (fun w _ => z_cat g w) hi), fun hlg i v hi => ?_⟩
  rw [z_cat]
  exact z_args_cat (hcat hlg) 0 i v hi
