/-! the law's heap rows -/
theorem va_P.l {D : va_G} {cl : List vw_C} {a b : va_W} {H : Heap} (h : va_P D cl (a ++ b) H) : va_P D cl a H := fun k q hk => h k q (by rw [List.getElem?_append_left (List.getElem?_eq_some_iff.mp hk).1]; exact hk)
theorem va_P.r {D : va_G} {cl : List vw_C} {a b : va_W} {H : Heap} (h : va_P D cl (a ++ b) H) : va_P D cl b H := fun k q hk => h (a.length + k) q (by rw [List.getElem?_append_right (by omega), Nat.add_sub_cancel_left]; exact hk)
theorem va_D.l {A : Nat → Prop} {a b : va_W} (h : va_D A (a ++ b)) : va_D A a := ⟨fun i j p q hp hq e => h.1 i j p q (by rw [List.getElem?_append_left (List.getElem?_eq_some_iff.mp hp).1]; exact hp) (by rw [List.getElem?_append_left (List.getElem?_eq_some_iff.mp hq).1]; exact hq) e, fun k q hk => h.2 k q (by rw [List.getElem?_append_left (List.getElem?_eq_some_iff.mp hk).1]; exact hk)⟩
theorem va_D.r {A : Nat → Prop} {a b : va_W} (h : va_D A (a ++ b)) : va_D A b := ⟨fun i j p q hp hq e => by
    have := h.1 (a.length + i) (a.length + j) p q (by rw [List.getElem?_append_right (by omega), Nat.add_sub_cancel_left]; exact hp) (by rw [List.getElem?_append_right (by omega), Nat.add_sub_cancel_left]; exact hq) e
    omega, fun k q hk => h.2 (a.length + k) q (by rw [List.getElem?_append_right (by omega), Nat.add_sub_cancel_left]; exact hk)⟩
theorem va_D.j {A : Nat → Prop} {a b : va_W} (h : va_D A (a ++ b)) : lDj a b := fun i j p q hp hq e => by
  have hi := (List.getElem?_eq_some_iff.mp hp).1
  have := h.1 i (a.length + j) p q (by rw [List.getElem?_append_left hi]; exact hp) (by rw [List.getElem?_append_right (by omega), Nat.add_sub_cancel_left]; exact hq) e
  omega
theorem lDj.sym {a b : va_W} (h : lDj a b) : lDj b a := fun i j p q hp hq e => h j i q p hq hp e.symm
theorem lDj.app {a b c : va_W} (h1 : lDj a b) (h2 : lDj a c) : lDj a (b ++ c) := fun i j p q hp hq e => by
  by_cases hj : j < b.length
  · rw [List.getElem?_append_left hj] at hq
    exact h1 i j p q hp hq e
  · rw [List.getElem?_append_right (by omega)] at hq
    exact h2 i _ p q hp hq e
theorem lDj.l {a b c : va_W} (h : lDj a (b ++ c)) : lDj a b := fun i j p q hp hq e => h i j p q hp (by rw [List.getElem?_append_left (List.getElem?_eq_some_iff.mp hq).1]; exact hq) e
theorem lDj.r {a b c : va_W} (h : lDj a (b ++ c)) : lDj a c := fun i j p q hp hq e => h i (b.length + j) p q hp (by rw [List.getElem?_append_right (by omega), Nat.add_sub_cancel_left]; exact hq) e
def lOut (tc : Nat → ClassId) (o : Nat) (φ : Nat → Int64) : Nat × va_E := (o, .inl (tc 1, 1, .inr (.inl φ)))
/-- no zone yet -/
def lwB (A : Nat → Prop) (MC MS : Nat) (s : State) (D : va_G) (ws : va_W) (mc ms : Nat) : LI := fun H locs cells slots =>
  (cells + mc ≤ MC ∧ slots + ms ≤ MS) ∧ va_S A s.heap H locs ∧ va_P D vwCl ws H ∧ va_D A ws
section LH
variable {X : LXt} {E : LEv} {pc : Nat} {ls : Nat → Option Value} {st : List Value} {A : Nat → Prop} {MC MS : Nat} {D : va_G} {tc : Nat → ClassId} {g2 f f' : Nat → Nat} {h h' : ZH} {ws wo : va_W} {mc ms mc' ms' mc2 ms2 : Nat}
theorem lwZ.B {s : State} {H : Heap} {locs : List Loc} {cells slots : Nat} (h1 : lwZ A MC MS s D tc g2 f h ws mc ms H locs cells slots) : lwB A MC MS s D (zW tc (f, g2) h ++ ws) mc ms H locs cells slots :=
  ⟨h1.1, h1.2.1, h1.2.2.1.1.app h1.2.2.1.2, h1.2.2.2.1.1.app h1.2.2.2.1.2 h1.2.2.2.2⟩
theorem lwZ.swap {s : State} {H : Heap} {locs : List Loc} {cells slots : Nat} (h1 : lwZ A MC MS s D tc g2 f h (zW tc (f', g2) h' ++ wo) mc ms H locs cells slots) : lwZ A MC MS s D tc g2 f' h' (zW tc (f, g2) h ++ wo) mc ms H locs cells slots :=
  ⟨h1.1, h1.2.1, ⟨h1.2.2.1.2.l, h1.2.2.1.1.app h1.2.2.1.2.r⟩, ⟨h1.2.2.2.1.2.l, h1.2.2.2.1.1.app h1.2.2.2.1.2.r h1.2.2.2.2.r⟩, h1.2.2.2.2.l.sym.app h1.2.2.2.1.2.j⟩
theorem lwZ.less {s : State} {H : Heap} {locs : List Loc} {cells slots : Nat} (h1 : lwZ A MC MS s D tc g2 f h ws mc ms H locs cells slots) (hm : mc2 ≤ mc) (hs : ms2 ≤ ms) : lwZ A MC MS s D tc g2 f h ws mc2 ms2 H locs cells slots :=
  ⟨⟨Nat.le_trans (Nat.add_le_add_left hm _) h1.1.1, Nat.le_trans (Nat.add_le_add_left hs _) h1.1.2⟩, h1.2⟩
theorem l_new {index ci w z : Nat} (F : lwF A MC MS E D tc g2) (hw : zNw X.1 index ci w) (hd : decode X.2.1 pc = .ok (.new index, 3)) (h1 : h.1 = 1) (hk : h.2.1 0 = (ci + 5, z)) (hi : ∀ k, h.2.2.1 0 k = 0) (hr : ∀ k, h.2.2.2.2 0 k = none) (hm : mc2 + 1 ≤ mc) (hs : ms2 + w ≤ ms)
    (kk : ∀ f : Nat → Nat, Lf X E (lwZ A MC MS E.s D tc g2 f h ws mc2 ms2) (pc + 3) ls (.ref (f 0) :: st)) : Lf X E (lwB A MC MS E.s D ws mc ms) pc ls st := by
  intro H locs cells slots lsA C hI hL
  obtain ⟨cC, T, ty, ⟨hc, hin, hty, hnm, hlen⟩, w1, w2, w3, hdf⟩ := hw
  have hts := C.2.2.2.2
  have g1 := hI.1.1
  have g4 := hI.1.2
  have g3 := F.1
  have hKn := F.2.1.1 ci _ hc
  have hS := hI.2.1
  refine W.newcK C.1 C.2.1 C.2.2.2.1 (hts _ w1) (hts _ w2) (hts _ w3) rfl hd (by omega) (by omega) hKn.2.1 rfl fun H1 kC hkC e1 z1 o1 => ?_
  obtain ⟨n, K, I, L, R⟩ := h
  have hn : n = 1 := h1
  subst hn
  have hI0 : I 0 = fun _ => 0 := funext hi
  have hR0 : R 0 = fun _ => none := funext hr
  have hz : zW tc ((fun _ => H.size), g2) (1, K, I, L, R) = [(H.size, .inr (ci, zFg ((fun _ => H.size), g2) (fun _ => 0) (fun _ => none) 0 (zT ci)))] := by
    rw [← hI0, ← hR0, ← zE_o (tc := tc) (g := ((fun _ => H.size), g2)) (n := 1) (I := I) (L := L) (R := R) hk]
    rfl
  have hat : va_at D vwCl (H.size, .inr (ci, zFg ((fun _ => H.size), g2) (fun _ => 0) (fun _ => none) 0 (zT ci))) H1 := by
    refine ⟨_, hc, (u_born ty hts hin hKn hkC e1 hty).to (fun j hj => ?_)⟩
    rw [hdf j hj]
    have hjl : j < (zT ci).length := by rw [hlen]; exact hj
    show _ = (zFg _ (fun _ => 0) (fun _ => none) 0 (zT ci)).getD j .null
    rw [List.getD_eq_getElem?_getD]
    cases hb : (zT ci)[j]? with
    | none => rw [List.getElem?_eq_none_iff] at hb; omega
    | some b =>
      cases b with
      | true => rw [zFg_r _ _ _ _ _ _ hb]; rfl
      | false => rw [zFg_i _ _ _ _ _ _ hb]; rfl
  have hP := hI.2.2.1
  refine kk (fun _ => H.size) H1 locs (cells + 1) (slots + w) lsA C ⟨⟨by omega, by omega⟩, ⟨Nat.le_trans hS.1 (by omega), fun x h1 h2 => (o1 x (Nat.lt_of_lt_of_le h1 hS.1)).trans (hS.2.1 x h1 h2), hS.2.2⟩, ⟨?_, hP.kept (fun k q hk => o1 q.1 (hP k q hk).lt)⟩, ⟨?_, hI.2.2.2⟩, ?_⟩ hL
  · rw [hz]
    intro k q hk
    have hz9 : k < 1 := (List.getElem?_eq_some_iff.mp hk).1
    rw [show k = 0 by omega] at hk
    cases hk
    exact hat
  · rw [hz]
    refine ⟨fun i j p q hp hq _ => ?_, fun k q hk => ?_⟩
    · have a1 : i < 1 := (List.getElem?_eq_some_iff.mp hp).1
      have a2 : j < 1 := (List.getElem?_eq_some_iff.mp hq).1
      omega
    · have hz9 : k < 1 := (List.getElem?_eq_some_iff.mp hk).1
      rw [show k = 0 by omega] at hk
      cases hk
      exact F.2.2.2 _ hS.1
  · rw [hz]
    intro i j p q hp hq e
    have hz9 : i < 1 := (List.getElem?_eq_some_iff.mp hp).1
    rw [show i = 0 by omega] at hp
    cases hp
    have := (hP j q hq).lt
    rw [← e] at this
    exact Nat.lt_irrefl _ this
theorem l_newJ (F : lwF A MC MS E D tc g2) (w1 : Cond.arrayClass .long ∈ zTB) (hd : decode X.2.1 pc = .ok (.newarray .long, 2)) (hm : mc2 + 1 ≤ mc) (hs : ms2 + 1 ≤ ms)
    (kk : ∀ o : Nat, Lf X E (lwZ A MC MS E.s D tc g2 f h (ws ++ [lOut tc o (fun _ => 0)]) mc2 ms2) (pc + 2) ls (.ref o :: st)) : Lf X E (lwZ A MC MS E.s D tc g2 f h ws mc ms) pc ls (.int 1 :: st) := by
  intro H locs cells slots lsA C hI hL
  have hts := C.2.2.2.2
  have g1 := hI.1.1
  have g4 := hI.1.2
  have g3 := F.1
  have hS := hI.2.1
  refine va_newaK (atype := .long) (N := 1) C.1 C.2.1 (hts _ w1) rfl hd rfl (by decide) (by decide) (by show 1 * componentBytes .long ≤ _; simp only [componentBytes]; omega) (by omega) (by omega) rfl fun H1 cA e1 z1 o1 hAr hNm => ?_
  have hcA : cA = tc 1 := by
    have h0 : E.s.vm.findClass ("[" ++ (FieldType.long).toString) = some (tc 1) := (F.2.1.2 1 (tc 1, .long) rfl).2
    exact Option.some.inj (hNm.symm.trans h0)
  subst hcA
  have hP := hI.2.2.1
  have hD := hI.2.2.2.1
  refine kk H.size H1 locs (cells + 1) (slots + 1) lsA C ⟨⟨by omega, by omega⟩, ⟨Nat.le_trans hS.1 (by omega), fun x h1 h2 => (o1 x (Nat.lt_of_lt_of_le h1 hS.1)).trans (hS.2.1 x h1 h2), hS.2.2⟩, ⟨hP.1.kept (fun k q hk => o1 q.1 (hP.1 k q hk).lt), (hP.2.kept (fun k q hk => o1 q.1 (hP.2 k q hk).lt)).app ?_⟩, ⟨hD.1, hD.2.push hP.2 rfl (F.2.2.2 _ hS.1)⟩, hI.2.2.2.2.app ?_⟩ hL
  · intro k q hk
    have hz9 : k < 1 := (List.getElem?_eq_some_iff.mp hk).1
    rw [show k = 0 by omega] at hk
    cases hk
    exact e1
  · intro i j p q hp hq e
    have hz9 : j < 1 := (List.getElem?_eq_some_iff.mp hq).1
    rw [show j = 0 by omega] at hq
    cases hq
    have := (hP.1 i p hp).lt
    rw [e] at this
    exact Nat.lt_irrefl _ this
/-- the script, that nobody writes -/
theorem l_scr {Iv : LI} {b L k : Nat} {xs : Nat → Int32} {i : Int32} (hX : va_X b L xs E.s E.s.heap) (hb : b < E.s.heap.size) (hA : ¬ A b) (hS : ∀ H locs cells slots, Iv H locs cells slots → va_S A E.s.heap H locs) (hd : decode X.2.1 pc = .ok (.iaload, 1)) (h0 : ¬ i < 0) (hi : i.toNatClampNeg = k) (hk : k < L)
    (kk : Lf X E Iv (pc + 1) ls (.int (xs k) :: st)) : Lf X E Iv pc ls (.int i :: .ref b :: st) := by
  intro H locs cells slots lsA C hI hL
  obtain ⟨scr, h1, h2, h3, h4, h5⟩ := hX
  exact W.iald C.1 C.2.1 (by rw [(hS _ _ _ _ hI).2.1 b hb hA]; exact h1) h2 h3 (by rw [h4, hi]; rintro (w | w); exact h0 w; omega) (by rw [hi]; exact h5 k hk) rfl rfl hd (kk H locs cells slots lsA C hI hL)
theorem l_slen {Iv : LI} {b L : Nat} {xs : Nat → Int32} {v : Int32} (hX : va_X b L xs E.s E.s.heap) (hb : b < E.s.heap.size) (hA : ¬ A b) (hS : ∀ H locs cells slots, Iv H locs cells slots → va_S A E.s.heap H locs) (hd : decode X.2.1 pc = .ok (.arraylength, 1)) (hv : L.toInt32 = v)
    (kk : Lf X E Iv (pc + 1) ls (.int v :: st)) : Lf X E Iv pc ls (.ref b :: st) := by
  intro H locs cells slots lsA C hI hL
  obtain ⟨scr, h1, h2, h3, h4, h5⟩ := hX
  exact W.alen C.1 C.2.1 (by rw [(hS _ _ _ _ hI).2.1 b hb hA]; exact h1) h2 (by rw [h4]; exact hv) rfl rfl hd (kk H locs cells slots lsA C hI hL)
/-- out[0] -/
theorem l_lald {o : Nat} {φ : Nat → Int64} (F : lwF A MC MS E D tc g2) (hd : decode X.2.1 pc = .ok (.laload, 1)) (kk : Lf X E (lwZ A MC MS E.s D tc g2 f h (ws ++ [lOut tc o φ]) mc ms) (pc + 1) ls (.long (φ 0) :: st)) : Lf X E (lwZ A MC MS E.s D tc g2 f h (ws ++ [lOut tc o φ]) mc ms) pc ls (.int 0 :: .ref o :: st) :=
  fun H locs cells slots lsA C hI hL => va_lald C.1 C.2.1 F.2.1 (hI.2.2.1.2.r) 0 1 (rfl : ([lOut tc o φ] : va_W)[0]? = _) rfl (by show ¬ ((0 : Int32) < 0 ∨ 1 ≤ Int32.toNatClampNeg 0); decide) hd (kk H locs cells slots lsA C hI hL)
theorem l_last {o : Nat} {φ : Nat → Int64} {x : Int64} (F : lwF A MC MS E D tc g2) (hd : decode X.2.1 pc = .ok (.lastore, 1)) (kk : Lf X E (lwZ A MC MS E.s D tc g2 f h [lOut tc o (va_up φ 0 x)] mc ms) (pc + 1) ls st) : Lf X E (lwZ A MC MS E.s D tc g2 f h [lOut tc o φ] mc ms) pc ls (.long x :: .int 0 :: .ref o :: st) := by
  intro H locs cells slots lsA C hI hL
  have hP := hI.2.2.1
  have hD := hI.2.2.2.1
  refine W.last C.1 C.2.1 (hP.2 0 (lOut tc o φ) rfl) ((F.2.1.2 1 (tc 1, .long) rfl).1 1 (fun j => .long (φ j))) (fun q => by cases q) (by show ¬ ((0 : Int32) < 0 ∨ (arrV _ _ _).slots.size ≤ _); rw [arrV_size]; show ¬ ((0 : Int32) < 0 ∨ 1 ≤ Int32.toNatClampNeg 0); decide) rfl rfl hd fun H1 e1 z1 oq => ?_
  have hoA : A o := hD.2.2 0 (lOut tc o φ) rfl
  refine kk H1 _ cells slots lsA C ⟨hI.1, hI.2.1.put z1 oq hoA, ⟨hP.1.kept (fun k q hk => oq q.1 (fun e => hI.2.2.2.2 k 0 q (lOut tc o φ) hk rfl e)), fun k q hk => ?_⟩, ⟨hD.1, hD.2.set (p := 0) (e0 := (lOut tc o φ).2) rfl⟩, fun i j p q hp hq e => ?_⟩ hL
  · have hz9 : k < 1 := (List.getElem?_eq_some_iff.mp hk).1
    rw [show k = 0 by omega] at hk
    cases hk
    show H1[o]? = some (vp_cell _ _)
    have e1' : H1[o]? = _ := e1
    rw [e1', vp_cell_l, vp_cell_l, arrV_store]
    congr 2
    funext q
    by_cases hq : q = 0
    · subst hq
      simp [updV, va_up]
    · simp [updV, va_up, hq]
  · have hz9 : j < 1 := (List.getElem?_eq_some_iff.mp hq).1
    rw [show j = 0 by omega] at hq
    cases hq
    exact hI.2.2.2.2 i 0 p (lOut tc o φ) hp rfl e
theorem l_gI {n : Nat} {K : Nat → Nat × Nat} {I : Nat → Nat → Int32} {L : Nat → Nat → Int64} {R : Nat → Nat → Option Nat} {index ci k a z : Nat} {fin : Bool} (F : lwF A MC MS E D tc g2) (hf : zFd X.1 index ci k false fin) (hd : decode X.2.1 pc = .ok (.getfield index, 3)) (ha : a < n) (hk : K a = (ci + 5, z)) (kk : Lf X E (lwZ A MC MS E.s D tc g2 f (n, K, I, L, R) ws mc ms) (pc + 3) ls (.int (I a k) :: st)) : Lf X E (lwZ A MC MS E.s D tc g2 f (n, K, I, L, R) ws mc ms) pc ls (.ref (f a) :: st) := by
  intro H locs cells slots lsA C hI hL
  obtain ⟨cC, T, N, ty, ⟨hc, hin, hty, hnm, hlen⟩, hkN, hb, hlink, hfin, -⟩ := hf
  have he : (zW tc (f, g2) (n, K, I, L, R))[a]? = some (f a, .inr (ci, zFg (f, g2) (I a) (R a) 0 (zT ci))) := by rw [zW_at ha, zE_o hk]
  have hv := zFg_i (f, g2) (I a) (R a) (zT ci) 0 k hb
  rw [Nat.zero_add] at hv
  exact va_get (C := cC) (T := T) (N := N) C.1 C.2.1 C.2.2.2.2 hin C.2.2.2.1 F.2.1 hI.2.2.1.1 a he hc k hkN (C.2.2.2.2 _ hlink) (fun _ h => h) hv hd (kk H locs cells slots lsA C hI hL)
end LH
