/-! the keeper's look where it throws; the law's look -/
def thN : List String := ["java/lang/RuntimeException", "java/lang/Exception"]
def thX : String := "java/util/NoSuchElementException"
def thT : String := "no such game, or nothing such to tell of it"
def thB : List Cond := [.declares (Bundle.initS "java/lang/RuntimeException"), .declares (Bundle.initS "java/lang/Exception"), .declares (Bundle.initS Bundle.tN), .castable thX thX]
theorem th_x0 : decode prog_19_method_4_code 0 = .ok (.aload_n 0, 1) := by decide +kernel
theorem th_x1 : decode prog_19_method_4_code 1 = .ok (.aload_n 1, 1) := by decide +kernel
theorem th_x2 : decode prog_19_method_4_code 2 = .ok (.invokespecial 13, 3) := by decide +kernel
theorem th_x5 : decode prog_19_method_4_code 5 = .ok (.return_, 1) := by decide +kernel
theorem th_good0 : ∀ w ∈ (vy_atS RX8 169 thX 13 prog_19_method_4_code thN).filter goodWord, w ∈ lw_tbl := by decide +kernel
theorem th_good : ∀ w ∈ (vy_atS RX8 169 thX 13 prog_19_method_4_code thN).filter goodWord, w ∈ zTB := fun w hw => zTB_of (th_good0 w hw) (List.mem_filter.mp hw).2
theorem th_rest : ∀ w ∈ (vy_atS RX8 169 thX 13 prog_19_method_4_code thN).filter (fun w => !goodWord w), w ∈ thB := by decide +kernel
theorem th_ot : ∀ w ∈ Cond.classLink RX8 165 thX :: Cond.initialized thX :: vy_atS RX8 169 thX 13 prog_19_method_4_code thN, vx_ot w = true := by decide +kernel
theorem th_w1 : Cond.classLink RX8 165 thX ∈ zTB := zTB_of (by decide +kernel) rfl
theorem th_w2 : Cond.initialized thX ∈ zTB := zTB_of (by decide +kernel) rfl
theorem th_w3 : Cond.classLink RL 13 thX ∈ zTB := zTB_of (by decide +kernel) rfl
theorem th_fit : Bundle.fit thX = true := by decide +kernel
theorem th_fits : ∀ n ∈ thN, Bundle.fit n = true := by decide +kernel
/-- what a throw needs, beside good words -/
def vyF (sa : Nat) (A : Nat → Prop) (U : State) (H : Heap) : Prop :=
  (va_Nw (.declares (Bundle.initS "java/lang/RuntimeException")) U ∧ va_Nw (.declares (Bundle.initS "java/lang/Exception")) U ∧ va_Nw (.declares (Bundle.initS Bundle.tN)) U ∧ va_Nw (.castable thX thX) U) ∧ vk_R RX8 167 thT sa U ∧ vx_Zq Bundle.tN "UNASSIGNED_STACK" Bundle.steD A U H ∧ vx_Zq Bundle.tN "SUPPRESSED_SENTINEL" Bundle.listD A U H
theorem vyF.kept {sa : Nat} {A : Nat → Prop} {U : State} {H H1 : Heap} (h : vyF sa A U H) (hq : ∀ a : Nat, a < H.size → ¬ A a → H1[a]? = H[a]?) : vyF sa A U H1 := ⟨h.1, h.2.1, h.2.2.1.kept hq, h.2.2.2.kept hq⟩
theorem vyF.narrow {sa : Nat} {A B : Nat → Prop} {U : State} {H : Heap} (h : vyF sa A U H) (hAB : ∀ q, B q → A q) : vyF sa B U H := ⟨h.1, h.2.1, h.2.2.1.narrow hAB, h.2.2.2.narrow hAB⟩
theorem vyF.warm {sa : Nat} {A : Nat → Prop} {s U : State} {H : Heap} (hW : s.WarmedH U.vm) (h : vyF sa A s H) : vyF sa A U H := ⟨⟨va_Nw.warmD hW h.1.1, va_Nw.warmD hW h.1.2.1, va_Nw.warmD hW h.1.2.2.1, va_Nw.warmC hW h.1.2.2.2⟩, vk_R.warm hW h.2.1, vx_Zq.moved hW.alike h.2.2.1, vx_Zq.moved hW.alike h.2.2.2⟩
theorem vyF.same {sa : Nat} {A : Nat → Prop} {s U : State} {H : Heap} (hv : U.vm = s.vm) (h : vyF sa A s H) : vyF sa A U H := by
  have ha : s.vm.Alike U.vm := by rw [hv]; exact Vm.Alike.refl _
  exact ⟨⟨va_Nw.same rfl hv.symm h.1.1, va_Nw.same rfl hv.symm h.1.2.1, va_Nw.same rfl hv.symm h.1.2.2.1, va_Nw.same rfl hv.symm h.1.2.2.2⟩, h.2.1.same hv, vx_Zq.moved ha h.2.2.1, vx_Zq.moved ha h.2.2.2⟩
theorem vyF.words {sa : Nat} {A : Nat → Prop} {U : State} {H : Heap} {args : Array Value} (h : vyF sa A U H) (hts : ∀ w ∈ zTB, w.before args U = true) : ∀ w ∈ vy_atS RX8 169 thX 13 prog_19_method_4_code thN, w.before args U = true :=
  vx_hat (fun w hw => hts w (th_good w hw)) th_rest (vx_c (va_Nw.use rfl h.1.1) (vx_c (va_Nw.use rfl h.1.2.1) (vx_c (va_Nw.use rfl h.1.2.2.1) (vx_c (va_Nw.use rfl h.1.2.2.2) vx_n))))
theorem l_entry {X : LXt} {E : LEv} {Iv : LI} {as : List Value} (has : as.map (zc zid) = as) (hcat : ∀ w ∈ as, w.category = 1) (hlen : (lg_sl as).length ≤ X.2.2) (C : Lc X E) {H : Heap} {locs : List Loc} {cells slots : Nat} (hI : Iv H locs cells slots) (kk : Lf X E Iv 0 (zargs as) []) : LW E H locs cells slots (entryFrame E.m as.toArray X.2.2) := by
  rw [lg_entry_eq]
  have hl := lv_entry as (n := X.2.2) hlen
  refine kk H locs cells slots _ C hI ⟨hl.1, hl.2.1, fun i v hi => ?_, fun _ i v hi => ?_⟩
  · have h9 := z_look (g := zid) as 0 i v (fun w _ => z_cat zid w) hi
    rw [has] at h9
    exact hl.2.2 (i, zc zid v) h9
  · rw [z_cat]
    exact z_args_cat hcat 0 i v hi
theorem l_iret {X : LXt} {E : LEv} {Iv : LI} {pc MC MS : Nat} {ls : Nat → Option Value} {A : Nat → Prop} {Qc : Array Value → State → Outcome → State → Prop} {v : Int32} (hT : E.T = MQ E.below Qc E.args E.s MC MS A) (hr : E.meth.sig.returnType = some .int) (hlk : E.meth.locks = false) (hd : decode X.2.1 pc = .ok (.ireturn, 1))
    (hb : ∀ H locs cells slots, Iv H locs cells slots → cells ≤ MC ∧ slots ≤ MS ∧ va_S A E.s.heap H locs) (hq : ∀ H locs cells slots, Iv H locs cells slots → ∀ t : State, t.heap = H → E.s.WarmedH t.vm → Qc E.args E.s (.returned (some (.int v))) t) : Lf X E Iv pc ls [.int v] := by
  intro H locs cells slots lsA C hI hL
  have h1 := hb _ _ _ _ hI
  show W _ _ _ _ _ _ _ _ _ _ _ _ _ _ E.T _
  rw [hT]
  refine W.widen (k := MC) (n := MS) h1.1 h1.2.1 ?_
  exact W.iret C.1 C.2.1 hr (hq _ _ _ _ hI) h1.2.2.2.2 hd hlk
def lkP (D : va_G) (tc : Nat → ClassId) (g2 f : Nat → Nat) (h : ZH) (sa sz : Nat) (A1 : Nat → Prop) (U : State) : Prop :=
  U.heap.size = sz ∧ va_P D vwCl (zW tc (f, g2) h) U.heap ∧ va_K D vwCl (zty tc) U ∧ va_D (fun _ => True) (zW tc (f, g2) h) ∧ zG (fun a => a, g2) A1 U U.heap ∧ vyF sa A1 U U.heap
def lkX (D : va_G) (tc : Nat → ClassId) (g2 f : Nat → Nat) (h : ZH) (A1 : Nat → Prop) (E : String) (st t : State) : Prop := E = thX ∧ va_P D vwCl (zW tc (f, g2) h) t.heap ∧ va_F A1 st t
theorem va_P.nil {D : va_G} {H : Heap} : va_P D vwCl [] H := fun k q hk => by cases hk
theorem va_D.nil {A : Nat → Prop} : va_D A [] := ⟨fun i j p q hp => (by cases hp), fun k q hk => (by cases hk)⟩
theorem lDj.nil {w : va_W} : lDj w [] := fun i j p q hp hq => by cases hq
theorem lkBlind {D : va_G} {tc : Nat → ClassId} {g2 f : Nat → Nat} {h : ZH} {sa sz : Nat} {A1 : Nat → Prop} {av : List Value} : FrameBlind (va_Pc av (lkP D tc g2 f h sa sz A1)) := by
  intro a U gf mk q
  obtain ⟨q0, q1, qP, qK, qD, qG, qV⟩ := q
  exact ⟨q0, q1, qP, va_K.moved (u := U) (U := U.calling gf mk a) (Vm.Alike.refl U.vm) qK, qD, zG.same (U := U.calling gf mk a) rfl qG, vyF.same (U := U.calling gf mk a) rfl qV⟩
set_option maxHeartbeats 4000000 in
theorem c8_lookX (l : Launch) (hl : l.stackTraces = false) (D : va_G) (tc : Nat → ClassId) (g2 f : Nat → Nat) (n : Nat) (K : Nat → Nat × Nat) (J : Nat → Nat → Int32) (L : Nat → Nat → Int64) (R : Nat → Nat → Option Nat) (sa sz G : Nat) (hn0 : 0 < n) (hk0 : K 0 = (13, 0)) (h14 : J 0 14 = nI G) (g w : Int32) (hb : g < 0 ∨ nI G ≤ g ∨ w < 0 ∨ 4 < w) :
    vx_Met l yX8_look (zws yX8_look cX8_look 4 (some .int)) ({ frames := 6, cells := 1, slots := 6, locals := 90 }) (va_Pc [.ref (f 0), .int g, .int w] (lkP D tc g2 f (n, K, J, L, R) sa sz (va_A (zW tc (f, g2) (n, K, J, L, R)) sz))) (fun _ _ _ _ => False) (lkX D tc g2 f (n, K, J, L, R) (va_A (zW tc (f, g2) (n, K, J, L, R)) sz)) 1 6 (va_A (zW tc (f, g2) (n, K, J, L, R)) sz) := by
  refine vx_ofW (cc := cX8_look) (maxL := 4) (ret := some .int) (by decide) rfl ?_
  intro p e s m args below meth c s₁ B hml hnt hv
  obtain ⟨rfl, hsz, hP, hK, hD, hG, hV⟩ := hv
  subst hsz
  have hts := atoms_spec (ws := zws yX8_look cX8_look 4 (some .int)) B.pre
  have hts' : ∀ w ∈ zTB, w.before _ s = true := fun w hw => hts w (List.mem_cons_of_mem _ hw)
  let E : LEv := (p, l, e, { frames := 6, cells := 1, slots := 6, locals := 90 }, s, m, [.ref (f 0), .int g, .int w].toArray, below, meth, c, vx_MQ below (fun _ _ _ _ => False) (lkX D tc g2 f (n, K, J, L, R) (va_A (zW tc (f, g2) (n, K, J, L, R)) s.heap.size)) [.ref (f 0), .int g, .int w].toArray s 1 6 (va_A (zW tc (f, g2) (n, K, J, L, R)) s.heap.size))
  have C : Lc (RX8, cX8_look, 4) E := ⟨B.exec, B.bytes, hml, findClass_of_methodNamed B.named, hts'⟩
  have F : lwF (va_A (zW tc (f, g2) (n, K, J, L, R)) s.heap.size) 1 6 E D tc g2 := ⟨⟨Nat.le_refl _, Nat.le_refl _⟩, hK, hG, fun q hq => Or.inr hq⟩
  have I0 : lwZ (va_A (zW tc (f, g2) (n, K, J, L, R)) s.heap.size) 1 6 s D tc g2 f (n, K, J, L, R) [] 1 6 s.heap [] 0 0 := ⟨⟨Nat.le_refl _, Nat.le_refl _⟩, va_S.rf, ⟨hP, va_P.nil⟩, ⟨hD.self, va_D.nil⟩, lDj.nil⟩
  have hthrow : ∀ ls, Lf (RX8, cX8_look, 4) E (lwZ (va_A (zW tc (f, g2) (n, K, J, L, R)) s.heap.size) 1 6 s D tc g2 f (n, K, J, L, R) [] 1 6) 21 ls [] := by
    intro ls H locs cells slots lsA C hI hL
    have h1 := hI.1
    have hS := hI.2.1
    exact vy_throwS (own := RX8) (cls := thX) (text := thT) (names := thN) (ik := 165) (is := 167) (ic := 169) (sa := sa) (rest := []) th_x0 th_x1 th_x2 th_x5 C.1 C.2.1 hl C.2.2.2.1 th_fit th_fits (hts' _ th_w1) (hts' _ th_w2) hV.2.1 (hV.words hts') th_ot hV.2.2.1 hV.2.2.2 hS (by rw [hL.1]; exact C.2.2.1.symm) dX8_look_21 dX8_look_24 dX8_look_25 dX8_look_27 dX8_look_30 (fun x hx => (hnt x hx).elim) (by show 2 + 3 < 6; decide) (by show 0 + (13 * (2 + 1) + 43) ≤ 90; decide) (by show cells + 1 ≤ 1; omega) (by show slots + 6 ≤ 6; omega) B.notSynchronized
      (fun t _ h1 h2 => ⟨rfl, hI.2.2.1.1.kept (fun k q hk => h2 q.1 (hI.2.2.1.1 k q hk).lt), Nat.le_trans hS.1 h1, fun q hq hA => by
        rw [h2 q (Nat.lt_of_lt_of_le hq hS.1)]; exact hS.2.1 q hq hA⟩) hS.2.2 (by omega) (by omega)
  refine l_entry (X := (RX8, cX8_look, 4)) (E := E) (as := [.ref (f 0), .int g, .int w]) rfl (by simp [Value.category]) (Nat.le_of_ble_eq_true rfl) C I0 ?_
  refine l_iload_n (i := 1) dX8_look_0 rfl rfl ?_
  refine l_if_lt 21 dX8_look_1 (by decide) (fun _ => hthrow _) (fun c1 => ?_)
  refine l_iload_n (i := 1) dX8_look_4 rfl rfl ?_
  refine l_aload_n (i := 0) dX8_look_5 rfl rfl ?_
  refine l_gI F zf8_81 dX8_look_6 hn0 hk0 ?_
  rw [h14]
  refine l_icmp_ge 21 dX8_look_9 (by decide) (fun _ => hthrow _) (fun c2 => ?_)
  refine l_iload_n (i := 2) dX8_look_12 rfl rfl ?_
  refine l_if_lt 21 dX8_look_13 (by decide) (fun _ => hthrow _) (fun c3 => ?_)
  refine l_iload_n (i := 2) dX8_look_16 rfl rfl ?_
  refine l_iconst (v := 4) dX8_look_17 (by decide) ?_
  refine l_icmp_le 31 dX8_look_18 (by decide) (fun c4 => ?_) (fun _ => hthrow _)
  exfalso
  rcases hb with h1 | h1 | h1 | h1
  · exact c1 h1
  · exact c2 h1
  · exact c3 h1
  · exact absurd c4 (Int32.not_le.mpr h1)
