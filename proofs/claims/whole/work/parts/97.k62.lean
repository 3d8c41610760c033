/-! the law's look: it returns 0 and writes out[0], or 1 -/
def lqW : List Cond := Cond.codeWith yL_look cL_look 5 (some .int) [(0, 10, 13, 13)] :: zTB
abbrev lqR : Room := { frames := 7, cells := 1, slots := 6, locals := 143 }
def lqP (D : va_G) (tc : Nat → ClassId) (g2 f : Nat → Nat) (h : ZH) (o : Nat) (φ : Nat → Int64) (sa sz : Nat) (A1 : Nat → Prop) (U : State) : Prop :=
  U.heap.size = sz ∧ va_P D vwCl (zW tc (f, g2) h) U.heap ∧ va_P D vwCl [lOut tc o φ] U.heap ∧ va_K D vwCl (zty tc) U ∧ va_D (fun _ => True) (zW tc (f, g2) h ++ [lOut tc o φ]) ∧ zG (fun a => a, g2) A1 U U.heap ∧ vyF sa A1 U U.heap
def lqQ (D : va_G) (tc : Nat → ClassId) (g2 f : Nat → Nat) (h : ZH) (o : Nat) (φ : Nat → Int64) (v : Int32) (A1 : Nat → Prop) : Array Value → State → Outcome → State → Prop := fun _ st oc t =>
  (oc = .returned (some (.int v)) ∧ va_P D vwCl (zW tc (f, g2) h) t.heap ∧ va_P D vwCl [lOut tc o φ] t.heap) ∧ va_F A1 st t
theorem lqBlind {D : va_G} {tc : Nat → ClassId} {g2 f : Nat → Nat} {h : ZH} {o : Nat} {φ : Nat → Int64} {sa sz : Nat} {A1 : Nat → Prop} {av : List Value} : FrameBlind (va_Pc av (lqP D tc g2 f h o φ sa sz A1)) := by
  intro a U gf mk q
  obtain ⟨q0, q1, qP, qP2, qK, qD, qG, qV⟩ := q
  exact ⟨q0, q1, qP, qP2, va_K.moved (u := U) (U := U.calling gf mk a) (Vm.Alike.refl U.vm) qK, qD, zG.same (U := U.calling gf mk a) rfl qG, vyF.same (U := U.calling gf mk a) rfl qV⟩
theorem lwZ.ren {A : Nat → Prop} {MC MS : Nat} {s : State} {D : va_G} {tc : Nat → ClassId} {g2 f f2 : Nat → Nat} {h : ZH} {ws : va_W} {mc ms : Nat} {H : Heap} {locs : List Loc} {cells slots : Nat} (hc : lClo h) (hf : ∀ i, i < h.1 → f2 i = f i) (h1 : lwZ A MC MS s D tc g2 f2 h ws mc ms H locs cells slots) : lwZ A MC MS s D tc g2 f h ws mc ms H locs cells slots := by
  have he : zW tc (f2, g2) h = zW tc (f, g2) h := zW_ren (g' := (f2, g2)) (g := (f, g2)) hc hf
  unfold lwZ at h1 ⊢
  rw [he] at h1
  exact h1
theorem lq_ret {E : LEv} {D : va_G} {tc : Nat → ClassId} {g2 f : Nat → Nat} {h : ZH} {o : Nat} {φ : Nat → Int64} {v : Int32} {A : Nat → Prop} {mc ms pc : Nat} {ls : Nat → Option Value} (hT : E.T = MQ E.below (lqQ D tc g2 f h o φ v A) E.args E.s 1 6 A) (hr : E.meth.sig.returnType = some .int) (hlk : E.meth.locks = false) (hd : decode cL_look pc = .ok (.ireturn, 1)) :
    Lf (RL, cL_look, 5) E (lwZ A 1 6 E.s D tc g2 f h [lOut tc o φ] mc ms) pc ls [.int v] :=
  l_iret (A := A) (MC := 1) (MS := 6) hT hr hlk hd (fun H locs cells slots hI => ⟨Nat.le_trans (Nat.le_add_right _ _) hI.1.1, Nat.le_trans (Nat.le_add_right _ _) hI.1.2, hI.2.1⟩) (fun H locs cells slots hI t ht hW => ⟨⟨rfl, by rw [ht]; exact hI.2.2.1.1, by rw [ht]; exact hI.2.2.1.2⟩, hI.2.1.F ht⟩)
theorem lq_I0 {D : va_G} {tc : Nat → ClassId} {g2 f : Nat → Nat} {h : ZH} {o : Nat} {φ : Nat → Int64} {s : State} (hP : va_P D vwCl (zW tc (f, g2) h) s.heap) (hP2 : va_P D vwCl [lOut tc o φ] s.heap) (hD : va_D (fun _ => True) (zW tc (f, g2) h ++ [lOut tc o φ])) : lwZ (va_A (zW tc (f, g2) h ++ [lOut tc o φ]) s.heap.size) 1 6 s D tc g2 f h [lOut tc o φ] 1 6 s.heap [] 0 0 :=
  ⟨⟨Nat.le_refl _, Nat.le_refl _⟩, va_S.rf, ⟨hP, hP2⟩, ⟨hD.self.l, hD.self.r⟩, hD.j⟩
set_option maxHeartbeats 4000000 in
theorem cL_lookI (l : Launch) (D : va_G) (tc : Nat → ClassId) (g2 f : Nat → Nat) (h : ZH) (o : Nat) (φ : Nat → Int64) (sa sz : Nat) (v a w : Int32) (hc0 : lClo h) (h0 : 0 < h.1) (hk : (h.2.1 0).1 = 13) (hm : Zm yX8_look cX8_look 4 (some .int) 3 120 0 0 [.ref 0, .int a, .int w] h (fun r h2 => r = some (.int v) ∧ h2 = h)) :
    Met l yL_look lqW lqR (va_Pc [.ref (f 0), .int a, .int w, .ref o] (lqP D tc g2 f h o φ sa sz (va_A (zW tc (f, g2) h ++ [lOut tc o φ]) sz))) (lqQ D tc g2 f h o (va_up φ 0 v.toInt64) 0 (va_A (zW tc (f, g2) h ++ [lOut tc o φ]) sz)) 1 6 (va_A (zW tc (f, g2) h ++ [lOut tc o φ]) sz) := by
  refine va_MetW (cc := cL_look) (maxL := 5) (ret := some .int) (hh := [(0, 10, 13, 13)]) (by decide) rfl ?_
  intro p e s m args below meth c s₁ B hml hv
  obtain ⟨rfl, hsz, hP, hP2, hK, hD, hG, hV⟩ := hv
  subst hsz
  have hts := atoms_spec (ws := lqW) B.pre
  have hts' : ∀ w ∈ zTB, w.before _ s = true := fun w hw => hts w (List.mem_cons_of_mem _ hw)
  let E : LEv := (p, l, e, lqR, s, m, [.ref (f 0), .int a, .int w, .ref o].toArray, below, meth, c, MQ below (lqQ D tc g2 f h o (va_up φ 0 v.toInt64) 0 (va_A (zW tc (f, g2) h ++ [lOut tc o φ]) s.heap.size)) [.ref (f 0), .int a, .int w, .ref o].toArray s 1 6 (va_A (zW tc (f, g2) h ++ [lOut tc o φ]) s.heap.size))
  have C : Lc (RL, cL_look, 5) E := ⟨B.exec, B.bytes, hml, findClass_of_methodNamed B.named, hts'⟩
  have F : lwF (va_A (zW tc (f, g2) h ++ [lOut tc o φ]) s.heap.size) 1 6 E D tc g2 := ⟨⟨Nat.le_refl _, Nat.le_refl _⟩, hK, hG, fun q hq => Or.inr hq⟩
  refine l_entry (X := (RL, cL_look, 5)) (E := E) (as := [.ref (f 0), .int a, .int w, .ref o]) rfl (by simp [Value.category]) (Nat.le_of_ble_eq_true rfl) C (lq_I0 hP hP2 hD) ?_
  refine l_aload_n (i := 3) dL_look_0 rfl rfl ?_
  refine l_iconst (v := 0) dL_look_1 (by decide) ?_
  refine l_aload_n (i := 0) dL_look_2 rfl rfl ?_
  refine l_iload_n (i := 1) dL_look_3 rfl rfl ?_
  refine l_iload_n (i := 2) dL_look_4 rfl rfl ?_
  refine l_callV (st := [.int 0, .ref o]) (a := 0) (ci := 8) (mc2 := 1) (ms2 := 6) F hc0 ziL_7 zv_yX8_look hm dL_look_5 h0 hk rfl (fun _ => rfl) rfl rfl (by show 3 + 1 ≤ 7; decide) (by show 8 + (4 + 11) + 120 ≤ 143; decide) (Nat.le_of_ble_eq_true rfl) (by decide) (by decide) (fun r h2 f2 hq hf => ?_)
  obtain ⟨rfl, rfl⟩ := hq
  refine l_inv (fun H locs cells slots q => q.ren hc0 hf) ?_
  refine l_i2l dL_look_8 rfl ?_
  refine l_last F dL_look_9 ?_
  refine l_goto 17 dL_look_10 (by decide) ?_
  refine l_iconst (v := 0) dL_look_17 (by decide) ?_
  exact lq_ret rfl B.returns B.notSynchronized dL_look_18
set_option maxHeartbeats 4000000 in
theorem cL_lookX (l : Launch) (hl : l.stackTraces = false) (D : va_G) (tc : Nat → ClassId) (g2 f : Nat → Nat) (n : Nat) (K : Nat → Nat × Nat) (J : Nat → Nat → Int32) (L : Nat → Nat → Int64) (R : Nat → Nat → Option Nat) (o : Nat) (φ : Nat → Int64) (sa sz G : Nat) (hn0 : 0 < n) (hk0 : K 0 = (13, 0)) (h14 : J 0 14 = nI G) (g w : Int32) (hb : g < 0 ∨ nI G ≤ g ∨ w < 0 ∨ 4 < w) :
    Met l yL_look lqW lqR (va_Pc [.ref (f 0), .int g, .int w, .ref o] (lqP D tc g2 f (n, K, J, L, R) o φ sa sz (va_A (zW tc (f, g2) (n, K, J, L, R) ++ [lOut tc o φ]) sz))) (lqQ D tc g2 f (n, K, J, L, R) o φ 1 (va_A (zW tc (f, g2) (n, K, J, L, R) ++ [lOut tc o φ]) sz)) 1 6 (va_A (zW tc (f, g2) (n, K, J, L, R) ++ [lOut tc o φ]) sz) := by
  refine va_MetW (cc := cL_look) (maxL := 5) (ret := some .int) (hh := [(0, 10, 13, 13)]) (by decide) rfl ?_
  intro p e s m args below meth c s₁ B hml hv
  obtain ⟨rfl, hsz, hP, hP2, hK, hD, hG, hV⟩ := hv
  subst hsz
  have hts := atoms_spec (ws := lqW) B.pre
  have hts' : ∀ w ∈ zTB, w.before _ s = true := fun w hw => hts w (List.mem_cons_of_mem _ hw)
  have htab := vx_table (x := yL_look) B (hts _ List.mem_cons_self)
  let E : LEv := (p, l, e, lqR, s, m, [.ref (f 0), .int g, .int w, .ref o].toArray, below, meth, c, MQ below (lqQ D tc g2 f (n, K, J, L, R) o φ 1 (va_A (zW tc (f, g2) (n, K, J, L, R) ++ [lOut tc o φ]) s.heap.size)) [.ref (f 0), .int g, .int w, .ref o].toArray s 1 6 (va_A (zW tc (f, g2) (n, K, J, L, R) ++ [lOut tc o φ]) s.heap.size))
  have C : Lc (RL, cL_look, 5) E := ⟨B.exec, B.bytes, hml, findClass_of_methodNamed B.named, hts'⟩
  have F : lwF (va_A (zW tc (f, g2) (n, K, J, L, R) ++ [lOut tc o φ]) s.heap.size) 1 6 E D tc g2 := ⟨⟨Nat.le_refl _, Nat.le_refl _⟩, hK, hG, fun q hq => Or.inr hq⟩
  refine l_entry (X := (RL, cL_look, 5)) (E := E) (as := [.ref (f 0), .int g, .int w, .ref o]) rfl (by simp [Value.category]) (Nat.le_of_ble_eq_true rfl) C (lq_I0 hP hP2 hD) ?_
  refine l_aload_n (i := 3) dL_look_0 rfl rfl ?_
  refine l_iconst (v := 0) dL_look_1 (by decide) ?_
  refine l_aload_n (i := 0) dL_look_2 rfl rfl ?_
  refine l_iload_n (i := 1) dL_look_3 rfl rfl ?_
  refine l_iload_n (i := 2) dL_look_4 rfl rfl ?_
  intro H locs cells slots lsA C1 hI hL
  have g1 := hI.1
  obtain ⟨i1, i2, i3, i4⟩ := ziL_7
  have he0 : (zW tc (f, g2) (n, K, J, L, R))[0]? = some (f 0, .inr (8, zFg (f, g2) (J 0) (R 0) 0 (zT 8))) := by
    rw [zW_at hn0, zE_o (c := 8) (z := 0) hk0]
  have hsub : ∀ q, va_A (zW tc (f, g2) (n, K, J, L, R)) H.size q → va_A (zW tc (f, g2) (n, K, J, L, R) ++ [lOut tc o φ]) s.heap.size q := fun q hq => by
    rcases hq with ⟨k, e, hk⟩ | hq
    · exact hI.2.2.2.1.1.2 k (q, e) hk
    · exact Or.inr (Nat.le_trans hI.2.1.1 hq)
  have hr := vx_runV (p := p) (l := l) (e := e) (R := lqR) (s := s) (m := m) (args := E.args) (below := below) (meth := meth) (c := c) (H := H) (locs := locs) (cells := cells) (slots := slots) (g := F0 m 5 lsA [.int w, .int g, .ref (f 0), .int 0, .ref o]) (C := RX8) (b := f 0) (As := [.int g, .int w]) (rest := [.int 0, .ref o]) (mc := 1) (ms := 6) ⟨C.1, C.2.1, C.2.2.1, C.2.2.2.1, hts'⟩ (c8_lookX l hl D tc g2 f n K J L R sa H.size G hn0 hk0 h14 g w hb) ⟨callB_of 2 hts' (zGood i2) rfl rfl rfl (hts' _ i3) (hts' _ i1) i4 ⟨by show 6 + 1 ≤ 7; decide, by show 8 + (4 + 11) + 90 ≤ 143; decide⟩, hts' _ zv_yX8_look.1, hts' _ zv_yX8_look.2⟩ ⟨lkBlind, va_recv hK hI.2.2.1.1 (rfl : vwCl[8]? = some (RX8, _, _)) he0, fun U hU hW => ⟨rfl, by rw [hU], by rw [hU]; exact hI.2.2.1.1, va_K.moved hW.alike hK, hI.2.2.2.1.1.weaken (fun _ _ _ _ => trivial), by rw [hU]; exact zG.warm hW ((hG.kept hI.2.1.2.1).narrow hsub), by rw [hU]; exact vyF.warm hW ((hV.kept hI.2.1.2.1).narrow hsub)⟩⟩ rfl rfl hL.1 rfl (Nat.le_of_ble_eq_true rfl) dL_look_5 ⟨by show cells + 1 ≤ 1; omega, by show slots + 6 ≤ 6; omega⟩
  intro Ts hT Xs
  rcases hr Ts hT Xs with ⟨v, st₀, t, T', L1, q0, q1, q2, q3, q4, q5, -⟩ | ⟨q, st₀, t, T', L1, E1, ce, h0, X', hLL, e1, e2, ⟨rfl, hPz, hF⟩, hce, hcv, hcl, stp⟩
  · exact q5.elim
  · obtain ⟨hz, hkp⟩ := hF
    rw [h0] at hz hkp
    have hS := hI.2.1
    have hno : ∀ (j : Nat) (q : Nat × va_E), ([lOut tc o φ] : va_W)[j]? = some q → ¬ va_A (zW tc (f, g2) (n, K, J, L, R)) H.size q.1 := fun j q hj hq => by
      rcases hq with ⟨k, e, hk⟩ | hq
      · exact hI.2.2.2.2 k j (q.1, e) q hk hj rfl
      · exact absurd (hI.2.2.1.2 j q hj).lt (Nat.not_lt.mpr hq)
    have I1 : lwZ (va_A (zW tc (f, g2) (n, K, J, L, R) ++ [lOut tc o φ]) s.heap.size) 1 6 s D tc g2 f (n, K, J, L, R) [lOut tc o φ] 0 0 T'.heap (locs ++ L1) (cells + 1) (slots + 6) := by
      refine ⟨⟨by omega, by omega⟩, ⟨Nat.le_trans hS.1 (by rw [e1]; exact hz), fun q h1 h3 => ?_, fun q hq => ?_⟩, ⟨by rw [e1]; exact hPz, hI.2.2.1.2.kept (fun k q hk => by rw [e1]; exact hkp q.1 (hI.2.2.1.2 k q hk).lt (hno k q hk))⟩, hI.2.2.2.1, hI.2.2.2.2⟩
      · rw [e1, hkp q (Nat.lt_of_lt_of_le h1 hS.1) (fun w => h3 (hsub q w))]
        exact hS.2.1 q h1 h3
      · rcases List.mem_append.mp hq with w | w
        · exact hS.2.2 q w
        · exact hsub _ (hLL q w)
    have hafter : Lf (RL, cL_look, 5) E (lwZ (va_A (zW tc (f, g2) (n, K, J, L, R) ++ [lOut tc o φ]) s.heap.size) 1 6 s D tc g2 f (n, K, J, L, R) [lOut tc o φ] 0 0) 13 (zargs [.ref (f 0), .int g, .int w, .ref o]) [.ref q] := by
      refine l_astore (i := 4) dL_look_13 (by decide) ?_
      refine l_iconst (v := 1) dL_look_15 (by decide) ?_
      exact lq_ret rfl B.returns B.notSynchronized dL_look_16
    have hcatch := vx_catch (p := p) (l := l) (e := e) (R := lqR) (s := s) (m := m) (args := E.args) (below := below) (meth := meth) (c := c) (H := T'.heap) (locs := locs ++ L1) (cells := cells + 1) (slots := slots + 6) (Q := E.T) (own := RL) (name := thX) (E := thX) (ce := ce) (q := q) (pc := 5) (ls := lsA) (rest := [.int 0, .ref o]) C.2.2.2.1 [] ⟨0, 10, 13, 13⟩ [] htab (fun z hz => by cases hz) (by decide) (by decide) (hts' _ th_w3) (va_Nw.use rfl hV.1.2.2.2) (by rw [e1]; exact hce) hcv hcl (hafter T'.heap (locs ++ L1) (cells + 1) (slots + 6) lsA C I1 hL)
    obtain ⟨t2, a1, b1⟩ := hcatch T' rfl X'
    exact ⟨t2, stp.trans a1, b1⟩
