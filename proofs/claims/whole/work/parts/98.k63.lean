/-! look side by side; facts of the pair that every call needs -/
def qLk (hk hm : ZH) (g w v : Int32) (t : Int32) : Prop := ∃ (hm' : ZH) (a : Int32), Zm yX9_look cX9_look 3 (some .int) 0 0 0 0 [.ref 0, .int g, .int w] hm (fun r h2 => r = some (.int a) ∧ h2 = hm') ∧ zRel hk hm' ∧ Zm yX9_thrown cX9_thrown 1 (some .int) 0 0 0 0 [.ref 0] hm' (fun r h2 => r = some (.int t) ∧ h2 = hm') ∧ (t = 0 → a = v)
theorem q_look {hk hm : ZH} (hz : zRel hk hm) (g w : Int32) :
    (∃ v : Int32, Zm yX8_look cX8_look 4 (some .int) 3 120 0 0 [.ref 0, .int g, .int w] hk (fun r h2 => r = some (.int v) ∧ h2 = hk) ∧ qLk hk hm g w v 0) ∨
    (∃ (n : Nat) (K : Nat → Nat × Nat) (J : Nat → Nat → Int32) (L : Nat → Nat → Int64) (R : Nat → Nat → Option Nat) (G : Nat), hk = (n, K, J, L, R) ∧ 0 < n ∧ K 0 = (13, 0) ∧ J 0 14 = nI G ∧ (g < 0 ∨ nI G ≤ g ∨ w < 0 ∨ 4 < w) ∧ qLk hk hm g w 0 1) := by
  obtain ⟨n, K, J, L, R, P, G, D, pa, ga, ru, sp, I, L9, T, ch, hd, ts, rfl, rfl, hr⟩ := hz
  obtain ⟨hG, hKD, hok, hie, hiz, ⟨h24, h35, h34, hD⟩, hta, htx, htq, hw5, hclo⟩ := id hr
  have hP6 : P ≤ 6 := hG.1.2.1
  have hG6 : G ≤ 60 := hG.1.2.2
  have hn : 28 ≤ n := hG.1.1
  have e0 : ∀ v : Int32, zu I 0 0 v 0 0 = v := fun v => by rw [zu_apply, if_pos ⟨rfl, rfl⟩]
  have hbad : (g < 0 ∨ nI G ≤ g ∨ w < 0 ∨ 4 < w) → ∃ (n' : Nat) (K' : Nat → Nat × Nat) (J' : Nat → Nat → Int32) (L' : Nat → Nat → Int64) (R' : Nat → Nat → Option Nat) (G' : Nat), (n, K, J, L, R) = (n', K', J', L', R') ∧ 0 < n' ∧ K' 0 = (13, 0) ∧ J' 0 14 = nI G' ∧ (g < 0 ∨ nI G' ≤ g ∨ w < 0 ∨ 4 < w) ∧ qLk (n, K, J, L, R) (mh I L9) g w 0 1 := fun hb => by
    refine ⟨n, K, J, L, R, G, rfl, by omega, hG.2.1.1, hKD.1.2.1, hb, mh (zu I 0 0 1) L9, 0, c9_lookB I L9 G hG6 h35 g w hb, ⟨n, K, J, L, R, P, G, D, pa, ga, ru, sp, zu I 0 0 1, L9, T, ch, hd, ts, rfl, rfl, kRel_thr hr 1⟩, ?_, fun h => absurd h (by decide)⟩
    have h9 := c9_thrown (zu I 0 0 1) L9
    rw [e0] at h9
    exact h9
  have hgood : ∀ (j : Nat) (k : Int32) (v : Int32), g = nI j → w = k → Zm yX8_look cX8_look 4 (some .int) 3 120 0 0 [.ref 0, .int (nI j), .int k] (n, K, J, L, R) (kQ (some (.int v)) n K J L R) → Zm yX9_look cX9_look 3 (some .int) 0 0 0 0 [.ref 0, .int (nI j), .int k] (mh I L9) (mQ (some (.int v)) (zu I 0 0 0) L9) → ∃ v : Int32, Zm yX8_look cX8_look 4 (some .int) 3 120 0 0 [.ref 0, .int g, .int w] (n, K, J, L, R) (fun r h2 => r = some (.int v) ∧ h2 = (n, K, J, L, R)) ∧ qLk (n, K, J, L, R) (mh I L9) g w v 0 := fun j k v e1 e2 h8 h9 => by
    subst e1
    subst e2
    refine ⟨v, h8, mh (zu I 0 0 0) L9, v, h9, ⟨n, K, J, L, R, P, G, D, pa, ga, ru, sp, zu I 0 0 0, L9, T, ch, hd, ts, rfl, rfl, kRel_thr hr 0⟩, ?_, fun _ => rfl⟩
    have h9 := c9_thrown (zu I 0 0 0) L9
    rw [e0] at h9
    exact h9
  rcases pk_ix g (n := G) (by omega) with h1 | h1 | ⟨j, hj, e1⟩
  · exact Or.inr (hbad (Or.inl h1))
  · exact Or.inr (hbad (Or.inr (Or.inl h1)))
  rcases pk_ix w (n := 5) (by omega) with h2 | h2 | ⟨k, hk, e2⟩
  · exact Or.inr (hbad (Or.inr (Or.inr (Or.inl h2))))
  · exact Or.inr (hbad (Or.inr (Or.inr (Or.inr (q_lt (N := 5) (y := 4) (by omega) rfl rfl (by omega) h2)))))
  left
  have hv := hok.1
  have h5 : k = 0 ∨ k = 1 ∨ k = 2 ∨ k = 3 ∨ k = 4 := by omega
  rcases h5 with rfl | rfl | rfl | rfl | rfl
  · exact hgood j 0 _ e1 e2 (c8_look0 n K J L R P G pa ga ru sp hG I D hKD hv j hj) (c9_look0 I L9 G hG6 h35 j hj)
  · exact hgood j 1 _ e1 e2 (c8_look1 n K J L R P G pa ga ru sp hG I D hKD hv j hj) (c9_look1 I L9 G hG6 h35 j hj)
  · exact hgood j 2 _ e1 e2 (c8_look2 n K J L R P G pa ga ru sp hG I D hKD hv j hj) (c9_look2 I L9 G hG6 h35 j hj)
  · exact hgood j 3 _ e1 e2 (c8_look3 n K J L R P G pa ga ru sp hG I D hKD hv j hj) (c9_look3 I L9 G hG6 h35 j hj)
  · exact hgood j 4 _ e1 e2 (c8_look4 n K J L R P G pa ga ru sp hG I D hKD hv j hj) (c9_look4 I L9 G hG6 h35 j hj)
theorem zRel.k {hk hm : ZH} (hz : zRel hk hm) : lClo hk ∧ 0 < hk.1 ∧ (hk.2.1 0).1 = 8 + 5 := by
  obtain ⟨n, K, J, L, R, P, G, D, pa, ga, ru, sp, I, L9, T, ch, hd, ts, rfl, rfl, hr⟩ := hz
  obtain ⟨hG, hKD, hok, hie, hiz, ⟨h24, h35, h34, hD⟩, hta, htx, htq, hw5, hclo⟩ := id hr
  have hn : 28 ≤ n := hG.1.1
  have h0 : K 0 = (13, 0) := hG.2.1.1
  exact ⟨hclo, (by omega : 0 < n), (by rw [h0] : (K 0).1 = 13)⟩
theorem mh_clo (I : Nat → Nat → Int32) (L : Nat → Nat → Int64) : lClo (mh I L) := fun a ha k b hb => by
  have hb' : mR a k = some b := hb
  unfold mR at hb'
  by_cases h : a = 0
  · rw [if_pos h] at hb'
    by_cases hk : k < 46
    · exact mR_lt k hk b hb'
    · rw [mR_out hk] at hb'
      cases hb'
  · rw [if_neg h] at hb'
    cases hb'
theorem zRel.m {hk hm : ZH} (hz : zRel hk hm) : lClo hm ∧ 0 < hm.1 ∧ (hm.2.1 0).1 = 9 + 5 := by
  obtain ⟨n, K, J, L, R, P, G, D, pa, ga, ru, sp, I, L9, T, ch, hd, ts, rfl, rfl, hr⟩ := hz
  exact ⟨mh_clo I L9, (by decide : 0 < 35), rfl⟩
theorem l_cat2 (r : Option Value) (g : ZG) : (((r.map (zc g)).toList ++ []).map Value.category).sum ≤ 8 := by
  cases r with
  | none => simp
  | some v => cases v <;> simp [zc, Value.category]
/-- the law's look, called -/
theorem l_lookS {X : LXt} {E : LEv} {pc index : Nat} {ls : Nat → Option Value} {st : List Value} {A : Nat → Prop} {MC MS : Nat} {D : va_G} {tc : Nat → ClassId} {g2 f : Nat → Nat} {h : ZH} {ws : va_W} {mc ms mc2 ms2 o sa : Nat} {φ φ' : Nat → Int64} {a w v : Int32} (F : lwF A MC MS E D tc g2) (hV : vyF sa A E.s E.s.heap)
    (hM : ∀ sz : Nat, Met E.l yL_look lqW lqR (va_Pc [.ref (f 0), .int a, .int w, .ref o] (lqP D tc g2 f h o φ sa sz (va_A (zW tc (f, g2) h ++ [lOut tc o φ]) sz))) (lqQ D tc g2 f h o φ' v (va_A (zW tc (f, g2) h ++ [lOut tc o φ]) sz)) 1 6 (va_A (zW tc (f, g2) h ++ [lOut tc o φ]) sz))
    (w1 : Cond.methodLink X.1 index yL_look ∈ zTB) (w2 : Cond.static yL_look ∈ zTB) (w3 : Cond.initialized RL ∈ zTB) (w4 : Cond.codeWith yL_look cL_look 5 (some .int) [(0, 10, 13, 13)] ∈ zTB) (hd : decode X.2.1 pc = .ok (.invokestatic index, 3)) (hfr : 8 ≤ E.Rm.frames) (hlo : 167 ≤ E.Rm.locals) (hst : (st.map Value.category).sum ≤ 8) (hmc : mc2 + 1 ≤ mc) (hms : ms2 + 6 ≤ ms)
    (kk : Lf X E (lwZ A MC MS E.s D tc g2 f h (ws ++ [lOut tc o φ']) mc2 ms2) (pc + 3) ls (.int v :: st)) : Lf X E (lwZ A MC MS E.s D tc g2 f h (ws ++ [lOut tc o φ]) mc ms) pc ls (.ref o :: .int w :: .int a :: .ref (f 0) :: st) := by
  intro H locs cells slots lsA C hI hL
  have hts := C.2.2.2.2
  have g1 := hI.1.1
  have g3 := hI.1.2
  have g4 := F.1
  have hP := hI.2.2.1
  have hD := hI.2.2.2.1
  have hJ := hI.2.2.2.2
  have hS := hI.2.1
  have hsub : ∀ q, va_A (zW tc (f, g2) h ++ [lOut tc o φ]) H.size q → A q := fun q hq => by
    rcases hq with ⟨k, e, hk⟩ | hq
    · exact (hD.1.app hD.2.r hJ.r).2 k (q, e) hk
    · exact F.2.2.2 q (Nat.le_trans hS.1 hq)
  have hgood : GoodIn zTB (va_wsS X.1 index yL_look lqW) := fun x hx => by
    have hm : x ∈ zTB := by
      simp only [va_wsS, lqW, List.mem_append, List.mem_cons, List.not_mem_nil, or_false] at hx
      rcases hx with (rfl | rfl | rfl) | rfl | hx <;> assumption
    exact ⟨hm, good_of_word (zTB_good hm)⟩
  have hr := vx_runSW (p := E.p) (l := E.l) (e := E.e) (R := E.Rm) (s := E.s) (m := E.m) (args := E.args) (below := E.below) (meth := E.meth) (c := E.c) (H := H) (locs := locs) (cells := cells) (slots := slots) (g := F0 E.m pc lsA (.ref o :: .int w :: .int a :: .ref (f 0) :: st)) (As := [.ref (f 0), .int a, .int w, .ref o]) (rest := st) (mc := 1) (ms := 6) ⟨C.1, C.2.1, C.2.2.1, C.2.2.2.1, hts⟩ (hM H.size) (vx_cwSW 4 hts hgood rfl rfl rfl ⟨by decide, by decide, by decide +kernel⟩ ⟨by show 7 + 1 ≤ _; omega, by show 8 + (5 + 11) + 143 ≤ _; omega⟩) ⟨lqBlind, fun U hU hW => ⟨rfl, by rw [hU], by rw [hU]; exact hP.1, by rw [hU]; exact hP.2.r, va_K.moved hW.alike F.2.1, (hD.1.app hD.2.r hJ.r).weaken (fun _ _ _ _ => trivial), by rw [hU]; exact zG.warm hW ((F.2.2.1.kept hS.2.1).narrow hsub), by rw [hU]; exact vyF.warm hW ((hV.kept hS.2.1).narrow hsub)⟩⟩ rfl rfl hL.1 rfl (lv_room hst) hd ⟨by omega, by omega⟩
  intro Ts hT Xs
  obtain ⟨v', st₀, t, T', L, h0, X', hLL, e1, e2, ⟨⟨hv, hPz, hPo⟩, hz, hkp⟩, stp⟩ := hr Ts hT Xs
  have hv' : v' = some (.int v) := by injection hv
  subst hv'
  rw [h0] at hz hkp
  have hno : ∀ (j : Nat) (q : Nat × va_E), ws[j]? = some q → ¬ va_A (zW tc (f, g2) h ++ [lOut tc o φ]) H.size q.1 := fun j q hj hq => by
    rcases hq with ⟨k, e, hk⟩ | hq
    · by_cases hkl : k < (zW tc (f, g2) h).length
      · rw [List.getElem?_append_left hkl] at hk
        exact hJ.l k j (q.1, e) q hk hj rfl
      · rw [List.getElem?_append_right (by omega)] at hk
        exact hD.2.j j _ q (q.1, e) hj hk rfl
    · exact absurd (hP.2.l j q hj).lt (Nat.not_lt.mpr hq)
  have hst2 : ∀ (w1 : va_W), lDj w1 [lOut tc o φ] → lDj w1 [lOut tc o φ'] := fun w1 hh i j p q hp hq e => by
    have hz9 : j < 1 := (List.getElem?_eq_some_iff.mp hq).1
    rw [show j = 0 by omega] at hq
    cases hq
    exact hh i 0 p (lOut tc o φ) hp rfl e
  have hDo : va_D A [lOut tc o φ'] := hD.2.r.set (p := 0) (e0 := (lOut tc o φ).2) rfl
  have I1 : lwZ A MC MS E.s D tc g2 f h (ws ++ [lOut tc o φ']) mc2 ms2 T'.heap (locs ++ L) (cells + 1) (slots + 6) := by
    refine ⟨⟨by omega, by omega⟩, ⟨Nat.le_trans hS.1 (by rw [e1]; exact hz), fun q h1 h3 => ?_, fun q hq => ?_⟩, ⟨by rw [e1]; exact hPz, (hP.2.l.kept (fun k q hk => by rw [e1]; exact hkp q.1 (hP.2.l k q hk).lt (hno k q hk))).app (by rw [e1]; exact hPo)⟩, ⟨hD.1, hD.2.l.app hDo (hst2 _ hD.2.j)⟩, hJ.l.app (hst2 _ hJ.r)⟩
    · rw [e1, hkp q (Nat.lt_of_lt_of_le h1 hS.1) (fun w => h3 (hsub q w))]
      exact hS.2.1 q h1 h3
    · rcases List.mem_append.mp hq with w | w
      · exact hS.2.2 q w
      · exact hsub _ (hLL q w)
  obtain ⟨t2, a1, b1⟩ := kk T'.heap (locs ++ L) (cells + 1) (slots + 6) lsA C I1 hL T' rfl X'
  exact ⟨t2, stp t2 a1, b1⟩
