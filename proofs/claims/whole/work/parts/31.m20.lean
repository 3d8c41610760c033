theorem lcmp_le (x y : Int64) : lg_cmp x y ≤ 0 ↔ ¬ y < x := by
  unfold lg_cmp
  by_cases h2 : y < x
  · rw [if_pos h2]
    exact ⟨fun q => absurd q (by decide), fun q => absurd h2 q⟩
  · rw [if_neg h2]
    refine ⟨fun _ => h2, fun _ => ?_⟩
    split <;> decide
def mcd (J : Nat → Nat → Int32) (b : Nat) (out : List (Nat × Int32)) : Prop := ∀ (j : Nat) (c : Nat × Int32), out[j]? = some c → J 9 (660 * b + j) = nI c.1 ∧ J 10 (660 * b + j) = c.2
def mRp (J : Nat → Nat → Int32) (b A : Nat) (f : Int32) (out : List (Nat × Int32)) : Prop := J 0 7 = nI A ∧ J 0 8 = f ∧ J 0 16 = nI b ∧ J 0 17 = nI out.length ∧ mcd J b out
theorem mRp_of {J : Nat → Nat → Int32} {b : Nat} {s : MP} (h : mRep J b s) : mRp J b s.1 s.2.1 s.2.2.1 := ⟨h.1, h.2.1, h.2.2.1, h.2.2.2.1, h.2.2.2.2.1⟩
theorem mRp_at {J : Nat → Nat → Int32} {b A : Nat} {f : Int32} {out : List (Nat × Int32)} (h : mRp J b A f out) (A2 : Nat) : mRp (zu J 0 7 (nI A2)) b A2 f out := ⟨rfl, h.2.1, h.2.2.1, h.2.2.2.1, h.2.2.2.2⟩
theorem mRp_f {J : Nat → Nat → Int32} {b A : Nat} {f : Int32} {out : List (Nat × Int32)} (h : mRp J b A f out) (f2 : Int32) : mRp (zu J 0 8 f2) b A f2 out := ⟨h.1, rfl, h.2.2.1, h.2.2.2.1, h.2.2.2.2⟩
theorem mRp_cong {J K : Nat → Nat → Int32} {b A : Nat} {f : Int32} {out : List (Nat × Int32)} (h : mRp J b A f out) (h0 : K 0 = J 0) (h9 : K 9 = J 9) (h10 : K 10 = J 10) : mRp K b A f out := by
  obtain ⟨a, b, c, d, e⟩ := h
  refine ⟨by rw [h0]; exact a, by rw [h0]; exact b, by rw [h0]; exact c, by rw [h0]; exact d, fun j x hj => ?_⟩
  rw [h9, h10]
  exact e j x hj
def pTake (tk tp : Nat → Nat) (c A : Nat) (f : Int32) : Nat × Int32 := if f = 0 then (if tk A = c then (A + 1, 0) else (A, fltp tp 1 A)) else (A, f)
theorem take_go {I : Nat → Nat → Int32} {L : Nat → Nat → Int64} {n b A : Nat} {f : Int32} {out : List (Nat × Int32)} {tk tp tv : Nat → Nat} {t : Bool} {c : Nat} (hT : mTok I L n tk tp tv) (hA : f = 0 → A ≤ n) (hR : mRp I b A f out) (ht : f = 0 → t = decide (tk A = c)) (ht2 : ¬ f = 0 → t = false) : mRp (if t = true then zu I 0 7 (nI (A + 1)) else mwr I A 1) b (pTake tk tp c A f).1 (pTake tk tp c A f).2 out ∧ mFr I (if t = true then zu I 0 7 (nI (A + 1)) else mwr I A 1) b := by
  unfold pTake
  have h8 := hR.2.1
  by_cases e : f = 0
  · rw [ht e, if_pos e]
    subst e
    by_cases e2 : tk A = c
    · rw [decide_eq_true e2, if_pos rfl, if_pos e2]
      exact ⟨mRp_at hR (A + 1), mFr_at⟩
    · rw [decide_eq_false e2, if_neg (by decide), if_neg e2]
      have e3 : mwr I A 1 = zu I 0 8 (fltp tp 1 A) := by
        unfold mwr fltp
        rw [if_pos h8, (hT.2.2.1 A (hA rfl)).2.1, zl16, zl1, pk_mul, nI_add]
      rw [e3]
      exact ⟨mRp_f hR _, mFr_f⟩
  · rw [ht2 e, if_neg (by decide), if_neg e]
    have e3 : mwr I A 1 = I := by
      unfold mwr
      rw [if_neg (by rw [h8]; exact e)]
    rw [e3]
    exact ⟨hR, mFr.rf I b⟩
theorem msg_f {I : Nat → Nat → Int32} {L : Nat → Nat → Int64} {A : Nat} {c : Int32} (h : ¬ I 0 8 = 0) : msg I L A c = false := by
  unfold msg
  rw [decide_eq_false h]; rfl
theorem mwd_f {I : Nat → Nat → Int32} {L : Nat → Nat → Int64} {A w : Nat} (h : ¬ I 0 8 = 0) : mwd I L A w = false := by
  unfold mwd
  rw [decide_eq_false h]; rfl
/-- what a line leaves alone -/
def lFr (I J : Nat → Nat → Int32) (b : Nat) : Prop := (∀ a, a ≠ 0 → a ≠ 6 → a ≠ 7 → a ≠ 8 → a ≠ 9 → a ≠ 10 → a ≠ 11 → a ≠ 12 → a ≠ 13 → J a = I a) ∧ (∀ k, k ≠ 7 → k ≠ 8 → k ≠ 17 → k ≠ 18 → J 0 k = I 0 k) ∧ (∀ j, (j < 660 * b ∨ 660 * b + 660 ≤ j) → J 9 j = I 9 j ∧ J 10 j = I 10 j) ∧ (∀ j, (j < 16 * b ∨ 16 * b + 16 ≤ j) → J 7 j = I 7 j ∧ J 8 j = I 8 j) ∧ ∀ j, j ≠ b → J 6 j = I 6 j
theorem lFr.rf (I : Nat → Nat → Int32) (b : Nat) : lFr I I b := ⟨fun _ _ _ _ _ _ _ _ _ _ => rfl, fun _ _ _ _ _ => rfl, fun _ _ => ⟨rfl, rfl⟩, fun _ _ => ⟨rfl, rfl⟩, fun _ _ => rfl⟩
theorem lFr.tr {I J K : Nat → Nat → Int32} {b : Nat} (h : lFr I J b) (h2 : lFr J K b) : lFr I K b :=
  ⟨fun a x1 x2 x3 x4 x5 x6 x7 x8 x9 => (h2.1 a x1 x2 x3 x4 x5 x6 x7 x8 x9).trans (h.1 a x1 x2 x3 x4 x5 x6 x7 x8 x9), fun k x1 x2 x3 x4 => (h2.2.1 k x1 x2 x3 x4).trans (h.2.1 k x1 x2 x3 x4), fun j hj => ⟨(h2.2.2.1 j hj).1.trans (h.2.2.1 j hj).1, (h2.2.2.1 j hj).2.trans (h.2.2.1 j hj).2⟩, fun j hj => ⟨(h2.2.2.2.1 j hj).1.trans (h.2.2.2.1 j hj).1, (h2.2.2.2.1 j hj).2.trans (h.2.2.2.1 j hj).2⟩, fun j hj => (h2.2.2.2.2 j hj).trans (h.2.2.2.2 j hj)⟩
theorem lFr_of {I J : Nat → Nat → Int32} {b : Nat} (h : mFr I J b) : lFr I J b :=
  ⟨fun a x1 _ _ _ x5 x6 x7 x8 x9 => h.1 a x1 x5 x6 x7 x8 x9, h.2.1, h.2.2, fun j _ => by rw [h.1 7 (by decide) (by decide) (by decide) (by decide) (by decide) (by decide), h.1 8 (by decide) (by decide) (by decide) (by decide) (by decide) (by decide)]; exact ⟨rfl, rfl⟩, fun j _ => by rw [h.1 6 (by decide) (by decide) (by decide) (by decide) (by decide) (by decide)]⟩
theorem lFr_6 {I : Nat → Nat → Int32} {b : Nat} {v : Int32} : lFr I (zu I 6 b v) b :=
  ⟨fun a _ x2 _ _ _ _ _ _ _ => zu_ne _ _ _ x2, fun k _ _ _ _ => rfl, fun j _ => ⟨rfl, rfl⟩, fun j _ => ⟨rfl, rfl⟩, fun j hj => by rw [zu_apply, if_neg (by omega)]⟩
theorem lFr_7 {I : Nat → Nat → Int32} {b k : Nat} {v : Int32} (hk : k < 16) : lFr I (zu I 7 (16 * b + k) v) b :=
  ⟨fun a _ _ x2 _ _ _ _ _ _ => zu_ne _ _ _ x2, fun k _ _ _ _ => rfl, fun j _ => ⟨rfl, rfl⟩, fun j hj => ⟨by rw [zu_apply, if_neg (by omega)], rfl⟩, fun j hj => rfl⟩
theorem lFr_8 {I : Nat → Nat → Int32} {b k : Nat} {v : Int32} (hk : k < 16) : lFr I (zu I 8 (16 * b + k) v) b :=
  ⟨fun a _ _ _ x2 _ _ _ _ _ => zu_ne _ _ _ x2, fun k _ _ _ _ => rfl, fun j _ => ⟨rfl, rfl⟩, fun j hj => ⟨rfl, by rw [zu_apply, if_neg (by omega)]⟩, fun j hj => rfl⟩
theorem mFr_a {I J : Nat → Nat → Int32} {b a : Nat} (h : mFr I J b) (ha : (a == 0 || a == 9 || a == 10 || a == 11 || a == 12 || a == 13) = false) : J a = I a := by
  simp at ha
  exact h.1 a (by omega) (by omega) (by omega) (by omega) (by omega) (by omega)
set_option maxHeartbeats 4000000 in
theorem l9_l234 {I : Nat → Nat → Int32} {L : Nat → Nat → Int64} {Q : Option Value → ZH → Prop} {n b A k : Nat} {f : Int32} {out : List (Nat × Int32)} {tk tp tv : Nat → Nat} (hb : b < 2) (hT : mTok I L n tk tp tv) (hA : f = 0 → A ≤ n) (hA2 : A ≤ n + 1) (hz : out.length ≤ 640) (hk : k < 16) (h6 : I 6 b = nI k) (hR : mRp I b A f out) (hQ : ∀ K, mRp K b (pTake tk tp 59 A f).1 (pTake tk tp 59 A f).2 (out ++ [(0, 0)]) → K 6 b = nI (k + 1) → K 7 = I 7 → K 8 = I 8 → lFr I K b → Q none (mh K L)) (ls : Nat → Option Value) (hl0 : ls 0 = some (.ref 0)) : Zf x9_line 0 0 234 ls [] (mh I L) Q := by
  have hn := hT.1
  obtain ⟨h7, h8, h16, h17, hc⟩ := id hR
  have hRm : mRp (mem I b out.length 0 0) b A f (out ++ [(0, 0)]) := mRp_of (mRep_emit (d := 0) (sW := fun _ => 0) (gW := fun _ => 0) (aW := fun _ => 0) (I := mop3 (zu I 0 18 0) 0) ⟨h7, h8, h16, h17, hc, rfl, fun k hk => by dsimp only at hk; rw [Nat.le_zero.mp hk]; exact ⟨rfl, rfl, rfl⟩⟩ 0 0) |> fun q => ⟨q.1, q.2.1, q.2.2.1, q.2.2.2.1, q.2.2.2.2⟩
  have hTm : mTok (mem I b out.length 0 0) L n tk tp tv := mTok_cong hT rfl rfl
  have htg := take_go (c := 59) (t := msg (mem I b out.length 0 0) L A 59) hTm hA hRm (fun z => mTok_msg hTm (hA z) rfl (by rw [← z]; exact h8)) (fun z => msg_f (by rw [show mem I b out.length 0 0 0 8 = f from h8]; exact z))
  refine z_aload_n (i := 0) dX9_line_234 rfl hl0 ?_
  refine z_iconst (v := 0) dX9_line_235 (by decide) ?_
  refine z_iconst (v := 0) dX9_line_236 (by decide) ?_
  refine z_callV (st := []) (mc2 := 0) (ms2 := 0) zi9_222 zv_yX9_emit (c9_emit I L 0 0 b out.length hb (by omega) h16 h17) dX9_line_237 (show (0 : Nat) < 35 by decide) rfl rfl rfl rfl (by decide) (by decide) (Nat.le_of_ble_eq_true rfl) (by decide) (by decide) (fun r h2 hq => ?_)
  obtain ⟨rfl, rfl⟩ := hq
  try simp only [Option.toList, List.nil_append]
  refine z_aload_n (i := 0) dX9_line_240 rfl hl0 ?_
  refine z_bipush (v := 59) dX9_line_241 (by decide) ?_
  refine z_callV (st := []) (mc2 := 0) (ms2 := 0) zi9_226 zv_yX9_takeSign (c9_takeSign _ _ _ A (by omega) h7) dX9_line_243 (show (0 : Nat) < 35 by decide) rfl rfl rfl rfl (by decide) (by decide) (Nat.le_of_ble_eq_true rfl) (by decide) (by decide) (fun r h2 hq => ?_)
  obtain ⟨rfl, rfl⟩ := hq
  generalize hK : (if msg (mem I b out.length 0 0) L A 59 = true then zu (mem I b out.length 0 0) 0 7 (nI (A + 1)) else mwr (mem I b out.length 0 0) A 1) = K at htg ⊢
  obtain ⟨htr, htf⟩ := htg
  have k6 : K 6 = I 6 := (mFr_a htf rfl).trans (mFr_a (mFr_emit (by omega)) rfl)
  have k7 : K 7 = I 7 := (mFr_a htf rfl).trans (mFr_a (mFr_emit (by omega)) rfl)
  have k8 : K 8 = I 8 := (mFr_a htf rfl).trans (mFr_a (mFr_emit (by omega)) rfl)
  try simp only [Option.toList, List.nil_append]
  refine z_aload_n (i := 0) dX9_line_246 rfl hl0 ?_
  refine z_gR zf9_50.g dX9_line_247 (by decide) rfl rfl ?_
  refine z_aload_n (i := 0) dX9_line_250 rfl hl0 ?_
  refine z_gI zf9_189.g dX9_line_251 (by decide) rfl ?_
  rw [htr.2.2.1]
  refine z_dup2 dX9_line_254 rfl rfl ?_
  refine z_iald dX9_line_255 (by decide) rfl (zvin (by omega) (by omega)) ?_
  rw [zcl (by omega), k6, h6]
  refine z_iconst (v := 1) dX9_line_256 (by decide) ?_
  refine z_iadd dX9_line_257 ?_
  refine z_top (y := .int (nI (k + 1))) (by rw [zl1, nI_add]) ?_
  refine z_iast dX9_line_258 (by decide) rfl (zvin (by omega) (by omega)) ?_
  rw [zcl (by omega)]
  refine z_vret dX9_line_259 rfl ?_
  exact hQ _ (mRp_cong htr rfl rfl rfl) (by rw [zu_apply, if_pos ⟨rfl, rfl⟩]) (by rw [zu_ne _ _ _ (by decide)]; exact k7) (by rw [zu_ne _ _ _ (by decide)]; exact k8) ((lFr_of ((mFr_emit (by omega)).tr htf)).tr lFr_6)
def pBody (tk tp tv : Nat → Nat) (A : Nat) (f : Int32) (out : List (Nat × Int32)) : MP := pRun tk tp tv 602 ((pTake tk tp 5 A f).1, (pTake tk tp 5 A f).2, out, 0, fun _ => 0, fun _ => 0, fun _ => 0)
theorem pTake_le {tk tp : Nat → Nat} {n c A : Nat} {f : Int32} (hn : tk n = 0) (htp : ∀ i, i ≤ n → tp i ≤ 600) (hc : c ≠ 0) (hA : f = 0 → A ≤ n) (h : (pTake tk tp c A f).2 = 0) : f = 0 ∧ tk A = c ∧ (pTake tk tp c A f).1 = A + 1 ∧ A < n := by
  unfold pTake at h ⊢
  by_cases e : f = 0
  · rw [if_pos e] at h ⊢
    by_cases e2 : tk A = c
    · rw [if_pos e2]
      exact ⟨e, e2, rfl, lt_of_tk hn (hA e) e2 hc⟩
    · rw [if_neg e2] at h
      exact absurd h (fltp_ne (by decide) (by decide) (htp A (hA e)))
  · rw [if_neg e] at h
    exact absurd h e
theorem pTake_A {tk tp : Nat → Nat} {n c A : Nat} {f : Int32} (hn : tk n = 0) (hc : c ≠ 0) (hA : f = 0 → A ≤ n) (hA2 : A ≤ n + 1) : A ≤ (pTake tk tp c A f).1 ∧ (pTake tk tp c A f).1 ≤ n + 1 := by
  unfold pTake
  by_cases e : f = 0
  · rw [if_pos e]
    by_cases e2 : tk A = c
    · rw [if_pos e2]
      have := lt_of_tk hn (hA e) e2 hc
      dsimp only
      omega
    · rw [if_neg e2]
      dsimp only
      omega
  · rw [if_neg e]
    dsimp only
    omega
theorem mTok_tv {I : Nat → Nat → Int32} {L : Nat → Nat → Int64} {n : Nat} {tk tp tv : Nat → Nat} (hT : mTok I L n tk tp tv) : ∀ i, i ≤ n → tk i = 2 → tv i ≤ 9999 := fun i hi h => (mtk_val (by have := (hT.2.2.1 i hi).1; rw [h] at this; exact this)).2
/-- the codes of a line -/
theorem prBody {tk tp tv : Nat → Nat} {n A : Nat} {f : Int32} {out : List (Nat × Int32)} (hn : tk n = 0) (hn6 : n ≤ 600) (htp : ∀ i, i ≤ n → tp i ≤ 600) (htv : ∀ i, i ≤ n → tk i = 2 → tv i ≤ 9999) (hA : f = 0 → A ≤ n) (hA2 : A ≤ n + 1) : ((pBody tk tp tv A f out).2.1 = 0 → (pBody tk tp tv A f out).1 ≤ n ∧ f = 0 ∧ tk A = 5 ∧ A < (pBody tk tp tv A f out).1 ∧ ∃ o, (pBody tk tp tv A f out).2.2.1 = out ++ o ∧ mrp o 0 1 ∧ o.length + A ≤ (pBody tk tp tv A f out).1) ∧ (pBody tk tp tv A f out).1 ≤ n + 1 ∧ A ≤ (pBody tk tp tv A f out).1 ∧ (pBody tk tp tv A f out).2.2.1.length + A ≤ out.length + (pBody tk tp tv A f out).1 := by
  unfold pBody
  have hta := pTake_A (tp := tp) (c := 5) hn (by decide) hA hA2
  by_cases e : (pTake tk tp 5 A f).2 = 0
  · obtain ⟨e1, e2, e3, e4⟩ := pTake_le hn htp (by decide) hA e
    rw [e, e3]
    have hp := prRun (tv := tv) (pre := out) (A0 := A + 1) (N0 := out.length) hn htp htv 602 (A + 1) out 0 (fun _ => 0) (fun _ => 0) (fun _ => 0) (by omega) (pI_mk (by omega) (by omega) (by omega) (by simp [pnd, nz]) (fun _ => ⟨by decide, by decide, by decide⟩) (fun _ => ⟨by decide, by decide, by decide⟩) ⟨[], by simp, fun _ => by simp [pnd, nz, mrp]⟩)
    generalize pRun tk tp tv 602 (A + 1, 0, out, 0, fun _ => 0, fun _ => 0, fun _ => 0) = r at hp ⊢
    obtain ⟨⟨p1, p2, p3, p4, p5, p6, o, p7, p8⟩, p9⟩ := hp
    unfold psz at p4
    have hl : r.2.2.1.length = out.length + o.length := by rw [p7, List.length_append]
    refine ⟨fun z => ⟨p1, e1, e2, by omega, o, p7, ?_, by omega⟩, by omega, by omega, by omega⟩
    have := p8 z
    rw [(p9 z).1] at this
    exact this
  · rw [show (602 : Nat) = 601 + 1 from rfl, pRun_e, if_neg e]
    exact ⟨fun z => absurd z e, by dsimp only; omega, by dsimp only; omega, by dsimp only; omega⟩
set_option maxHeartbeats 4000000 in
theorem l9_l165 {I : Nat → Nat → Int32} {L : Nat → Nat → Int64} {Q : Option Value → ZH → Prop} {n b A k : Nat} {f : Int32} {out : List (Nat × Int32)} {tk tp tv : Nat → Nat} (hb : b < 2) (hT : mTok I L n tk tp tv) (hA : f = 0 → A ≤ n) (hA2 : A ≤ n + 1) (hk : k < 16) (hz : out.length ≤ A + k) (h6 : I 6 b = nI k) (hR : mRp I b A f out) (hQ : ∀ K, mRp K b (pTake tk tp 59 (pBody tk tp tv A f out).1 (pBody tk tp tv A f out).2.1).1 (pTake tk tp 59 (pBody tk tp tv A f out).1 (pBody tk tp tv A f out).2.1).2 ((pBody tk tp tv A f out).2.2.1 ++ [(0, 0)]) → K 6 b = nI (k + 1) → K 7 = I 7 → K 8 = zu I 8 (16 * b + k) (nI (660 * b + out.length)) 8 → lFr I K b → Q none (mh K L)) (ls : Nat → Option Value) (hl0 : ls 0 = some (.ref 0)) (hl1 : ls 1 = some (.int (nI (16 * b + k)))) : Zf x9_line 0 0 165 ls [] (mh I L) Q := by
  have hn := hT.1
  have htp : ∀ i, i ≤ n → tp i ≤ 600 := fun i hi => (hT.2.2.1 i hi).2.2
  obtain ⟨h7, h8, h16, h17, hc⟩ := id hR
  have hpb := prBody (tv := tv) (out := out) hT.2.1 hn htp (mTok_tv hT) hA hA2
  have hta := pTake_A (tp := tp) (c := 5) hT.2.1 (by decide) hA hA2
  have htl := pTake_le (tp := tp) (c := 5) hT.2.1 htp (by decide) hA
  have htg := take_go (c := 5) (t := mwd I L A 2) hT hA hR (fun z => mTok_mwd hT (hA z) (by decide) (by rw [← z]; exact h8)) (fun z => mwd_f (by rw [h8]; exact z))
  refine z_aload_n (i := 0) dX9_line_165 rfl hl0 ?_
  refine z_iconst (v := 2) dX9_line_166 (by decide) ?_
  refine z_callV (st := []) (mc2 := 0) (ms2 := 0) zi9_206 zv_yX9_takeWord (c9_takeWord _ _ 2 (by decide) A (by omega) h7) dX9_line_167 (show (0 : Nat) < 35 by decide) rfl rfl rfl rfl (by decide) (by decide) (Nat.le_of_ble_eq_true rfl) (by decide) (by decide) (fun r h2 hq => ?_)
  obtain ⟨rfl, rfl⟩ := hq
  generalize hK : (if mwd I L A 2 = true then zu I 0 7 (nI (A + 1)) else mwr I A 1) = K at htg ⊢
  obtain ⟨htr, htf⟩ := htg
  obtain ⟨t7, t8, t16, t17, tc⟩ := id htr
  have k6 : K 6 = I 6 := mFr_a htf rfl
  have k7 : K 7 = I 7 := mFr_a htf rfl
  have k8 : K 8 = I 8 := mFr_a htf rfl
  have hTK : mTok K L n tk tp tv := mTok_cong hT (mFr_a htf rfl) (mFr_a htf rfl)
  have hbe : pBody tk tp tv A f out = pRun tk tp tv 602 ((pTake tk tp 5 A f).1, (pTake tk tp 5 A f).2, out, 0, fun _ => 0, fun _ => 0, fun _ => 0) := rfl
  generalize pBody tk tp tv A f out = R at hQ hpb hbe
  generalize (pTake tk tp 5 A f).1 = A3 at *
  generalize (pTake tk tp 5 A f).2 = f3 at *
  try simp only [Option.toList, List.nil_append]
  refine z_aload_n (i := 0) dX9_line_170 rfl hl0 ?_
  refine z_gR zf9_56.g dX9_line_171 (by decide) rfl rfl ?_
  refine z_iload_n (i := 1) dX9_line_174 rfl hl1 ?_
  refine z_sipush (v := 660) dX9_line_175 (by decide) ?_
  refine z_aload_n (i := 0) dX9_line_178 rfl hl0 ?_
  refine z_gI zf9_189.g dX9_line_179 (by decide) rfl ?_
  rw [t16]
  refine z_imul dX9_line_182 ?_
  refine z_aload_n (i := 0) dX9_line_183 rfl hl0 ?_
  refine z_gI zf9_192.g dX9_line_184 (by decide) rfl ?_
  rw [t17]
  refine z_iadd dX9_line_187 ?_
  refine z_top (y := .int (nI (660 * b + out.length))) (by simp only [zl660, pk_mul, nI_add]) ?_
  refine z_iast dX9_line_188 (by decide) rfl (zvin (by omega) (by omega)) ?_
  simp only [zcl (show 16 * b + k ≤ 100000 by omega)]
  refine z_aload_n (i := 0) dX9_line_189 rfl hl0 ?_
  refine z_iconst (v := 0) dX9_line_190 (by decide) ?_
  refine z_putI zf9_209 dX9_line_191 (fun h => by cases h) (by decide) rfl ?_
  refine z_aload_n (i := 0) dX9_line_194 rfl hl0 ?_
  refine z_callV (st := []) (mc2 := 0) (ms2 := 0) zi9_212 zv_yX9_opens (c9_opens _ _ 0 (by omega) rfl) dX9_line_195 (show (0 : Nat) < 35 by decide) rfl rfl rfl rfl (by decide) (by decide) (Nat.le_of_ble_eq_true rfl) (by decide) (by decide) (fun r h2 hq => ?_)
  obtain ⟨rfl, rfl⟩ := hq
  try simp only [Option.toList, List.nil_append]
  refine z_iconst (v := 1) dX9_line_198 (by decide) ?_
  refine z_istore_n (i := 2) dX9_line_199 rfl (by decide) rfl ?_
  have hR9 : mRep (mop3 (zu (zu K 8 (16 * b + k) (nI (660 * b + out.length))) 0 18 0) 0) b (A3, f3, out, 0, fun _ => 0, fun _ => 0, fun _ => 0) := ⟨t7, t8, t16, t17, tc, rfl, fun k hk => by dsimp only at hk; rw [Nat.le_zero.mp hk]; exact ⟨rfl, rfl, rfl⟩⟩
  refine l9_run (I0 := mop3 (zu (zu K 8 (16 * b + k) (nI (660 * b + out.length))) 0 18 0) 0) (pre := out) (A0 := A3) (N0 := out.length) hb (by omega) 602 _ A3 f3 out 0 (fun _ => 0) (fun _ => 0) (fun _ => 0) _ (mTok_cong hTK rfl rfl) (fun z => ⟨pI_mk (by have := htl z; omega) (by omega) (by omega) (by simp [pnd, nz]) (fun _ => ⟨by decide, by decide, by decide⟩) (fun _ => ⟨by decide, by decide, by decide⟩) ⟨[], by simp, fun _ => by simp [pnd, nz, mrp]⟩, by omega⟩) hR9 (mFr.rf _ _) hl0 hl1 rfl ?_
  intro J l2 hRJ hFJ hm0 hm1
  rw [← hbe] at hRJ
  have hTM : mTok (mop3 (zu (zu K 8 (16 * b + k) (nI (660 * b + out.length))) 0 18 0) 0) L n tk tp tv := mTok_cong hTK rfl rfl
  have hTJ : mTok J L n tk tp tv := mTok_cong hTM (mFr_a hFJ rfl) (mFr_a hFJ rfl)
  have hfJ : mFr (zu K 8 (16 * b + k) (nI (660 * b + out.length))) J b := (mFr_d.tr mFr_o).tr hFJ
  refine l9_l234 (k := k) hb hTJ (fun z => (hpb.1 z).1) hpb.2.1 (by omega) hk ?_ (mRp_of hRJ) ?_ l2 hm0
  · rw [mFr_a hfJ rfl, zu_ne _ _ _ (by decide), k6]; exact h6
  · intro K2 g1 g6 g7 g8 gF
    refine hQ K2 g1 g6 (g7.trans ((mFr_a hfJ rfl).trans ((zu_ne _ _ _ (by decide)).trans k7))) ?_ ((lFr_of htf).tr ((lFr_8 hk).tr ((lFr_of hfJ).tr gF)))
    rw [g8, mFr_a hfJ rfl]
    funext j
    rw [zu_apply, zu_apply, k8]
