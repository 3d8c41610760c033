/-! the whole text of the class's reader -/
def kcat : List MLn → List (Nat × Int32)
  | [] => []
  | l :: ts => l.2 ++ kcat ts
theorem kcat_snoc : ∀ (ts : List MLn) (l : MLn), kcat (ts ++ [l]) = kcat ts ++ l.2
  | [], l => by simp [kcat]
  | a :: ts, l => by simp [kcat, kcat_snoc ts l, List.append_assoc]
theorem kTx_cong2 {I J : Nat → Nat → Int32} {c e p F Q : Nat} (hc : ∀ j, j < F → J c j = I c j) (he : ∀ j, j < Q → J e j = I e j) (hp : ∀ j, j < Q → J p j = I p j) : ∀ (ts : List MLn) (q f : Nat), q + ts.length ≤ Q → f + (kcat ts).length ≤ F → kTx I c e p ts q f → kTx J c e p ts q f
  | [], _, _, _, _, _ => trivial
  | l :: ts, q, f, hq, hf, ⟨⟨h1, h2, h3, h4, h5⟩, h6⟩ => by
    simp only [List.length_cons] at hq
    simp only [kcat, List.length_append] at hf
    refine ⟨⟨by rw [hp q (by omega)]; exact h1, by rw [he q (by omega)]; exact h2, fun j x hj => ?_, h4, h5⟩, kTx_cong2 hc he hp ts (q + 1) _ (by omega) (by omega) h6⟩
    have hjl : j < l.2.length := (List.getElem?_eq_some_iff.mp hj).1
    rw [hc (f + j) (by omega)]
    exact h3 j x hj
theorem kTx_snoc {I : Nat → Nat → Int32} {c e p : Nat} : ∀ (ts : List MLn) (q f : Nat) (l : MLn), kTx I c e p ts q f → (I p (q + ts.length) = l.1 ∧ I e (q + ts.length) = nI (f + (kcat ts).length + l.2.length) ∧ kcd I c (f + (kcat ts).length) l.2 ∧ mrp l.2 0 1 ∧ f + (kcat ts).length + l.2.length ≤ 600) → kTx I c e p (ts ++ [l]) q f
  | [], q, f, l, _, h => by
    simp only [kcat, List.length_nil, Nat.add_zero] at h
    exact ⟨h, trivial⟩
  | a :: ts, q, f, l, ⟨h1, h2⟩, h => by
    refine ⟨h1, kTx_snoc ts (q + 1) (f + a.2.length) l h2 ?_⟩
    simp only [kcat, List.length_append, List.length_cons] at h
    rw [show q + 1 + ts.length = q + (ts.length + 1) by omega, show f + a.2.length + (kcat ts).length = f + (a.2.length + (kcat ts).length) by omega]
    exact h
def kLok (ts : List MLn) : Prop := ∀ l ∈ ts, mrp l.2 0 1 ∧ (l.1 = -1 ∨ ∃ j, j < 6 ∧ l.1 = nI j)
theorem kLok_snoc {ts : List MLn} {l : MLn} (h : kLok ts) (hl : mrp l.2 0 1 ∧ (l.1 = -1 ∨ ∃ j, j < 6 ∧ l.1 = nI j)) : kLok (ts ++ [l]) := by
  intro a ha
  rcases List.mem_append.mp ha with q | q
  · exact h a q
  · rw [List.mem_singleton.mp q]; exact hl
/-- a text in the rules r -/
def kTxt (J : Nat → Nat → Int32) (r c e p : Nat) (ts : List MLn) : Prop := kTx J c e p ts 0 0 ∧ J r 6 = nI ts.length ∧ ts.length ≤ 16 ∧ kLok ts
/-- the reader stands before a line -/
def kRl (J : Nat → Nat → Int32) (d r c e p A : Nat) (outR : List (Nat × Int32)) (ts : List MLn) : Prop := kRS J d r c (A, 0, kcat ts) ∧ kTxt J r c e p ts ∧ outR.length = (kcat ts).length + ts.length ∧ outR.length ≤ A + ts.length
theorem kRl_add {I J : Nat → Nat → Int32} {d r c e p A A2 N : Nat} {outR cs : List (Nat × Int32)} {ts : List MLn} {x : RS} {q : Int32} (h : kRl I d r c e p A outR ts) (hS : kRS J d r c x) (hx : x = (A2, 0, kcat ts ++ cs)) (h6 : J r 6 = nI (ts.length + 1)) (he : J e = va_up (I e) ts.length (nI (min (kcat ts ++ cs).length 600))) (hp : J p = va_up (I p) ts.length q) (hk : ts.length < 16) (hl : (outR ++ (cs ++ [(0, 0)])).length ≤ A2 + (ts.length + 1)) (hA2 : A2 ≤ N) (hN : N ≤ 600) (hm : mrp cs 0 1) (hq : q = -1 ∨ ∃ j, j < 6 ∧ q = nI j) (hA : A ≤ 600) : kRl J d r c e p A2 (outR ++ (cs ++ [(0, 0)])) (ts ++ [(q, cs)]) := by
  subst hx
  obtain ⟨⟨s1, s2, s3, s4⟩, ⟨t1, t2, t3, t4⟩, h7, h8⟩ := h
  obtain ⟨u1, u2, u3, u4⟩ := id hS
  simp only [List.length_append, List.length_cons, List.length_nil] at hl
  have hlen : (kcat ts ++ cs).length = (kcat ts).length + cs.length := List.length_append
  have hle : (kcat ts).length + cs.length ≤ 600 := by omega
  refine ⟨?_, ⟨?_, ?_, ?_, kLok_snoc t4 ⟨hm, hq⟩⟩, ?_, ?_⟩
  · rw [kcat_snoc]; exact hS
  · refine kTx_snoc ts 0 0 (q, cs) (kTx_cong2 (F := (kcat ts).length) (Q := ts.length) (fun j hj => ?_) (fun j hj => ?_) (fun j hj => ?_) ts 0 0 (by omega) (by omega) t1) ⟨?_, ?_, fun j y hy => ?_, hm, by show 0 + (kcat ts).length + cs.length ≤ 600; omega⟩
    · have e1 := s4 j (kcat ts)[j] (List.getElem?_eq_getElem hj) (by omega)
      have e2 := u4 j (kcat ts)[j] (by show (kcat ts ++ cs)[j]? = _; rw [List.getElem?_append_left hj]; exact List.getElem?_eq_getElem hj) (by omega)
      rw [e1, e2]
    · rw [he, va_up_ne _ _ (by omega)]
    · rw [hp, va_up_ne _ _ (by omega)]
    · rw [Nat.zero_add, hp, va_up_self]
    · rw [Nat.zero_add, he, va_up_self, Nat.zero_add, hlen, Nat.min_eq_left hle]
    · rw [Nat.zero_add]
      have hjl : j < cs.length := (List.getElem?_eq_some_iff.mp hy).1
      exact u4 ((kcat ts).length + j) y (by show (kcat ts ++ cs)[_]? = _; rw [List.getElem?_append_right (by omega), Nat.add_sub_cancel_left]; exact hy) (by omega)
  · rw [List.length_append]; exact h6
  · rw [List.length_append]; simp only [List.length_cons, List.length_nil]; omega
  · rw [kcat_snoc]; simp only [List.length_append, List.length_cons, List.length_nil]; omega
  · simp only [List.length_append, List.length_cons, List.length_nil]; omega
theorem line_step {tk tp tv : Nat → Nat} {N A k : Nat} {outR : List (Nat × Int32)} (outC : List (Nat × Int32)) (hn : tk N = 0) (hn6 : N ≤ 600) (htp : ∀ i, i ≤ N → tp i ≤ 600) (htv : ∀ i, i ≤ N → tk i = 2 → tv i ≤ 9999) (hA : A ≤ N) (hz : outR.length ≤ A + k) (h : (pLine tk tp tv A k outR).1 = 0) : ∃ (A2 : Nat) (cs : List (Nat × Int32)) (q : Int32), pLine tk tp tv A k outR = (0, A2, outR ++ (cs ++ [(0, 0)]), (q, cs)) ∧ rLine tk tp tv A outC = (A2, 0, outC ++ cs) ∧ A2 ≤ N ∧ (outR ++ (cs ++ [(0, 0)])).length ≤ A2 + (k + 1) ∧ mrp cs 0 1 ∧ tk A = 3 ∧ k ≠ 16 ∧ q = rWp tk tv (A + 1) ∧ (q = -1 ∨ ∃ j, j < 6 ∧ q = nI j) := by
  obtain ⟨le1, le2⟩ := line_eq (tv := tv) (k := k) outR outC hn hn6 htp hA
  obtain ⟨g3, g16, gA, cs, gR, gL, gC, gq⟩ := le2 h
  obtain ⟨p1, p2, p3, p4, cs2, p5, p6, p7⟩ := prLine (tv := tv) hn hn6 htp htv hA hz h
  rw [if_neg (fun w => g16 w.2)] at le1
  generalize pLine tk tp tv A k outR = y at *
  generalize rLine tk tp tv A outC = x at *
  obtain ⟨y1, y2, y3, y4⟩ := y
  obtain ⟨x1, x2, x3⟩ := x
  dsimp only at *
  subst gL
  subst gR
  subst gC
  subst gA
  rw [h] at le1
  dsimp only at p6
  subst p6
  rw [h, ← le1]
  exact ⟨x1, cs, _, rfl, rfl, p1, p4, p7, g3, g16, rfl, gq⟩
abbrev kQrd (n : Nat) (K : Nat → Nat × Nat) (I : Nat → Nat → Int32) (L : Nat → Nat → Int64) (R : Nat → Nat → Option Nat) (d r c e p : Nat) (x : Int32 × List MLn) : Option Value → ZH → Prop := fun q h => q = some (.int x.1) ∧ ∃ J : Nat → Nat → Int32, h = (n, K, J, L, R) ∧ kF2 d r c e p I J ∧ (x.1 = 0 → kTxt J r c e p x.2)
abbrev x3_read : ZX := (RX3, cX3_read, 3, (some .int), "read", 26, 1040, false)
set_option maxHeartbeats 4000000 in
theorem l3_rf {n : Nat} {K : Nat → Nat × Nat} {R : Nat → Nat → Option Nat} {d t k l v r c e p o : Nat} (hD : kRd n K R d t k l v r c e p o) {J : Nat → Nat → Int32} {L : Nat → Nat → Int64} {Q : Option Value → ZH → Prop} {f : Int32} {j : Nat} (hj : j ≤ 100) (hf : J d 3 = f) (hf0 : ¬ f = 0) (ls : Nat → Option Value) (hl0 : ls 0 = some (.ref d)) (hl2 : ls 2 = some (.int (nI j))) (hQ : Q (some (.int f)) (n, K, J, L, R)) : Zf x3_read 0 0 24 ls [] (n, K, J, L, R) Q := by
  obtain ⟨⟨⟨hda, hta, hka, hla, hva⟩, ⟨hdk, htk, hkk, hlk, hvk⟩, ⟨hd0, ht0, ht1, ht2⟩⟩, ⟨⟨hra, hca, hea, hpa, hoa⟩, ⟨hrk, hkc, hke, hkp, hko⟩, ⟨hr0, hr1, hr2, hr3⟩, ⟨nep, neo, npo⟩, ⟨nrc', nre, nrp, nro⟩, ⟨nce, ncp, nco⟩⟩, hd1⟩ := id hD
  obtain ⟨⟨ndc, ndr, nrc⟩, -⟩ := kRd_ne hD
  have nde := kne hdk hke (by decide)
  have ndp := kne hdk hkp (by decide)
  refine z_iload_n (i := 2) dX3_read_24 rfl hl2 ?_
  refine z_bipush (v := 16) dX3_read_25 (by decide) ?_
  refine z_icmp_gt 56 dX3_read_27 (by decide) (fun c_1 => ?_) (fun c_1 => ?_)
  · skip
    refine z_aload_n (i := 0) dX3_read_56 rfl hl0 ?_
    refine z_gI zf3_28.g dX3_read_57 hda hdk ?_
    rw [hf]
    refine z_iret dX3_read_60 rfl ?_
    exact hQ
  · skip
    refine z_aload_n (i := 0) dX3_read_30 rfl hl0 ?_
    refine z_gI zf3_28.g dX3_read_31 hda hdk ?_
    rw [hf]
    refine z_if_ne 56 dX3_read_34 (by decide) (fun _ => ?_) (fun c_2 => absurd c_2 hf0)
    refine z_aload_n (i := 0) dX3_read_56 rfl hl0 ?_
    refine z_gI zf3_28.g dX3_read_57 hda hdk ?_
    rw [hf]
    refine z_iret dX3_read_60 rfl ?_
    exact hQ
set_option maxHeartbeats 4000000 in
theorem l3_read {n : Nat} {K : Nat → Nat × Nat} {R : Nat → Nat → Option Nat} {d t k l v r c e p o N : Nat} {tk tp tv : Nat → Nat} (hD : kRd n K R d t k l v r c e p o) {I : Nat → Nat → Int32} {L : Nat → Nat → Int64} {Q : Option Value → ZH → Prop} (hN0 : tk N = 0) (hN6 : N ≤ 600) (htp : ∀ i, i ≤ N → tp i ≤ 600) (htv : ∀ i, i ≤ N → tk i = 2 → tv i ≤ 9999) : ∀ (m A : Nat) (outR : List (Nat × Int32)) (ts : List MLn) (J : Nat → Nat → Int32) (ls : Nat → Option Value), ts.length + m = 18 → kTk J t k l v N tk tp tv → A ≤ N → kRl J d r c e p A outR ts → kF2 d r c e p I J → ls 0 = some (.ref d) → ls 2 = some (.int (nI ts.length)) → (∀ M, kF2 d r c e p I M → ((pText tk tp tv m A outR ts).1 = 0 → kTxt M r c e p (pText tk tp tv m A outR ts).2) → Q (some (.int (pText tk tp tv m A outR ts).1)) (n, K, M, L, R)) → Zf x3_read 0 0 24 ls [] (n, K, J, L, R) Q := by
  intro m
  obtain ⟨⟨⟨hda, hta, hka, hla, hva⟩, ⟨hdk, htk, hkk, hlk, hvk⟩, ⟨hd0, ht0, ht1, ht2⟩⟩, ⟨⟨hra, hca, hea, hpa, hoa⟩, ⟨hrk, hkc, hke, hkp, hko⟩, ⟨hr0, hr1, hr2, hr3⟩, ⟨nep, neo, npo⟩, ⟨nrc', nre, nrp, nro⟩, ⟨nce, ncp, nco⟩⟩, hd1⟩ := id hD
  obtain ⟨⟨ndc, ndr, nrc⟩, -⟩ := kRd_ne hD
  have nde := kne hdk hke (by decide)
  have ndp := kne hdk hkp (by decide)
  induction m with
  | zero =>
    intro A outR ts J ls hm hT hA hR
    have := hR.2.1.2.2.1
    omega
  | succ m ih =>
  intro A outR ts J ls hm hT hA hR hF hl0 hl2 hQ
  have hk := hR.2.1.2.2.1
  have h2 : J d 2 = nI A := hR.1.1
  have h3 : J d 3 = 0 := hR.1.2.1
  rw [pText_e] at hQ
  by_cases e0 : tk A = 0
  · rw [if_pos e0] at hQ
    refine z_iload_n (i := 2) dX3_read_24 rfl hl2 ?_
    refine z_bipush (v := 16) dX3_read_25 (by decide) ?_
    refine z_icmp_gt 56 dX3_read_27 (by decide) (fun c_1 => absurd c_1 (fun q => by have := (zlt (a := 16) (b := ts.length) (by omega) (by omega)).mp q; omega)) (fun _ => ?_)
    refine z_aload_n (i := 0) dX3_read_30 rfl hl0 ?_
    refine z_gI zf3_28.g dX3_read_31 hda hdk ?_
    rw [h3]
    refine z_if_ne 56 dX3_read_34 (by decide) (fun c_2 => absurd c_2 (fun q => q rfl)) (fun _ => ?_)
    refine z_aload_n (i := 0) dX3_read_37 rfl hl0 ?_
    refine z_iconst (v := 0) dX3_read_38 (by decide) ?_
    refine z_callV (st := []) (mc2 := 0) (ms2 := 0) zi3_33 zv_yX3_sees (c3_sees n K J L R d t k l v N tk tp tv hD.1 hT A hA h2 0 h3 0 (by omega)) dX3_read_39 hda (congrArg Prod.fst hdk) rfl rfl rfl (by decide) (by decide) (Nat.le_of_ble_eq_true rfl) (by decide) (by decide) (fun r h2 hq => ?_)
    obtain ⟨rfl, rfl⟩ := hq
    refine z_if_ne 56 dX3_read_42 (by decide) (fun _ => ?_) (fun c_3 => absurd c_3 (fun q => absurd e0 (by simpa using (zb_0 _).mp q)))
    refine z_aload_n (i := 0) dX3_read_56 rfl hl0 ?_
    refine z_gI zf3_28.g dX3_read_57 hda hdk ?_
    rw [h3]
    refine z_iret dX3_read_60 rfl ?_
    exact hQ J hF (fun _ => hR.2.1)
  · rw [if_neg e0] at hQ
    obtain ⟨le1, le2⟩ := line_eq (tv := tv) (k := ts.length) outR (kcat ts) hN0 hN6 htp hA
    refine z_iload_n (i := 2) dX3_read_24 rfl hl2 ?_
    refine z_bipush (v := 16) dX3_read_25 (by decide) ?_
    refine z_icmp_gt 56 dX3_read_27 (by decide) (fun c_1 => absurd c_1 (fun q => by have := (zlt (a := 16) (b := ts.length) (by omega) (by omega)).mp q; omega)) (fun _ => ?_)
    refine z_aload_n (i := 0) dX3_read_30 rfl hl0 ?_
    refine z_gI zf3_28.g dX3_read_31 hda hdk ?_
    rw [h3]
    refine z_if_ne 56 dX3_read_34 (by decide) (fun c_2 => absurd c_2 (fun q => q rfl)) (fun _ => ?_)
    refine z_aload_n (i := 0) dX3_read_37 rfl hl0 ?_
    refine z_iconst (v := 0) dX3_read_38 (by decide) ?_
    refine z_callV (st := []) (mc2 := 0) (ms2 := 0) zi3_33 zv_yX3_sees (c3_sees n K J L R d t k l v N tk tp tv hD.1 hT A hA h2 0 h3 0 (by omega)) dX3_read_39 hda (congrArg Prod.fst hdk) rfl rfl rfl (by decide) (by decide) (Nat.le_of_ble_eq_true rfl) (by decide) (by decide) (fun r h2 hq => ?_)
    obtain ⟨rfl, rfl⟩ := hq
    refine z_if_ne 56 dX3_read_42 (by decide) (fun c_3 => absurd c_3 (fun q => q (by rw [decide_eq_false e0, Bool.and_false]; rfl))) (fun _ => ?_)
    refine z_aload_n (i := 0) dX3_read_45 rfl hl0 ?_
    refine z_iload_n (i := 2) dX3_read_46 rfl hl2 ?_
    refine z_callV (st := []) (mc2 := 0) (ms2 := 0) zi3_37 zv_yX3_readLine (c3_readLine hD J L A ts.length (kcat ts) hT hA hR.1 hk hR.2.1.2.1) dX3_read_47 hda (congrArg Prod.fst hdk) rfl rfl rfl (by decide) (by decide) (Nat.le_of_ble_eq_true rfl) (by decide) (by decide) (fun r h2 hq => ?_)
    obtain ⟨rfl, J2, rfl, F2, f2, g2⟩ := hq
    rw [← le1] at f2
    try simp only [Option.toList, List.nil_append]
    refine z_iinc dX3_read_50 hl2 rfl ?_
    try rw [zinc]
    refine z_goto 24 dX3_read_53 (by decide) ?_
    have hT2 : kTk J2 t k l v N tk tp tv := by
      obtain ⟨-, ⟨a1, a2, a3⟩, ⟨b1, b2, b3⟩, ⟨c1, c2, c3⟩, ⟨d1, d2, d3⟩⟩ := kRd_ne hD
      exact kTk_cong hT (F2.1 t a1 a2 a3 (kne htk hke (by decide)) (kne htk hkp (by decide))) (F2.1 k b1 b2 b3 (kne hkk hke (by decide)) (kne hkk hkp (by decide))) (F2.1 l c1 c2 c3 (kne hlk hke (by decide)) (kne hlk hkp (by decide))) (F2.1 v d1 d2 d3 (kne hvk hke (by decide)) (kne hvk hkp (by decide)))
    by_cases ez : (pLine tk tp tv A ts.length outR).1 = 0
    · rw [if_pos ez] at hQ
      obtain ⟨A2, cs, q, hP, hL, a2, a3, a4, a5, a6, a7, a8⟩ := line_step (tv := tv) (kcat ts) hN0 hN6 htp htv hA hR.2.2.2 ez
      have hnx : ¬ (tk A = 3 ∧ ts.length = 16) := fun w => a6 w.2
      rw [hL] at g2
      obtain ⟨q1, q2, q3, q4⟩ := g2 hnx rfl
      rw [← a7] at q4
      rw [hP] at hQ
      clear g2 f2 hP hL le1 le2 ez
      dsimp only at hQ q1 q3
      have hadd := kRl_add (N := N) hR q1 rfl q2 q3 q4 (by omega) a3 a2 hN6 a4 a8 (by omega)
      exact ih A2 _ _ J2 _ (by rw [List.length_append]; simp only [List.length_cons, List.length_nil]; omega) hT2 a2 hadd (hF.tr F2) hl0 (by rw [List.length_append]; rfl) hQ
    · rw [if_neg ez] at hQ
      exact l3_rf hD (j := ts.length + 1) (by omega) f2 ez _ hl0 rfl (hQ J2 (hF.tr F2) (fun w => absurd w ez))
theorem kRd_of {n : Nat} {K : Nat → Nat × Nat} {R : Nat → Nat → Option Nat} {d t k l v r c e p o : Nat} (h1 : kRr n K R d t k l v) (h2 : kRu n K R r c e p o) : kRd n K (zu R d 1 (some r)) d t k l v r c e p o := by
  obtain ⟨a1, ⟨hd, ht, hk, hl, hv⟩, ⟨b1, b2, b3, b4⟩⟩ := h1
  obtain ⟨c1, ⟨hr, hrest⟩, ⟨d1, d2, d3, d4⟩, c3⟩ := h2
  have ntd := kne ht hd (by decide)
  have nrd := kne hr hd (by decide)
  refine ⟨⟨a1, ⟨hd, ht, hk, hl, hv⟩, ⟨?_, ?_, ?_, ?_⟩⟩, ⟨c1, ⟨hr, hrest⟩, ⟨?_, ?_, ?_, ?_⟩, c3⟩, ?_⟩
  · rw [zu_apply, if_neg (by omega)]; exact b1
  · rw [zu_ne _ _ _ ntd]; exact b2
  · rw [zu_ne _ _ _ ntd]; exact b3
  · rw [zu_ne _ _ _ ntd]; exact b4
  · rw [zu_ne _ _ _ nrd]; exact d1
  · rw [zu_ne _ _ _ nrd]; exact d2
  · rw [zu_ne _ _ _ nrd]; exact d3
  · rw [zu_ne _ _ _ nrd]; exact d4
  · rw [zu_apply, if_pos ⟨rfl, rfl⟩]
set_option maxHeartbeats 4000000 in
theorem c3_read (n : Nat) (K : Nat → Nat × Nat) (I : Nat → Nat → Int32) (L : Nat → Nat → Int64) (R : Nat → Nat → Option Nat) {d t k l v r c e p o N : Nat} {tk tp tv : Nat → Nat} (h1 : kRr n K R d t k l v) (h2 : kRu n K R r c e p o) (hT : kTk I t k l v N tk tp tv) : Zm yX3_read cX3_read 3 (some .int) 26 1040 0 0 [.ref d, .ref r] (n, K, I, L, R) (kQrd n K I L (zu R d 1 (some r)) d r c e p (pText tk tp tv 18 0 [] [])) := by
  refine Zm_of (lg := false) (by decide) (fun _ => by simp [Value.category]) (fun _ => Nat.le_of_ble_eq_true rfl) ?_
  show Zf x3_read 0 0 0 (zargs [.ref d, .ref r]) [] (n, K, I, L, R) _
  have hD := kRd_of h1 h2
  obtain ⟨⟨⟨hda, hta, hka, hla, hva⟩, ⟨hdk, htk, hkk, hlk, hvk⟩, ⟨hd0, ht0, ht1, ht2⟩⟩, ⟨⟨hra, hca, hea, hpa, hoa⟩, ⟨hrk, hkc, hke, hkp, hko⟩, ⟨hr0, hr1, hr2, hr3⟩, ⟨nep, neo, npo⟩, ⟨nrc', nre, nrp, nro⟩, ⟨nce, ncp, nco⟩⟩, hd1⟩ := id hD
  obtain ⟨⟨ndc, ndr, nrc⟩, -⟩ := kRd_ne hD
  have nde := kne hdk hke (by decide)
  have ndp := kne hdk hkp (by decide)
  obtain ⟨hN6, hN, hN0, hTi⟩ := id hT
  have F0 : kF2 d r c e p I (zu (zu (zu (zu I r 4 0) r 6 0) d 2 0) d 3 0) := ⟨fun a x y z w u => by rw [zu_ne _ _ _ z, zu_ne _ _ _ z, zu_ne _ _ _ y, zu_ne _ _ _ y], fun j x y => by rw [zu_ne _ _ _ ndr.symm, zu_ne _ _ _ ndr.symm, zu_apply, if_neg (by omega), zu_apply, if_neg (by omega)], fun j x y => by rw [zu_apply, if_neg (by omega), zu_apply, if_neg (by omega), zu_ne _ _ _ ndr, zu_ne _ _ _ ndr]⟩
  refine z_aload_n (i := 0) dX3_read_0 rfl rfl ?_
  refine z_aload_n (i := 1) dX3_read_1 rfl rfl ?_
  refine z_putR zf3_15 dX3_read_2 (fun h => by cases h) hda hdk ?_
  refine z_aload_n (i := 0) dX3_read_5 rfl rfl ?_
  refine z_gR zf3_15.g dX3_read_6 hda hdk hd1 ?_
  refine z_callV (st := []) (mc2 := 0) (ms2 := 0) zi3_19 zv_yX4_clear (c4_clear n K I L _ r c e p o hD.2.1) dX3_read_9 hra (congrArg Prod.fst hrk) rfl rfl rfl (by decide) (by decide) (Nat.le_of_ble_eq_true rfl) (by decide) (by decide) (fun r h2 hq => ?_)
  obtain ⟨rfl, rfl⟩ := hq
  try simp only [Option.toList, List.nil_append]
  refine z_aload_n (i := 0) dX3_read_12 rfl rfl ?_
  refine z_iconst (v := 0) dX3_read_13 (by decide) ?_
  refine z_putI zf3_24 dX3_read_14 (fun h => by cases h) hda hdk ?_
  refine z_aload_n (i := 0) dX3_read_17 rfl rfl ?_
  refine z_iconst (v := 0) dX3_read_18 (by decide) ?_
  refine z_putI zf3_28 dX3_read_19 (fun h => by cases h) hda hdk ?_
  refine z_iconst (v := 0) dX3_read_22 (by decide) ?_
  refine z_istore_n (i := 2) dX3_read_23 rfl (by decide) rfl ?_
  have hT2 : kTk (zu (zu (zu (zu I r 4 0) r 6 0) d 2 0) d 3 0) t k l v N tk tp tv := by
    obtain ⟨-, ⟨a1, a2, a3⟩, ⟨b1, b2, b3⟩, ⟨c1, c2, c3⟩, ⟨d1, d2, d3⟩⟩ := kRd_ne hD
    exact kTk_cong hT (F0.1 t a1 a2 a3 (kne htk hke (by decide)) (kne htk hkp (by decide))) (F0.1 k b1 b2 b3 (kne hkk hke (by decide)) (kne hkk hkp (by decide))) (F0.1 l c1 c2 c3 (kne hlk hke (by decide)) (kne hlk hkp (by decide))) (F0.1 v d1 d2 d3 (kne hvk hke (by decide)) (kne hvk hkp (by decide)))
  refine l3_read hD hN0 hN6 (fun i hi => (hTi i hi).2.2.1) (fun i hi w => ((hTi i hi).2.2.2.2 w).2) 18 0 [] [] _ _ rfl hT2 (Nat.zero_le _) ⟨⟨?_, ?_, ?_, fun j x hj => by simp [kcat] at hj⟩, ⟨trivial, ?_, by simp, fun l hl => by simp at hl⟩, rfl, by simp⟩ F0 rfl rfl (fun M hM hx => ⟨rfl, M, rfl, hM, hx⟩)
  · rw [zu_apply, if_neg (by omega), zu_apply, if_pos ⟨rfl, rfl⟩]; rfl
  · rw [zu_apply, if_pos ⟨rfl, rfl⟩]
  · rw [zu_ne _ _ _ ndr.symm, zu_ne _ _ _ ndr.symm, zu_apply, if_neg (by omega), zu_apply, if_pos ⟨rfl, rfl⟩]; rfl
  · rw [zu_ne _ _ _ ndr.symm, zu_ne _ _ _ ndr.symm, zu_apply, if_pos ⟨rfl, rfl⟩]; rfl
