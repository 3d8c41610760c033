theorem kAcc_tk {J : Nat → Nat → Int32} {t k l v T : Nat} {W : List (Nat × Nat × Nat)} (h : kAcc J t k l v W) (hW : W.length ≤ 600) (hT : T ≤ 600) (ntk : t ≠ k) (ntl : t ≠ l) (nkl : k ≠ l) (nkv : k ≠ v) (nlv : l ≠ v) : kTk (zu (zu J k W.length 0) l W.length (nI T)) t k l v W.length (tkF W) (tpF W T) (tvF W) := by
  refine ⟨hW, by rw [zu_ne _ _ _ ntl, zu_ne _ _ _ ntk]; exact h.1, ?_, fun i hi => ?_⟩
  · unfold tkF
    rw [List.getElem?_eq_none (Nat.le_refl _)]
    rfl
  · rw [zu_ne _ _ _ nkl, zu_ne _ _ _ nlv.symm, zu_ne _ _ _ nkv.symm, zu_apply, zu_apply]
    by_cases e : i < W.length
    · obtain ⟨a1, a2, a3, a4, a5⟩ := h.2 i W[i] (List.getElem?_eq_getElem e)
      have e1 : tkF W i = W[i].1 := by unfold tkF; rw [List.getElem?_eq_getElem e]; rfl
      have e2 : tpF W T i = W[i].2.1 := by unfold tpF; rw [List.getElem?_eq_getElem e]; rfl
      have e3 : tvF W i = W[i].2.2 := by unfold tvF; rw [List.getElem?_eq_getElem e]; rfl
      rw [if_neg (fun q => by omega), if_neg (fun q => by omega), zu_ne _ _ _ nkl.symm, e1, e2, e3]
      exact ⟨a1, a2, a3, a4, a5⟩
    · have hi2 : i = W.length := by omega
      have e1 : tkF W i = 0 := by unfold tkF; rw [List.getElem?_eq_none (by omega)]; rfl
      have e2 : tpF W T i = T := by unfold tpF; rw [List.getElem?_eq_none (by omega)]; rfl
      rw [if_pos ⟨rfl, hi2⟩, if_pos ⟨rfl, hi2⟩, e1, e2]
      exact ⟨rfl, rfl, hT, by omega, fun q => by omega⟩
abbrev kQcut (n : Nat) (K : Nat → Nat × Nat) (I : Nat → Nat → Int32) (L : Nat → Nat → Int64) (R : Nat → Nat → Option Nat) (t k l v T : Nat) (W : List (Nat × Nat × Nat)) : Option Value → ZH → Prop := fun r h => r = none ∧ ∃ J, h = (n, K, J, L, R) ∧ kTk J t k l v W.length (tkF W) (tpF W T) (tvF W) ∧ kTF t k l v I J
abbrev x6_cut : ZX := (RX6, cX6_cut, 6, none, "cut", 8, 320, false)
set_option maxHeartbeats 4000000 in
theorem l6_c77 {n : Nat} {K : Nat → Nat × Nat} {I : Nat → Nat → Int32} {L : Nat → Nat → Int64} {R : Nat → Nat → Option Nat} {t k l v p s T : Nat} {ch : Nat → Nat} (hT : kTo n K R t k l v) (hP : kTp n K R p s) (hT6 : T ≤ 600) (hpT : I p 1 = nI T) (hch : ∀ j, j < T → I s j = nI (ch j) ∧ ch j ≤ 126) {W : List (Nat × Nat × Nat)} (hW6 : W.length ≤ 600) (J : Nat → Nat → Int32) (hA : kAcc J t k l v W) (hF : kTF t k l v I J) (ls : Nat → Option Value) (hl0 : ls 0 = some (.ref t)) (hl1 : ls 1 = some (.ref p)) : Zf x6_cut 0 0 77 ls [] (n, K, J, L, R) (kQcut n K I L R t k l v T W) := by
  obtain ⟨⟨hta, hka, hla, hva⟩, ⟨htk, hkk, hlk, hvk⟩, ⟨ht0, ht1, ht2⟩, ⟨nkl, nkv, nlv⟩⟩ := id hT
  obtain ⟨hpa, hsa, hpk, hks, hp0⟩ := id hP
  have ntk := kne htk hkk (by decide)
  have ntl := kne htk hlk (by decide)
  have ntv := kne htk hvk (by decide)
  have nst := kne hks htk (by decide)
  have nsk := kne hks hkk (by decide)
  have nsl := kne hks hlk (by decide)
  have nsv := kne hks hvk (by decide)
  have npt := kne hpk htk (by decide)
  have npk := kne hpk hkk (by decide)
  have npl := kne hpk hlk (by decide)
  have npv := kne hpk hvk (by decide)
  have hN : J t 3 = nI W.length := hA.1
  have hJp : J p 1 = nI T := by rw [hF.1 p npt npk npl npv]; exact hpT
  refine z_aload_n (i := 0) dX6_cut_77 rfl hl0 ?_
  refine z_gR zf6_11.g dX6_cut_78 hta htk ht0 ?_
  refine z_aload_n (i := 0) dX6_cut_81 rfl hl0 ?_
  refine z_gI zf6_21.g dX6_cut_82 hta htk ?_
  rw [hN]
  refine z_iconst (v := 0) dX6_cut_85 (by decide) ?_
  refine z_iast dX6_cut_86 hka hkk (zvin (by omega) (by omega)) ?_
  rw [zcl (by omega)]
  refine z_aload_n (i := 0) dX6_cut_87 rfl hl0 ?_
  refine z_gR zf6_15.g dX6_cut_88 hta htk ht1 ?_
  refine z_aload_n (i := 0) dX6_cut_91 rfl hl0 ?_
  refine z_gI zf6_21.g dX6_cut_92 hta htk ?_
  rw [zu_ne _ _ _ ntk, hN]
  refine z_aload_n (i := 1) dX6_cut_95 rfl hl1 ?_
  refine z_gI zf6_25.g dX6_cut_96 hpa hpk ?_
  rw [zu_ne _ _ _ npk, hJp]
  refine z_iast dX6_cut_99 hla hlk (zvin (by omega) (by omega)) ?_
  rw [zcl (by omega)]
  refine z_vret dX6_cut_100 rfl ?_
  refine ⟨rfl, _, rfl, kAcc_tk hA hW6 hT6 ntk ntl nkl nkv nlv, hF.tr ⟨fun a x y z w => by rw [zu_ne _ _ _ z, zu_ne _ _ _ y], fun j hj => by rw [zu_ne _ _ _ ntl, zu_ne _ _ _ ntk]⟩⟩
theorem tkOf_len (ch : Nat → Nat) (so a m : Nat) : (tkOf ch so a m).length ≤ 1 ∧ (so = 0 → (tkOf ch so a m).length = 0) := by
  unfold tkOf
  by_cases e : so = 0
  · rw [if_pos e]; exact ⟨Nat.zero_le _, fun _ => rfl⟩
  · rw [if_neg e]; exact ⟨Nat.le_refl _, fun q => absurd q e⟩
set_option maxHeartbeats 4000000 in
theorem l6_cut {n : Nat} {K : Nat → Nat × Nat} {I : Nat → Nat → Int32} {L : Nat → Nat → Int64} {R : Nat → Nat → Option Nat} {t k l v p s T : Nat} {ch : Nat → Nat} (hT : kTo n K R t k l v) (hP : kTp n K R p s) (hT6 : T ≤ 600) (hpT : I p 1 = nI T) (hch : ∀ j, j < T → I s j = nI (ch j) ∧ ch j ≤ 126) {W : List (Nat × Nat × Nat)} (hW6 : W.length ≤ 600) : ∀ (m i so a : Nat) (acc : List (Nat × Nat × Nat)) (J : Nat → Nat → Int32) (ls : Nat → Option Value), T - i < m → cutI ch T i so a → acc ++ tkz ch T a = W → acc.length ≤ a → kAcc J t k l v acc → kTF t k l v I J → ls 0 = some (.ref t) → ls 1 = some (.ref p) → ls 2 = some (.int (nI a)) → ls 3 = some (.int (nI so)) → ls 4 = some (.int (nI i)) → Zf x6_cut 0 0 12 ls [] (n, K, J, L, R) (kQcut n K I L R t k l v T W) := by
  intro m
  obtain ⟨⟨hta, hka, hla, hva⟩, ⟨htk, hkk, hlk, hvk⟩, ⟨ht0, ht1, ht2⟩, ⟨nkl, nkv, nlv⟩⟩ := id hT
  obtain ⟨hpa, hsa, hpk, hks, hp0⟩ := id hP
  have ntk := kne htk hkk (by decide)
  have ntl := kne htk hlk (by decide)
  have ntv := kne htk hvk (by decide)
  have nst := kne hks htk (by decide)
  have nsk := kne hks hkk (by decide)
  have nsl := kne hks hlk (by decide)
  have nsv := kne hks hvk (by decide)
  have npt := kne hpk htk (by decide)
  have npk := kne hpk hkk (by decide)
  have npl := kne hpk hlk (by decide)
  have npv := kne hpk hvk (by decide)
  induction m with
  | zero => intro i so a acc J ls h; omega
  | succ m ih =>
  intro i so a acc J ls hm hI hW hla hA hF hl0 hl1 hl2 hl3 hl4
  obtain ⟨ci1, ci2, ci3, ci4, ci5, ci6⟩ := id hI
  have hJp : J p 1 = nI T := by rw [hF.1 p npt npk npl npv]; exact hpT
  have hJs : ∀ j, j < T → J s j = nI (ch j) ∧ ch j ≤ 126 := fun j hj => by rw [hF.1 s nst nsk nsl nsv]; exact hch j hj
  have hadd := c6_addTokenG n K J L R t k l v p s ch acc a (i - a) so hT hP hA (fun q => by have := ci6 q; omega) (by omega) (fun q => by have := ci6 q; omega) ci3 (fun j x y => ⟨(hJs j (by omega)).1, (hJs j (by omega)).2, ci4 j x (by omega)⟩)
  rw [show a + (i - a) = i by omega] at hadd
  by_cases hi : i < T
  · have hJi := hJs i hi
    have h45 : (ksort (ch i) ≠ so ∨ so = 3) → ∀ ls : Nat → Option Value, ls 0 = some (.ref t) → ls 1 = some (.ref p) → ls 2 = some (.int (nI a)) → ls 3 = some (.int (nI so)) → ls 4 = some (.int (nI i)) → ls 5 = some (.int (nI (ksort (ch i)))) → Zf x6_cut 0 0 45 ls [] (n, K, J, L, R) (kQcut n K I L R t k l v T W) := by
      intro he ls hl0 hl1 hl2 hl3 hl4 hl5
      have hrun := cut_run hT6 hI (Or.inr he)
      refine z_aload_n (i := 0) dX6_cut_45 rfl hl0 ?_
      refine z_aload_n (i := 1) dX6_cut_46 rfl hl1 ?_
      refine z_iload_n (i := 3) dX6_cut_47 rfl hl3 ?_
      refine z_iload_n (i := 2) dX6_cut_48 rfl hl2 ?_
      refine z_iload dX6_cut_49 hl4 ?_
      refine z_callV (st := []) (mc2 := 0) (ms2 := 0) zi6_34 zv_yX6_addToken hadd dX6_cut_51 hta (congrArg Prod.fst htk) rfl rfl rfl (by decide) (by decide) (Nat.le_of_ble_eq_true rfl) (by decide) (by decide) (fun r h2 hq => ?_)
      obtain ⟨rfl, J2, rfl, hA2, hF2⟩ := hq
      try simp only [Option.toList, List.nil_append]
      refine z_iload dX6_cut_54 hl4 ?_
      refine z_istore_n (i := 2) dX6_cut_56 rfl (by decide) rfl ?_
      refine z_iload dX6_cut_57 hl5 ?_
      refine z_istore_n (i := 3) dX6_cut_59 rfl (by decide) rfl ?_
      refine z_iinc dX6_cut_60 hl4 rfl ?_
      refine z_goto 12 dX6_cut_63 (by decide) ?_
      rw [zinc]
      have hlen := tkOf_len ch so a (i - a)
      refine ih (i + 1) (ksort (ch i)) i (acc ++ tkOf ch so a (i - a)) J2 _ (by omega) (cut_new hi) (by rw [List.append_assoc, ← hrun]; exact hW) ?_ hA2 (hF.tr hF2) hl0 hl1 rfl rfl rfl
      rw [List.length_append]
      by_cases e : so = 0
      · have := hlen.2 e
        omega
      · have := ci6 e
        omega
    refine z_iload dX6_cut_12 hl4 ?_
    refine z_aload_n (i := 1) dX6_cut_14 rfl hl1 ?_
    refine z_gI zf6_25.g dX6_cut_15 hpa hpk ?_
    rw [hJp]
    refine z_icmp_ge 66 dX6_cut_18 (by decide) (fun c_1 => absurd c_1 (fun q => by have := (zle (by omega) (by omega)).mp q; omega)) (fun _ => ?_)
    refine z_aload_n (i := 1) dX6_cut_21 rfl hl1 ?_
    refine z_gR zf6_26 dX6_cut_22 hpa hpk hp0 ?_
    refine z_iload dX6_cut_25 hl4 ?_
    refine z_cald dX6_cut_27 hsa hks (zvin (by omega) (by omega)) ?_
    rw [zcl (by omega), hJi.1]
    refine z_callS (st := []) (mc2 := 0) (ms2 := 0) zi6_30 zs_yX6_sortOf (c6_sortOf n K J L R (ch i) (by omega)) dX6_cut_28 rfl rfl (by decide) (by decide) (Nat.le_of_ble_eq_true rfl) (by decide) (by decide) (fun r h2 hq => ?_)
    obtain ⟨rfl, rfl⟩ := hq
    refine z_istore (i := 5) dX6_cut_31 (by decide) rfl ?_
    refine z_iload dX6_cut_33 rfl ?_
    refine z_iload_n (i := 3) dX6_cut_35 rfl hl3 ?_
    refine z_icmp_ne 45 dX6_cut_36 (by decide) (fun c_2 => ?_) (fun c_2 => ?_)
    · skip
      exact h45 (Or.inl (fun q => c_2 (by rw [q]))) _ hl0 hl1 hl2 hl3 hl4 rfl
    · skip
      refine z_iload dX6_cut_39 rfl ?_
      refine z_iconst (v := 3) dX6_cut_41 (by decide) ?_
      refine z_icmp_ne 57 dX6_cut_42 (by decide) (fun c_3 => ?_) (fun c_3 => ?_)
      · skip
        refine z_iload dX6_cut_57 rfl ?_
        refine z_istore_n (i := 3) dX6_cut_59 rfl (by decide) rfl ?_
        refine z_iinc dX6_cut_60 hl4 rfl ?_
        refine z_goto 12 dX6_cut_63 (by decide) ?_
        rw [zinc]
        have e1 : ksort (ch i) = so := (zeq (by have := ksort_le (ch i); omega) (by omega)).mp c_2
        exact ih (i + 1) so a acc J _ (by omega) (cut_on hI hi e1 (fun q => c_3 (by rw [e1, q]; rfl))) hW hla hA hF hl0 hl1 hl2 (congrArg (fun x => some (Value.int (nI x))) e1) rfl
      · skip
        exact h45 (Or.inr (by have e1 := (zeq (by have := ksort_le (ch i); omega) (by omega)).mp c_2; have e2 := (zeq (a := ksort (ch i)) (b := 3) (by have := ksort_le (ch i); omega) (by omega)).mp c_3; omega)) _ hl0 hl1 hl2 hl3 hl4 rfl
  · have hiT : T = i := by omega
    subst hiT
    have hrun := cut_run hT6 hI (Or.inl rfl)
    rw [tkz_e hT6 T, if_neg (Nat.lt_irrefl _), List.append_nil] at hrun
    rw [hrun] at hW
    refine z_iload dX6_cut_12 hl4 ?_
    refine z_aload_n (i := 1) dX6_cut_14 rfl hl1 ?_
    refine z_gI zf6_25.g dX6_cut_15 hpa hpk ?_
    rw [hJp]
    refine z_icmp_ge 66 dX6_cut_18 (by decide) (fun _ => ?_) (fun c_1 => absurd (show nI T ≤ nI T from (zle (by omega) (by omega)).mpr (Nat.le_refl _)) c_1)
    refine z_aload_n (i := 0) dX6_cut_66 rfl hl0 ?_
    refine z_aload_n (i := 1) dX6_cut_67 rfl hl1 ?_
    refine z_iload_n (i := 3) dX6_cut_68 rfl hl3 ?_
    refine z_iload_n (i := 2) dX6_cut_69 rfl hl2 ?_
    refine z_aload_n (i := 1) dX6_cut_70 rfl hl1 ?_
    refine z_gI zf6_25.g dX6_cut_71 hpa hpk ?_
    rw [hJp]
    refine z_callV (st := []) (mc2 := 0) (ms2 := 0) zi6_34 zv_yX6_addToken hadd dX6_cut_74 hta (congrArg Prod.fst htk) rfl rfl rfl (by decide) (by decide) (Nat.le_of_ble_eq_true rfl) (by decide) (by decide) (fun r h2 hq => ?_)
    obtain ⟨rfl, J2, rfl, hA2, hF2⟩ := hq
    try simp only [Option.toList, List.nil_append]
    rw [hW] at hA2
    exact l6_c77 hT hP hT6 hpT hch hW6 J2 hA2 (hF.tr hF2) _ hl0 hl1
theorem toks_len {ch : Nat → Nat} {T : Nat} : ∀ (m k : Nat), k ≤ T → (toks ch T m k).length ≤ T - k
  | 0, k, _ => Nat.zero_le _
  | m + 1, k, h => by
    rw [toks_e]
    by_cases hk : k < T
    · rw [if_pos hk]
      have h3 := tok1_lt (ch := ch) hk
      by_cases hb : ch k = 10 ∨ ch k = 32
      · rw [if_pos hb]
        have := toks_len (ch := ch) (T := T) m (k + 1) (by omega)
        omega
      · rw [if_neg hb, List.length_cons]
        have := toks_len (ch := ch) (T := T) m (tok1 ch T k).2 h3.2
        omega
    · rw [if_neg hk]
      exact Nat.zero_le _
set_option maxHeartbeats 4000000 in
theorem c6_cut (n : Nat) (K : Nat → Nat × Nat) (I : Nat → Nat → Int32) (L : Nat → Nat → Int64) (R : Nat → Nat → Option Nat) (t k l v p s T : Nat) (ch : Nat → Nat) (hT : kTo n K R t k l v) (hP : kTp n K R p s) (hT6 : T ≤ 600) (hpT : I p 1 = nI T) (hch : ∀ j, j < T → I s j = nI (ch j) ∧ ch j ≤ 126) : Zm yX6_cut cX6_cut 6 none 8 320 0 0 [.ref t, .ref p] ((n, K, I, L, R)) (kQcut n K I L R t k l v T (toks ch T 601 0)) := by
  refine Zm_of (lg := false) (by decide) (fun _ => by simp [Value.category]) (fun _ => Nat.le_of_ble_eq_true rfl) ?_
  show Zf x6_cut 0 0 0 (zargs [.ref t, .ref p]) [] ((n, K, I, L, R)) _
  obtain ⟨⟨hta, hka, hla, hva⟩, ⟨htk, hkk, hlk, hvk⟩, ⟨ht0, ht1, ht2⟩, ⟨nkl, nkv, nlv⟩⟩ := id hT
  obtain ⟨hpa, hsa, hpk, hks, hp0⟩ := id hP
  have ntk := kne htk hkk (by decide)
  have ntl := kne htk hlk (by decide)
  have ntv := kne htk hvk (by decide)
  have nst := kne hks htk (by decide)
  have nsk := kne hks hkk (by decide)
  have nsl := kne hks hlk (by decide)
  have nsv := kne hks hvk (by decide)
  have npt := kne hpk htk (by decide)
  have npk := kne hpk hkk (by decide)
  have npl := kne hpk hlk (by decide)
  have npv := kne hpk hvk (by decide)
  refine z_iconst (v := 0) dX6_cut_0 (by decide) ?_
  refine z_istore_n (i := 2) dX6_cut_1 rfl (by decide) rfl ?_
  refine z_iconst (v := 0) dX6_cut_2 (by decide) ?_
  refine z_istore_n (i := 3) dX6_cut_3 rfl (by decide) rfl ?_
  refine z_aload_n (i := 0) dX6_cut_4 rfl rfl ?_
  refine z_iconst (v := 0) dX6_cut_5 (by decide) ?_
  refine z_putI zf6_21 dX6_cut_6 (fun h => by cases h) hta htk ?_
  refine z_iconst (v := 0) dX6_cut_9 (by decide) ?_
  refine z_istore (i := 4) dX6_cut_10 (by decide) rfl ?_
  have hF0 : kTF t k l v I (zu I t 3 0) := ⟨fun a x y z w => zu_ne _ _ _ x, fun j hj => by rw [zu_apply, if_neg (by omega)]⟩
  have hI : ∀ r h2, kQcut n K (zu I t 3 0) L R t k l v T (toks ch T 601 0) r h2 → kQcut n K I L R t k l v T (toks ch T 601 0) r h2 := fun r h2 q => by
    obtain ⟨q1, J, q2, q3, q4⟩ := q
    exact ⟨q1, J, q2, q3, hF0.tr q4⟩
  exact l6_cut hT hP hT6 hpT hch (by have := toks_len (ch := ch) (T := T) 601 0 (Nat.zero_le _); omega) 601 0 0 0 [] (zu I t 3 0) _ (by omega) ⟨Nat.le_refl _, Nat.zero_le _, by omega, fun j x y => by omega, fun q => by omega, fun q => absurd rfl q⟩ rfl (Nat.le_refl _) ⟨by rw [zu_apply, if_pos ⟨rfl, rfl⟩]; rfl, fun i x hx => by simp at hx⟩ hF0 rfl rfl rfl rfl rfl
