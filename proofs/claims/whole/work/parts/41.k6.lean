/-- the lines of a text in the rules: from line q and code f on -/
def kTx (I : Nat → Nat → Int32) (c e p : Nat) : List MLn → Nat → Nat → Prop
  | [], _, _ => True
  | l :: ts, q, f => (I p q = l.1 ∧ I e q = nI (f + l.2.length) ∧ kcd I c f l.2 ∧ mrp l.2 0 1 ∧ f + l.2.length ≤ 600) ∧ kTx I c e p ts (q + 1) (f + l.2.length)
theorem kTx_cong {I J : Nat → Nat → Int32} {c e p : Nat} (hc : J c = I c) (he : J e = I e) (hp : J p = I p) : ∀ (ts : List MLn) (q f : Nat), kTx I c e p ts q f → kTx J c e p ts q f
  | [], _, _, _ => trivial
  | l :: ts, q, f, ⟨⟨h1, h2, h3, h4, h5⟩, h6⟩ => ⟨⟨by rw [hp]; exact h1, by rw [he]; exact h2, fun j x hj => by rw [hc]; exact h3 j x hj, h4, h5⟩, kTx_cong hc he hp ts (q + 1) _ h6⟩
def kshv (kn : Nat → Int32) : List MLn → Int32 → Bool
  | [], _ => false
  | l :: ts, P => if (l.1 = -1 ∨ l.1 = P) ∧ ¬ (kev kn l.2 []).getD 0 0 = 0 then true else kshv kn ts P
abbrev x4_shut : ZX := (RX4, cX4_shut, 6, (some .boolean), "shut", 2, 80, false)
set_option maxHeartbeats 4000000 in
theorem l4_shut {n : Nat} {K : Nat → Nat × Nat} {L : Nat → Nat → Int64} {R : Nat → Nat → Option Nat} {Q : Option Value → ZH → Prop} {r c e p o td N : Nat} {P : Int32} {kn : Nat → Int32} (hU : kRu n K R r c e p o) (hta : td < n) (hkt : K td = (0, 8)) (hto : td ≠ o) (htr : td ≠ r) (hN : N ≤ 16) : ∀ (ts : List MLn) (I : Nat → Nat → Int32) (q f : Nat) (ls : Nat → Option Value), kTx I c e p ts q f → q + ts.length = N → f ≤ 600 → I r 6 = nI N → (∀ j, j < 8 → I td j = kn j) → ls 0 = some (.ref r) → ls 1 = some (.int P) → ls 2 = some (.ref td) → ls 3 = some (.int (nI f)) → ls 4 = some (.int (nI q)) → (∀ J, kwF o r I J → Q (some (.int (zb (kshv kn ts P)))) (n, K, J, L, R)) → Zf x4_shut 0 0 5 ls [] (n, K, I, L, R) Q := by
  intro ts
  induction ts with
  | nil =>
    intro I q f ls ht hq2 hf h6 hkn hl0 hl1 hl2 hl3 hl4 hQ
    obtain ⟨⟨ha, hca, hea, hpa, hoa⟩, ⟨hkr, hkc, hke, hkp, hko⟩, ⟨hr0, hr1, hr2, hr3⟩, ⟨nep, neo, npo⟩, ⟨nrc, nre, nrp, nro⟩, ⟨nce, ncp, nco⟩⟩ := id hU
    simp only [List.length_nil, Nat.add_zero] at hq2
    refine z_iload dX4_shut_5 hl4 ?_
    refine z_aload_n (i := 0) dX4_shut_7 rfl hl0 ?_
    refine z_gI zf4_28.g dX4_shut_8 ha hkr ?_
    rw [h6]
    refine z_icmp_ge 80 dX4_shut_11 (by decide) (fun _ => ?_) (fun c_1 => absurd (by rw [zle (by omega) (by omega)]; omega) c_1)
    refine z_iconst (v := 0) dX4_shut_80 (by decide) ?_
    refine z_zret dX4_shut_81 rfl (by decide) ?_
    exact hQ I (kwF.rf o r I)
  | cons l ts ih =>
    intro I q f ls ht hq2 hf h6 hkn hl0 hl1 hl2 hl3 hl4 hQ
    obtain ⟨⟨ha, hca, hea, hpa, hoa⟩, ⟨hkr, hkc, hke, hkp, hko⟩, ⟨hr0, hr1, hr2, hr3⟩, ⟨nep, neo, npo⟩, ⟨nrc, nre, nrp, nro⟩, ⟨nce, ncp, nco⟩⟩ := id hU
    simp only [List.length_cons] at hq2
    obtain ⟨⟨hp, he, hcd, hmr, hle⟩, htl⟩ := ht
    have hw := c4_worth n K I L R r c e p o td f kn l.2 hU hta hkt hto htr hle hcd hmr hkn
    refine z_iload dX4_shut_5 hl4 ?_
    refine z_aload_n (i := 0) dX4_shut_7 rfl hl0 ?_
    refine z_gI zf4_28.g dX4_shut_8 ha hkr ?_
    rw [h6]
    refine z_icmp_ge 80 dX4_shut_11 (by decide) (fun c_1 => absurd c_1 (by rw [zle (by omega) (by omega)]; omega)) (fun _ => ?_)
    refine z_aload_n (i := 0) dX4_shut_14 rfl hl0 ?_
    refine z_gR zf4_18.g dX4_shut_15 ha hkr hr2 ?_
    refine z_iload dX4_shut_18 hl4 ?_
    refine z_iald dX4_shut_20 hpa hkp (zvin (by omega) (by omega)) ?_
    rw [zcl (by omega), hp]
    refine z_iconst (v := (-1)) dX4_shut_21 (by decide) ?_
    refine z_icmp_eq 36 dX4_shut_22 (by decide) (fun c_2 => ?_) (fun c_2 => ?_)
    · skip
      refine z_iconst (v := 1) dX4_shut_36 (by decide) ?_
      refine z_goto 41 dX4_shut_37 (by decide) ?_
      refine z_istore (i := 5) dX4_shut_41 (by decide) rfl ?_
      refine z_iload dX4_shut_43 rfl ?_
      refine z_if_eq 66 dX4_shut_45 (by decide) (fun c_3 => absurd c_3 (by decide)) (fun _ => ?_)
      refine z_aload_n (i := 0) dX4_shut_48 rfl hl0 ?_
      refine z_iload_n (i := 3) dX4_shut_49 rfl hl3 ?_
      refine z_aload_n (i := 0) dX4_shut_50 rfl hl0 ?_
      refine z_gR zf4_15.g dX4_shut_51 ha hkr hr1 ?_
      refine z_iload dX4_shut_54 hl4 ?_
      refine z_iald dX4_shut_56 hea hke (zvin (by omega) (by omega)) ?_
      rw [zcl (by omega), he]
      refine z_aload_n (i := 2) dX4_shut_57 rfl hl2 ?_
      refine z_callV (st := []) (mc2 := 0) (ms2 := 0) zi4_31 zv_yX4_worth hw dX4_shut_58 ha (congrArg Prod.fst hkr) rfl rfl rfl (by decide) (by decide) (Nat.le_of_ble_eq_true rfl) (by decide) (by decide) (fun r h2 hq => ?_)
      obtain ⟨rfl, J, rfl, hJ⟩ := hq
      refine z_if_eq 66 dX4_shut_61 (by decide) (fun c_4 => ?_) (fun c_4 => ?_)
      · skip
        refine z_aload_n (i := 0) dX4_shut_66 rfl hl0 ?_
        refine z_gR zf4_15.g dX4_shut_67 ha hkr hr1 ?_
        refine z_iload dX4_shut_70 hl4 ?_
        refine z_iald dX4_shut_72 hea hke (zvin (by omega) (by omega)) ?_
        rw [zcl (by omega), hJ.1 e neo nre.symm, he]
        refine z_istore_n (i := 3) dX4_shut_73 rfl (by decide) rfl ?_
        refine z_iinc dX4_shut_74 hl4 rfl ?_
        refine z_goto 5 dX4_shut_77 (by decide) ?_
        rw [zinc]
        have hsk : kshv kn (l :: ts) P = kshv kn ts P := by
          simp only [kshv]
          rw [if_neg (fun z => z.2 c_4)]
        rw [hsk] at hQ
        exact ih J (q + 1) (f + l.2.length) _ (kTx_cong (hJ.1 c nco nrc.symm) (hJ.1 e neo nre.symm) (hJ.1 p npo nrp.symm) ts _ _ htl) (by omega) hle (by rw [hJ.2 6 (by decide)]; exact h6) (fun j hj => by rw [hJ.1 td hto htr]; exact hkn j hj) hl0 hl1 hl2 rfl rfl (fun M hM => hQ M (hJ.tr hM))
      · skip
        refine z_iconst (v := 1) dX4_shut_64 (by decide) ?_
        refine z_zret dX4_shut_65 rfl (by decide) ?_
        have hsk : kshv kn (l :: ts) P = true := by
          simp only [kshv]
          rw [if_pos ⟨Or.inl (by assumption), c_4⟩]
        rw [hsk] at hQ
        exact hQ J hJ
    · skip
      refine z_aload_n (i := 0) dX4_shut_25 rfl hl0 ?_
      refine z_gR zf4_18.g dX4_shut_26 ha hkr hr2 ?_
      refine z_iload dX4_shut_29 hl4 ?_
      refine z_iald dX4_shut_31 hpa hkp (zvin (by omega) (by omega)) ?_
      rw [zcl (by omega), hp]
      refine z_iload_n (i := 1) dX4_shut_32 rfl hl1 ?_
      refine z_icmp_ne 40 dX4_shut_33 (by decide) (fun c_5 => ?_) (fun c_5 => ?_)
      · skip
        refine z_iconst (v := 0) dX4_shut_40 (by decide) ?_
        refine z_istore (i := 5) dX4_shut_41 (by decide) rfl ?_
        refine z_iload dX4_shut_43 rfl ?_
        refine z_if_eq 66 dX4_shut_45 (by decide) (fun _ => ?_) (fun c_6 => absurd c_6 (by decide))
        refine z_aload_n (i := 0) dX4_shut_66 rfl hl0 ?_
        refine z_gR zf4_15.g dX4_shut_67 ha hkr hr1 ?_
        refine z_iload dX4_shut_70 hl4 ?_
        refine z_iald dX4_shut_72 hea hke (zvin (by omega) (by omega)) ?_
        rw [zcl (by omega), he]
        refine z_istore_n (i := 3) dX4_shut_73 rfl (by decide) rfl ?_
        refine z_iinc dX4_shut_74 hl4 rfl ?_
        refine z_goto 5 dX4_shut_77 (by decide) ?_
        rw [zinc]
        have hsk : kshv kn (l :: ts) P = kshv kn ts P := by
          simp only [kshv]
          rw [if_neg (fun z => z.1.elim (by assumption) (by assumption))]
        rw [hsk] at hQ
        exact ih I (q + 1) (f + l.2.length) _ htl (by omega) hle h6 hkn hl0 hl1 hl2 rfl rfl hQ
      · skip
        refine z_iconst (v := 1) dX4_shut_36 (by decide) ?_
        refine z_goto 41 dX4_shut_37 (by decide) ?_
        refine z_istore (i := 5) dX4_shut_41 (by decide) rfl ?_
        refine z_iload dX4_shut_43 rfl ?_
        refine z_if_eq 66 dX4_shut_45 (by decide) (fun c_7 => absurd c_7 (by decide)) (fun _ => ?_)
        refine z_aload_n (i := 0) dX4_shut_48 rfl hl0 ?_
        refine z_iload_n (i := 3) dX4_shut_49 rfl hl3 ?_
        refine z_aload_n (i := 0) dX4_shut_50 rfl hl0 ?_
        refine z_gR zf4_15.g dX4_shut_51 ha hkr hr1 ?_
        refine z_iload dX4_shut_54 hl4 ?_
        refine z_iald dX4_shut_56 hea hke (zvin (by omega) (by omega)) ?_
        rw [zcl (by omega), he]
        refine z_aload_n (i := 2) dX4_shut_57 rfl hl2 ?_
        refine z_callV (st := []) (mc2 := 0) (ms2 := 0) zi4_31 zv_yX4_worth hw dX4_shut_58 ha (congrArg Prod.fst hkr) rfl rfl rfl (by decide) (by decide) (Nat.le_of_ble_eq_true rfl) (by decide) (by decide) (fun r h2 hq => ?_)
        obtain ⟨rfl, J, rfl, hJ⟩ := hq
        refine z_if_eq 66 dX4_shut_61 (by decide) (fun c_8 => ?_) (fun c_8 => ?_)
        · skip
          refine z_aload_n (i := 0) dX4_shut_66 rfl hl0 ?_
          refine z_gR zf4_15.g dX4_shut_67 ha hkr hr1 ?_
          refine z_iload dX4_shut_70 hl4 ?_
          refine z_iald dX4_shut_72 hea hke (zvin (by omega) (by omega)) ?_
          rw [zcl (by omega), hJ.1 e neo nre.symm, he]
          refine z_istore_n (i := 3) dX4_shut_73 rfl (by decide) rfl ?_
          refine z_iinc dX4_shut_74 hl4 rfl ?_
          refine z_goto 5 dX4_shut_77 (by decide) ?_
          rw [zinc]
          have hsk : kshv kn (l :: ts) P = kshv kn ts P := by
            simp only [kshv]
            rw [if_neg (fun z => z.2 c_8)]
          rw [hsk] at hQ
          exact ih J (q + 1) (f + l.2.length) _ (kTx_cong (hJ.1 c nco nrc.symm) (hJ.1 e neo nre.symm) (hJ.1 p npo nrp.symm) ts _ _ htl) (by omega) hle (by rw [hJ.2 6 (by decide)]; exact h6) (fun j hj => by rw [hJ.1 td hto htr]; exact hkn j hj) hl0 hl1 hl2 rfl rfl (fun M hM => hQ M (hJ.tr hM))
        · skip
          refine z_iconst (v := 1) dX4_shut_64 (by decide) ?_
          refine z_zret dX4_shut_65 rfl (by decide) ?_
          have hsk : kshv kn (l :: ts) P = true := by
            simp only [kshv]
            rw [if_pos ⟨Or.inr (by assumption), c_8⟩]
          rw [hsk] at hQ
          exact hQ J hJ
set_option maxHeartbeats 4000000 in
theorem c4_shut (n : Nat) (K : Nat → Nat × Nat) (I : Nat → Nat → Int32) (L : Nat → Nat → Int64) (R : Nat → Nat → Option Nat) (r c e p o td : Nat) (kn : Nat → Int32) (P : Int32) (ts : List MLn) (hU : kRu n K R r c e p o) (hta : td < n) (hkt : K td = (0, 8)) (hto : td ≠ o) (htr : td ≠ r) (hN : ts.length ≤ 16) (ht : kTx I c e p ts 0 0) (h6 : I r 6 = nI ts.length) (hkn : ∀ j, j < 8 → I td j = kn j) : Zm yX4_shut cX4_shut 6 (some .boolean) 2 80 0 0 [.ref r, .int P, .ref td] ((n, K, I, L, R)) (fun r2 h2 => r2 = some (.int (zb (kshv kn ts P))) ∧ ∃ J, h2 = (n, K, J, L, R) ∧ kwF o r I J) := by
  refine Zm_of (lg := false) (by decide) (fun _ => by simp [Value.category]) (fun _ => Nat.le_of_ble_eq_true rfl) ?_
  show Zf x4_shut 0 0 0 (zargs [.ref r, .int P, .ref td]) [] ((n, K, I, L, R)) _
  obtain ⟨⟨ha, hca, hea, hpa, hoa⟩, ⟨hkr, hkc, hke, hkp, hko⟩, ⟨hr0, hr1, hr2, hr3⟩, ⟨nep, neo, npo⟩, ⟨nrc, nre, nrp, nro⟩, ⟨nce, ncp, nco⟩⟩ := id hU
  refine z_iconst (v := 0) dX4_shut_0 (by decide) ?_
  refine z_istore_n (i := 3) dX4_shut_1 rfl (by decide) rfl ?_
  refine z_iconst (v := 0) dX4_shut_2 (by decide) ?_
  refine z_istore (i := 4) dX4_shut_3 (by decide) rfl ?_
  exact l4_shut (N := ts.length) hU hta hkt hto htr hN ts I 0 0 _ ht (by omega) (by omega) h6 hkn rfl rfl rfl rfl rfl (fun J hJ => ⟨rfl, J, rfl, hJ⟩)
/-- the reference's worth of a line is the class's -/
theorem mwl_kev {kn : Nat → Int32} : ∀ (cs : List (Nat × Int32)) (I : Nat → Nat → Int32) (st : List Int32), mrp cs st.length 1 → kSt (I 15) st → (∀ j, j < 8 → I 14 j = kn j) → mwl cs I st.length 15 0 = (kev kn cs st).getD 0 0
  | [], I, st, hm, hs, hkn => by
    simp only [mrp] at hm
    match st, hm with
    | [v], _ => exact (kSt_pop hs).2
  | x :: cs, I, st, hm, hs, hkn => by
    simp only [mrp] at hm
    rcases hm with ⟨x1, ⟨⟨v, hv, xv⟩, h15⟩, hm⟩ | ⟨x1, ⟨⟨v, hv, xv⟩, h15⟩, hm⟩ | ⟨⟨x3, x7⟩, h2, hm⟩
    · rw [kev_1 x1]
      simp only [mwl]
      rw [if_pos x1]
      exact mwl_kev cs (zu I 15 st.length x.2) (x.2 :: st) hm (by rw [zu_at]; exact kSt_push hs _) (fun j hj => by rw [zu_ne _ _ _ (by decide)]; exact hkn j hj)
    · rw [kev_2 x1]
      simp only [mwl]
      rw [if_neg (by omega), if_pos x1, xv, zcl (by omega), hkn v hv]
      exact mwl_kev cs (zu I 15 st.length (kn v)) (kn v :: st) hm (by rw [zu_at]; exact kSt_push hs _) (fun j hj => by rw [zu_ne _ _ _ (by decide)]; exact hkn j hj)
    · obtain ⟨b, a, s, rfl⟩ : ∃ b a s, st = b :: a :: s := by
        match st, h2 with
        | b :: a :: s, _ => exact ⟨b, a, s, rfl⟩
      rw [kev_3 x3]
      obtain ⟨hs1, hb⟩ := kSt_pop hs
      obtain ⟨hs2, ha2⟩ := kSt_pop hs1
      simp only [List.length_cons] at hb hm
      simp only [mwl, List.length_cons]
      rw [if_neg (by omega), if_neg (by omega), show s.length + 1 + 1 - 2 = s.length by omega, show s.length + 1 + 1 - 1 = s.length + 1 by omega, ha2, hb]
      exact mwl_kev cs (zu I 15 s.length (mop x.1 a b)) (mop x.1 a b :: s) hm (by rw [zu_at]; exact kSt_push hs2 _) (fun j hj => by rw [zu_ne _ _ _ (by decide)]; exact hkn j hj)
theorem mshut_kshv {kn : Nat → Int32} : ∀ (ts : List MLn) (I : Nat → Nat → Int32) (P : Nat), P < 6 → (∀ l ∈ ts, mrp l.2 0 1 ∧ (l.1 = -1 ∨ ∃ j, j < 6 ∧ l.1 = nI j)) → (∀ j, j < 8 → I 14 j = kn j) → (mshut ts I (nI P)).2 = kshv kn ts (nI P)
  | [], I, P, hP, h, hkn => rfl
  | l :: ts, I, P, hP, h, hkn => by
    obtain ⟨h1, h2⟩ := h l List.mem_cons_self
    have hw := mwl_kev l.2 I [] h1 (fun j hj => by simp at hj) hkn
    simp only [List.length_nil] at hw
    have ih := fun J hJ => mshut_kshv (kn := kn) ts J P hP (fun l2 hl2 => h l2 (List.mem_cons_of_mem _ hl2)) hJ
    have hneg : (l.1 < 0 ∨ l.1 = nI P) ↔ (l.1 = -1 ∨ l.1 = nI P) := by
      rcases h2 with q | ⟨j, hj, q⟩
      · rw [q]; exact ⟨fun _ => Or.inl rfl, fun _ => Or.inl (by decide)⟩
      · refine ⟨fun z => z.elim (fun z => ?_) Or.inr, fun z => z.elim (fun z => ?_) Or.inr⟩
        · rw [q, zl0, zlt (by omega) (by omega)] at z; omega
        · rw [q] at z
          have : ∀ j, j < 6 → ¬ nI j = -1 := by decide +kernel
          exact absurd z (this j hj)
    simp only [mshut, kshv]
    rw [hw]
    by_cases e1 : l.1 < 0 ∨ l.1 = nI P
    · rw [if_pos e1]
      by_cases e2 : (kev kn l.2 []).getD 0 0 = 0
      · rw [if_pos e2, if_neg (fun z => z.2 e2)]
        exact ih _ (fun j hj => by rw [mwl_ne _ _ _ _ (by decide)]; exact hkn j hj)
      · rw [if_neg e2, if_pos ⟨hneg.mp e1, e2⟩]
    · rw [if_neg e1, if_neg (fun z => e1 (hneg.mpr z.1))]
      exact ih I hkn
