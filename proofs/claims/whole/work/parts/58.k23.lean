/-! the reader's descent, method by method -/
def kRd (n : Nat) (K : Nat → Nat × Nat) (R : Nat → Nat → Option Nat) (d t k l v r c e p o : Nat) : Prop := kRr n K R d t k l v ∧ kRu n K R r c e p o ∧ R d 1 = some r
theorem kne {K : Nat → Nat × Nat} {a b : Nat} {x y : Nat × Nat} (ha : K a = x) (hb : K b = y) (h : x ≠ y) : a ≠ b := fun q => h (by rw [← ha, ← hb, q])
theorem kRd_ne {n : Nat} {K : Nat → Nat × Nat} {R : Nat → Nat → Option Nat} {d t k l v r c e p o : Nat} (h : kRd n K R d t k l v r c e p o) : (d ≠ c ∧ d ≠ r ∧ r ≠ c) ∧ (t ≠ c ∧ t ≠ r ∧ t ≠ d) ∧ (k ≠ c ∧ k ≠ r ∧ k ≠ d) ∧ (l ≠ c ∧ l ≠ r ∧ l ≠ d) ∧ (v ≠ c ∧ v ≠ r ∧ v ≠ d) := by
  obtain ⟨⟨-, ⟨hd, ht, hk, hl, hv⟩, -⟩, ⟨-, ⟨hr, hc, -⟩, -⟩, -⟩ := h
  exact ⟨⟨kne hd hc (by decide), kne hd hr (by decide), kne hr hc (by decide)⟩, ⟨kne ht hc (by decide), kne ht hr (by decide), kne ht hd (by decide)⟩, ⟨kne hk hc (by decide), kne hk hr (by decide), kne hk hd (by decide)⟩, ⟨kne hl hc (by decide), kne hl hr (by decide), kne hl hd (by decide)⟩, ⟨kne hv hc (by decide), kne hv hr (by decide), kne hv hd (by decide)⟩⟩
theorem kTk_fr {n : Nat} {K : Nat → Nat × Nat} {R : Nat → Nat → Option Nat} {d t k l v r c e p o N : Nat} {tk tp tv : Nat → Nat} {I J : Nat → Nat → Int32} (h : kRd n K R d t k l v r c e p o) (hT : kTk I t k l v N tk tp tv) (hF : kFr d r c I J) : kTk J t k l v N tk tp tv := by
  obtain ⟨-, ⟨t1, t2, t3⟩, ⟨k1, k2, k3⟩, ⟨l1, l2, l3⟩, ⟨v1, v2, v3⟩⟩ := kRd_ne h
  exact kTk_cong hT (hF.1 t t1 t2 t3) (hF.1 k k1 k2 k3) (hF.1 l l1 l2 l3) (hF.1 v v1 v2 v3)
abbrev kQR (n : Nat) (K : Nat → Nat × Nat) (I : Nat → Nat → Int32) (L : Nat → Nat → Int64) (R : Nat → Nat → Option Nat) (d r c : Nat) (s : RS) : Option Value → ZH → Prop := fun q h => q = none ∧ ∃ J, h = (n, K, J, L, R) ∧ kRS J d r c s ∧ kFr d r c I J
abbrev kPt (y : MethodName) (cc : ByteArray) (nL fr n : Nat) (K : Nat → Nat × Nat) (R : Nat → Nat → Option Nat) (d t k l v r c N : Nat) (tk tp tv : Nat → Nat) (dep : Nat) (pf : RS → RS) : Prop := ∀ (I : Nat → Nat → Int32) (L : Nat → Nat → Int64) (s : RS), kTk I t k l v N tk tp tv → s.1 ≤ N → kRS I d r c s → Zm y cc nL none fr (40 * fr) 0 0 [.ref d, .int (nI dep)] (n, K, I, L, R) (kQR n K I L R d r c (pf s))
theorem kenc7 {x : Nat} (h : 7 ≤ x) : 10000 + nI x - 7 = kenc (2, nI (x - 7)) := by
  obtain ⟨y, rfl⟩ : ∃ y, x = y + 7 := ⟨x - 7, by omega⟩
  rw [Nat.add_sub_cancel, ← nI_add, ← zl7, ← Int32.add_assoc, Int32.add_sub_cancel]
  rfl
abbrev x3_readPart (fr : Nat) : ZX := (RX3, cX3_readPart, 5, none, "readPart", fr, 40 * fr, false)
set_option maxHeartbeats 4000000 in
theorem l3_p72 {n : Nat} {K : Nat → Nat × Nat} {R : Nat → Nat → Option Nat} {d t k l v r c e p o N : Nat} {tk tp tv : Nat → Nat} (hD : kRd n K R d t k l v r c e p o) {a dep : Nat} (hdep : dep < 5) {ands : RS → RS} (hands : kPt yX3_readAnds cX3_readAnds 3 a n K R d t k l v r c N tk tp tv (dep + 1) ands) (hLb : Lb N ands) {I : Nat → Nat → Int32} {L : Nat → Nat → Int64} {Q : Option Value → ZH → Prop} {A : Nat} {out : List (Nat × Int32)} (hT : kTk I t k l v N tk tp tv) (hA : A < N) (hS : kRS I d r c (A, 0, out)) (hv : tk A = 2 ∨ tk A = 40 ∨ (7 ≤ tk A ∧ tk A ≤ 14)) (ls : Nat → Option Value) (hl0 : ls 0 = some (.ref d)) (hl1 : ls 1 = some (.int (nI dep))) (hl2 : ls 2 = some (.int (nI (tk A)))) (hl3 : ls 3 = some (.int (zb (decide (7 ≤ tk A ∧ tk A ≤ 14))))) (hQ : ∀ J, kRS J d r c (rPart tk tp tv ands dep (A, 0, out)) → kFr d r c I J → Q none (n, K, J, L, R)) : Zf (x3_readPart (a + 1)) 0 0 72 ls [] (n, K, I, L, R) Q := by
  obtain ⟨⟨⟨hda, hta, hka, hla, hva⟩, ⟨hdk, htk, hkk, hlk, hvk⟩, ⟨hd0, ht0, ht1, ht2⟩⟩, ⟨⟨hra, -⟩, ⟨hrk, -⟩, -⟩, hd1⟩ := id hD
  obtain ⟨⟨ndc, ndr, nrc⟩, -⟩ := kRd_ne hD
  obtain ⟨hN6, hN, hN0, hTi⟩ := id hT
  obtain ⟨t1, t2, t3, t4, t5⟩ := hTi A (by omega)
  have h2 : I d 2 = nI A := hS.1
  rw [rPart_e, if_pos (show (0 : Int32) = 0 from rfl), if_pos hv, if_neg (show ¬ 5 ≤ dep by omega)] at hQ
  have hs1 := kRS_step hS ndc ndr
  have hT1 := kTk_fr hD hT hs1.2
  refine z_aload_n (i := 0) dX3_readPart_72 rfl hl0 ?_
  refine z_gR zf3_9.g dX3_readPart_73 hda hdk hd0 ?_
  refine z_gR zf3_60 dX3_readPart_76 hta htk ht2 ?_
  refine z_aload_n (i := 0) dX3_readPart_79 rfl hl0 ?_
  refine z_gI zf3_24.g dX3_readPart_80 hda hdk ?_
  rw [h2]
  refine z_iald dX3_readPart_83 hva hvk (zvin (by omega) (by omega)) ?_
  rw [zcl (by omega)]
  refine z_istore (i := 4) dX3_readPart_84 (Nat.le_of_ble_eq_true rfl) rfl ?_
  refine z_aload_n (i := 0) dX3_readPart_86 rfl hl0 ?_
  refine z_callV (st := []) (mc2 := 0) (ms2 := 0) zi3_57 zv_yX3_step (c3_step n K I L R d t k l v N tk tp tv hD.1 hT A (by omega) h2 hA) dX3_readPart_87 hda (congrArg Prod.fst hdk) rfl rfl rfl (show 0 + 1 ≤ a + 1 by omega) (show 8 + (1 + 11) + 0 ≤ 40 * (a + 1) by omega) (Nat.le_of_ble_eq_true rfl) (by decide) (by decide) (fun r h2 hq => ?_)
  obtain ⟨rfl, rfl⟩ := hq
  try simp only [Option.toList, List.nil_append]
  refine z_iload_n (i := 2) dX3_readPart_90 rfl hl2 ?_
  refine z_bipush (v := 40) dX3_readPart_91 (by decide) ?_
  refine z_icmp_ne 112 dX3_readPart_93 (by decide) (fun c_1 => ?_) (fun c_1 => ?_)
  · skip
    rw [if_neg (show ¬ tk A = 40 from fun q => c_1 (by rw [q]; rfl))] at hQ
    refine z_iload_n (i := 3) dX3_readPart_112 rfl hl3 ?_
    refine z_if_eq 134 dX3_readPart_113 (by decide) (fun c_2 => ?_) (fun c_2 => ?_)
    · skip
      have e2 : tk A = 2 := by
        have := (zb_0 _).mp c_2
        have h40 : ¬ tk A = 40 := fun q => c_1 (by rw [q]; rfl)
        have := of_decide_eq_false this
        omega
      rw [if_pos e2] at hQ
      refine z_aload_n (i := 0) dX3_readPart_134 rfl hl0 ?_
      refine z_gR zf3_15.g dX3_readPart_135 hda hdk hd1 ?_
      refine z_iload dX3_readPart_138 rfl ?_
      rw [(t5 e2).1]
      refine z_callV (st := []) (mc2 := 0) (ms2 := 0) zi3_69 zv_yX4_put (c4_putG n K _ L R r c e p o hD.2.1 _ _ (Nat.min_le_right _ _) hs1.1.2.2.1) dX3_readPart_140 hra (congrArg Prod.fst hrk) rfl rfl rfl (show 0 + 1 ≤ a + 1 by omega) (show 8 + (2 + 11) + 0 ≤ 40 * (a + 1) by omega) (Nat.le_of_ble_eq_true rfl) (by decide) (by decide) (fun r h2 hq => ?_)
      obtain ⟨rfl, rfl⟩ := hq
      try simp only [Option.toList, List.nil_append]
      refine z_vret dX3_readPart_143 rfl ?_
      have hp := kRS_put hs1.1 nrc ndc ndr 1 (nI (tv A))
      exact hQ _ hp.1 (hs1.2.tr hp.2)
    · skip
      have e7 : 7 ≤ tk A ∧ tk A ≤ 14 := of_decide_eq_true ((zb_n _).mp c_2)
      rw [if_neg (show ¬ tk A = 2 by omega)] at hQ
      refine z_aload_n (i := 0) dX3_readPart_116 rfl hl0 ?_
      refine z_gR zf3_15.g dX3_readPart_117 hda hdk hd1 ?_
      refine z_sipush (v := 10000) dX3_readPart_120 (by decide) ?_
      refine z_iload_n (i := 2) dX3_readPart_123 rfl hl2 ?_
      refine z_iadd dX3_readPart_124 ?_
      refine z_bipush (v := 7) dX3_readPart_125 (by decide) ?_
      refine z_isub dX3_readPart_127 ?_
      refine z_top (y := .int (kenc (2, nI (tk A - 7)))) (by rw [← kenc7 e7.1]) ?_
      refine z_callV (st := []) (mc2 := 0) (ms2 := 0) zi3_69 zv_yX4_put (c4_putG n K _ L R r c e p o hD.2.1 _ _ (Nat.min_le_right _ _) hs1.1.2.2.1) dX3_readPart_128 hra (congrArg Prod.fst hrk) rfl rfl rfl (show 0 + 1 ≤ a + 1 by omega) (show 8 + (2 + 11) + 0 ≤ 40 * (a + 1) by omega) (Nat.le_of_ble_eq_true rfl) (by decide) (by decide) (fun r h2 hq => ?_)
      obtain ⟨rfl, rfl⟩ := hq
      try simp only [Option.toList, List.nil_append]
      refine z_goto 143 dX3_readPart_131 (by decide) ?_
      refine z_vret dX3_readPart_143 rfl ?_
      have hp := kRS_put hs1.1 nrc ndc ndr 2 (nI (tk A - 7))
      exact hQ _ hp.1 (hs1.2.tr hp.2)
  · skip
    have e40 : tk A = 40 := (zeq (a := tk A) (b := 40) (by omega) (by omega)).mp c_1
    rw [if_pos e40] at hQ
    refine z_aload_n (i := 0) dX3_readPart_96 rfl hl0 ?_
    refine z_iload_n (i := 1) dX3_readPart_97 rfl hl1 ?_
    refine z_iconst (v := 1) dX3_readPart_98 (by decide) ?_
    refine z_iadd dX3_readPart_99 ?_
    refine z_top (y := .int (nI (dep + 1))) (by rw [zl1, nI_add]) ?_
    refine z_callV (st := []) (mc2 := 0) (ms2 := 0) zi3_51 zv_yX3_readAnds (hands _ L (A + 1, 0, out) hT1 hA hs1.1) dX3_readPart_100 hda (congrArg Prod.fst hdk) rfl rfl rfl (show a + 1 ≤ a + 1 from Nat.le_refl _) (show 8 + (3 + 11) + 40 * a ≤ 40 * (a + 1) by omega) (Nat.le_of_ble_eq_true rfl) (by decide) (by decide) (fun r h2 hq => ?_)
    obtain ⟨rfl, J2, rfl, hS2, hF2⟩ := hq
    try simp only [Option.toList, List.nil_append]
    refine z_aload_n (i := 0) dX3_readPart_103 rfl hl0 ?_
    refine z_bipush (v := 41) dX3_readPart_104 (by decide) ?_
    refine z_callV (st := []) (mc2 := 0) (ms2 := 0) zi3_44 zv_yX3_take (c3_take n K J2 L R d t k l v N tk tp tv hD.1 (kTk_fr hD hT1 hF2) _ (hLb (A + 1, 0, out) hA) hS2.1 _ hS2.2.1 41 (by omega) (by decide)) dX3_readPart_106 hda (congrArg Prod.fst hdk) rfl rfl rfl (show 0 + 1 ≤ a + 1 by omega) (show 8 + (2 + 11) + 0 ≤ 40 * (a + 1) by omega) (Nat.le_of_ble_eq_true rfl) (by decide) (by decide) (fun r h2 hq => ?_)
    obtain ⟨rfl, rfl⟩ := hq
    try simp only [Option.toList, List.nil_append]
    refine z_goto 143 dX3_readPart_109 (by decide) ?_
    refine z_vret dX3_readPart_143 rfl ?_
    have ht := kRS_take (tk := tk) (tp := tp) hS2 ndc ndr 41
    exact hQ _ ht.1 (hs1.2.tr (hF2.tr ht.2))
set_option maxHeartbeats 4000000 in
theorem l3_p54 {n : Nat} {K : Nat → Nat × Nat} {R : Nat → Nat → Option Nat} {d t k l v r c e p o N : Nat} {tk tp tv : Nat → Nat} (hD : kRd n K R d t k l v r c e p o) {a dep : Nat} (hdep : dep ≤ 5) {ands : RS → RS} (hands : dep < 5 → kPt yX3_readAnds cX3_readAnds 3 a n K R d t k l v r c N tk tp tv (dep + 1) ands ∧ Lb N ands) {I : Nat → Nat → Int32} {L : Nat → Nat → Int64} {Q : Option Value → ZH → Prop} {A : Nat} {out : List (Nat × Int32)} (hT : kTk I t k l v N tk tp tv) (hA : A ≤ N) (hS : kRS I d r c (A, 0, out)) (hv : tk A = 2 ∨ tk A = 40 ∨ (7 ≤ tk A ∧ tk A ≤ 14)) (ls : Nat → Option Value) (hl0 : ls 0 = some (.ref d)) (hl1 : ls 1 = some (.int (nI dep))) (hl2 : ls 2 = some (.int (nI (tk A)))) (hl3 : ls 3 = some (.int (zb (decide (7 ≤ tk A ∧ tk A ≤ 14))))) (hQ : ∀ J, kRS J d r c (rPart tk tp tv ands dep (A, 0, out)) → kFr d r c I J → Q none (n, K, J, L, R)) : Zf (x3_readPart (a + 1)) 0 0 54 ls [] (n, K, I, L, R) Q := by
  obtain ⟨⟨⟨hda, hta, hka, hla, hva⟩, ⟨hdk, htk, hkk, hlk, hvk⟩, ⟨hd0, ht0, ht1, ht2⟩⟩, ⟨⟨hra, -⟩, ⟨hrk, -⟩, -⟩, hd1⟩ := id hD
  obtain ⟨⟨ndc, ndr, nrc⟩, -⟩ := kRd_ne hD
  obtain ⟨hN6, hN, hN0, hTi⟩ := id hT
  obtain ⟨t1, t2, t3, t4, t5⟩ := hTi A hA
  have hlt : A < N := lt_of_tk hN0 hA rfl (by omega)
  have h2 : I d 2 = nI A := hS.1
  have h3 : I d 3 = 0 := hS.2.1
  refine z_iload_n (i := 1) dX3_readPart_54 rfl hl1 ?_
  refine z_iconst (v := 5) dX3_readPart_55 (by decide) ?_
  refine z_icmp_lt 64 dX3_readPart_56 (by decide) (fun c_1 => ?_) (fun c_1 => ?_)
  · skip
    refine z_aload_n (i := 0) dX3_readPart_64 rfl hl0 ?_
    refine z_gI zf3_28.g dX3_readPart_65 hda hdk ?_
    rw [h3]
    refine z_if_eq 72 dX3_readPart_68 (by decide) (fun _ => ?_) (fun c_2 => absurd c_2 (fun q => q rfl))
    have hd5 : dep < 5 := (zlt (a := dep) (b := 5) (by omega) (by omega)).mp c_1
    exact l3_p72 hD hd5 (hands hd5).1 (hands hd5).2 hT hlt hS hv ls hl0 hl1 hl2 hl3 hQ
  · skip
    refine z_aload_n (i := 0) dX3_readPart_59 rfl hl0 ?_
    refine z_iconst (v := 5) dX3_readPart_60 (by decide) ?_
    refine z_callV (st := []) (mc2 := 0) (ms2 := 0) zi3_41 zv_yX3_refuse (c3_refuse n K I L R d t k l v N tk tp tv hD.1 hT A hA h2 0 h3 5) dX3_readPart_61 hda (congrArg Prod.fst hdk) rfl rfl rfl (show 0 + 1 ≤ a + 1 by omega) (show 8 + (2 + 11) + 0 ≤ 40 * (a + 1) by omega) (Nat.le_of_ble_eq_true rfl) (by decide) (by decide) (fun r h2 hq => ?_)
    obtain ⟨rfl, rfl⟩ := hq
    rw [if_pos (show (0 : Int32) = 0 from rfl)]
    try simp only [Option.toList, List.nil_append]
    refine z_aload_n (i := 0) dX3_readPart_64 rfl hl0 ?_
    refine z_gI zf3_28.g dX3_readPart_65 hda hdk ?_
    rw [zu_apply, if_pos ⟨rfl, rfl⟩]
    refine z_if_eq 72 dX3_readPart_68 (by decide) (fun c_3 => absurd c_3 (fltp_ne (by omega) (by omega) t3)) (fun _ => ?_)
    refine z_vret dX3_readPart_71 rfl ?_
    have hd5 : ¬ dep < 5 := fun q => c_1 ((zlt (a := dep) (b := 5) (by omega) (by omega)).mpr q)
    rw [rPart_e, if_pos (show (0 : Int32) = 0 from rfl), if_pos hv, if_pos (show 5 ≤ dep by omega)] at hQ
    have hf := kRS_flt hS ndc ndr (fltp tp 5 A)
    exact hQ _ hf.1 hf.2
set_option maxHeartbeats 4000000 in
theorem l3_p30 {n : Nat} {K : Nat → Nat × Nat} {R : Nat → Nat → Option Nat} {d t k l v r c e p o N : Nat} {tk tp tv : Nat → Nat} (hD : kRd n K R d t k l v r c e p o) {a dep : Nat} (hdep : dep ≤ 5) {ands : RS → RS} (hands : dep < 5 → kPt yX3_readAnds cX3_readAnds 3 a n K R d t k l v r c N tk tp tv (dep + 1) ands ∧ Lb N ands) {I : Nat → Nat → Int32} {L : Nat → Nat → Int64} {Q : Option Value → ZH → Prop} {A : Nat} {f : Int32} {out : List (Nat × Int32)} (hT : kTk I t k l v N tk tp tv) (hA : A ≤ N) (hS : kRS I d r c (A, f, out)) (ls : Nat → Option Value) (hl0 : ls 0 = some (.ref d)) (hl1 : ls 1 = some (.int (nI dep))) (hl2 : ls 2 = some (.int (nI (tk A)))) (hQ : ∀ J, kRS J d r c (rPart tk tp tv ands dep (A, f, out)) → kFr d r c I J → Q none (n, K, J, L, R)) : Zf (x3_readPart (a + 1)) 0 0 30 ls [.int (zb (decide (7 ≤ tk A ∧ tk A ≤ 14)))] (n, K, I, L, R) Q := by
  obtain ⟨⟨⟨hda, hta, hka, hla, hva⟩, ⟨hdk, htk, hkk, hlk, hvk⟩, ⟨hd0, ht0, ht1, ht2⟩⟩, ⟨⟨hra, -⟩, ⟨hrk, -⟩, -⟩, hd1⟩ := id hD
  obtain ⟨⟨ndc, ndr, nrc⟩, -⟩ := kRd_ne hD
  obtain ⟨hN6, hN, hN0, hTi⟩ := id hT
  obtain ⟨t1, t2, t3, t4, t5⟩ := hTi A hA
  have h2 : I d 2 = nI A := hS.1
  have h3 : I d 3 = f := hS.2.1
  by_cases hf : f = 0
  · subst hf
    by_cases hv : tk A = 2 ∨ tk A = 40 ∨ (7 ≤ tk A ∧ tk A ≤ 14)
    · skip
      refine z_istore_n (i := 3) dX3_readPart_30 rfl (Nat.le_of_ble_eq_true rfl) rfl ?_
      refine z_iload_n (i := 2) dX3_readPart_31 rfl hl2 ?_
      refine z_iconst (v := 2) dX3_readPart_32 (by decide) ?_
      refine z_icmp_eq 54 dX3_readPart_33 (by decide) (fun c_1 => ?_) (fun c_1 => ?_)
      · skip
        exact l3_p54 hD hdep hands hT hA hS hv _ hl0 hl1 hl2 rfl hQ
      · skip
        refine z_iload_n (i := 2) dX3_readPart_36 rfl hl2 ?_
        refine z_bipush (v := 40) dX3_readPart_37 (by decide) ?_
        refine z_icmp_eq 54 dX3_readPart_39 (by decide) (fun c_2 => ?_) (fun c_2 => ?_)
        · skip
          exact l3_p54 hD hdep hands hT hA hS hv _ hl0 hl1 hl2 rfl hQ
        · skip
          refine z_iload_n (i := 3) dX3_readPart_42 rfl rfl ?_
          refine z_if_ne 54 dX3_readPart_43 (by decide) (fun _ => ?_) (fun c_3 => absurd c_3 (fun q => hv.elim (fun h => c_1 (by rw [h]; rfl)) (fun h => h.elim (fun h => c_2 (by rw [h]; rfl)) (of_decide_eq_false ((zb_0 _).mp q)))))
          exact l3_p54 hD hdep hands hT hA hS hv _ hl0 hl1 hl2 rfl hQ
    · rw [rPart_e, if_pos (show (0 : Int32) = 0 from rfl), if_neg hv] at hQ
      have e7 : ¬ (7 ≤ tk A ∧ tk A ≤ 14) := fun q => hv (Or.inr (Or.inr q))
      refine z_istore_n (i := 3) dX3_readPart_30 rfl (Nat.le_of_ble_eq_true rfl) rfl ?_
      refine z_iload_n (i := 2) dX3_readPart_31 rfl hl2 ?_
      refine z_iconst (v := 2) dX3_readPart_32 (by decide) ?_
      refine z_icmp_eq 54 dX3_readPart_33 (by decide) (fun c_1 => absurd c_1 (fun q => hv (Or.inl ((zeq (a := tk A) (b := 2) (by omega) (by omega)).mp q)))) (fun _ => ?_)
      refine z_iload_n (i := 2) dX3_readPart_36 rfl hl2 ?_
      refine z_bipush (v := 40) dX3_readPart_37 (by decide) ?_
      refine z_icmp_eq 54 dX3_readPart_39 (by decide) (fun c_2 => absurd c_2 (fun q => hv (Or.inr (Or.inl ((zeq (a := tk A) (b := 40) (by omega) (by omega)).mp q))))) (fun _ => ?_)
      refine z_iload_n (i := 3) dX3_readPart_42 rfl rfl ?_
      refine z_if_ne 54 dX3_readPart_43 (by decide) (fun c_3 => absurd c_3 (fun q => q (by rw [decide_eq_false e7]; rfl))) (fun _ => ?_)
      refine z_aload_n (i := 0) dX3_readPart_46 rfl hl0 ?_
      refine z_iconst (v := 1) dX3_readPart_47 (by decide) ?_
      refine z_callV (st := []) (mc2 := 0) (ms2 := 0) zi3_41 zv_yX3_refuse (c3_refuse n K I L R d t k l v N tk tp tv hD.1 hT A hA h2 0 h3 1) dX3_readPart_48 hda (congrArg Prod.fst hdk) rfl rfl rfl (show 0 + 1 ≤ a + 1 by omega) (show 8 + (2 + 11) + 0 ≤ 40 * (a + 1) by omega) (Nat.le_of_ble_eq_true rfl) (by decide) (by decide) (fun r h2 hq => ?_)
      obtain ⟨rfl, rfl⟩ := hq
      rw [if_pos (show (0 : Int32) = 0 from rfl)]
      try simp only [Option.toList, List.nil_append]
      refine z_goto 64 dX3_readPart_51 (by decide) ?_
      refine z_aload_n (i := 0) dX3_readPart_64 rfl hl0 ?_
      refine z_gI zf3_28.g dX3_readPart_65 hda hdk ?_
      rw [zu_apply, if_pos ⟨rfl, rfl⟩]
      refine z_if_eq 72 dX3_readPart_68 (by decide) (fun c_4 => absurd c_4 (fltp_ne (by omega) (by omega) t3)) (fun _ => ?_)
      refine z_vret dX3_readPart_71 rfl ?_
      have hf := kRS_flt hS ndc ndr (fltp tp 1 A)
      exact hQ _ hf.1 hf.2
  · rw [rPart_e, if_neg hf] at hQ
    refine z_istore_n (i := 3) dX3_readPart_30 rfl (Nat.le_of_ble_eq_true rfl) rfl ?_
    refine z_iload_n (i := 2) dX3_readPart_31 rfl hl2 ?_
    refine z_iconst (v := 2) dX3_readPart_32 (by decide) ?_
    refine z_icmp_eq 54 dX3_readPart_33 (by decide) (fun c_1 => ?_) (fun c_1 => ?_)
    · skip
      refine z_iload_n (i := 1) dX3_readPart_54 rfl hl1 ?_
      refine z_iconst (v := 5) dX3_readPart_55 (by decide) ?_
      refine z_icmp_lt 64 dX3_readPart_56 (by decide) (fun c_2 => ?_) (fun c_2 => ?_)
      · skip
        refine z_aload_n (i := 0) dX3_readPart_64 rfl hl0 ?_
        refine z_gI zf3_28.g dX3_readPart_65 hda hdk ?_
        rw [h3]
        refine z_if_eq 72 dX3_readPart_68 (by decide) (fun c_3 => absurd c_3 hf) (fun _ => ?_)
        refine z_vret dX3_readPart_71 rfl ?_
        exact hQ _ hS (kFr.rf d r c I)
      · skip
        refine z_aload_n (i := 0) dX3_readPart_59 rfl hl0 ?_
        refine z_iconst (v := 5) dX3_readPart_60 (by decide) ?_
        refine z_callV (st := []) (mc2 := 0) (ms2 := 0) zi3_41 zv_yX3_refuse (c3_refuse n K I L R d t k l v N tk tp tv hD.1 hT A hA h2 f h3 5) dX3_readPart_61 hda (congrArg Prod.fst hdk) rfl rfl rfl (show 0 + 1 ≤ a + 1 by omega) (show 8 + (2 + 11) + 0 ≤ 40 * (a + 1) by omega) (Nat.le_of_ble_eq_true rfl) (by decide) (by decide) (fun r h2 hq => ?_)
        obtain ⟨rfl, rfl⟩ := hq
        rw [if_neg hf]
        try simp only [Option.toList, List.nil_append]
        refine z_aload_n (i := 0) dX3_readPart_64 rfl hl0 ?_
        refine z_gI zf3_28.g dX3_readPart_65 hda hdk ?_
        rw [h3]
        refine z_if_eq 72 dX3_readPart_68 (by decide) (fun c_4 => absurd c_4 hf) (fun _ => ?_)
        refine z_vret dX3_readPart_71 rfl ?_
        exact hQ _ hS (kFr.rf d r c I)
    · skip
      refine z_iload_n (i := 2) dX3_readPart_36 rfl hl2 ?_
      refine z_bipush (v := 40) dX3_readPart_37 (by decide) ?_
      refine z_icmp_eq 54 dX3_readPart_39 (by decide) (fun c_5 => ?_) (fun c_5 => ?_)
      · skip
        refine z_iload_n (i := 1) dX3_readPart_54 rfl hl1 ?_
        refine z_iconst (v := 5) dX3_readPart_55 (by decide) ?_
        refine z_icmp_lt 64 dX3_readPart_56 (by decide) (fun c_6 => ?_) (fun c_6 => ?_)
        · skip
          refine z_aload_n (i := 0) dX3_readPart_64 rfl hl0 ?_
          refine z_gI zf3_28.g dX3_readPart_65 hda hdk ?_
          rw [h3]
          refine z_if_eq 72 dX3_readPart_68 (by decide) (fun c_7 => absurd c_7 hf) (fun _ => ?_)
          refine z_vret dX3_readPart_71 rfl ?_
          exact hQ _ hS (kFr.rf d r c I)
        · skip
          refine z_aload_n (i := 0) dX3_readPart_59 rfl hl0 ?_
          refine z_iconst (v := 5) dX3_readPart_60 (by decide) ?_
          refine z_callV (st := []) (mc2 := 0) (ms2 := 0) zi3_41 zv_yX3_refuse (c3_refuse n K I L R d t k l v N tk tp tv hD.1 hT A hA h2 f h3 5) dX3_readPart_61 hda (congrArg Prod.fst hdk) rfl rfl rfl (show 0 + 1 ≤ a + 1 by omega) (show 8 + (2 + 11) + 0 ≤ 40 * (a + 1) by omega) (Nat.le_of_ble_eq_true rfl) (by decide) (by decide) (fun r h2 hq => ?_)
          obtain ⟨rfl, rfl⟩ := hq
          rw [if_neg hf]
          try simp only [Option.toList, List.nil_append]
          refine z_aload_n (i := 0) dX3_readPart_64 rfl hl0 ?_
          refine z_gI zf3_28.g dX3_readPart_65 hda hdk ?_
          rw [h3]
          refine z_if_eq 72 dX3_readPart_68 (by decide) (fun c_8 => absurd c_8 hf) (fun _ => ?_)
          refine z_vret dX3_readPart_71 rfl ?_
          exact hQ _ hS (kFr.rf d r c I)
      · skip
        refine z_iload_n (i := 3) dX3_readPart_42 rfl rfl ?_
        refine z_if_ne 54 dX3_readPart_43 (by decide) (fun c_9 => ?_) (fun c_9 => ?_)
        · skip
          refine z_iload_n (i := 1) dX3_readPart_54 rfl hl1 ?_
          refine z_iconst (v := 5) dX3_readPart_55 (by decide) ?_
          refine z_icmp_lt 64 dX3_readPart_56 (by decide) (fun c_10 => ?_) (fun c_10 => ?_)
          · skip
            refine z_aload_n (i := 0) dX3_readPart_64 rfl hl0 ?_
            refine z_gI zf3_28.g dX3_readPart_65 hda hdk ?_
            rw [h3]
            refine z_if_eq 72 dX3_readPart_68 (by decide) (fun c_11 => absurd c_11 hf) (fun _ => ?_)
            refine z_vret dX3_readPart_71 rfl ?_
            exact hQ _ hS (kFr.rf d r c I)
          · skip
            refine z_aload_n (i := 0) dX3_readPart_59 rfl hl0 ?_
            refine z_iconst (v := 5) dX3_readPart_60 (by decide) ?_
            refine z_callV (st := []) (mc2 := 0) (ms2 := 0) zi3_41 zv_yX3_refuse (c3_refuse n K I L R d t k l v N tk tp tv hD.1 hT A hA h2 f h3 5) dX3_readPart_61 hda (congrArg Prod.fst hdk) rfl rfl rfl (show 0 + 1 ≤ a + 1 by omega) (show 8 + (2 + 11) + 0 ≤ 40 * (a + 1) by omega) (Nat.le_of_ble_eq_true rfl) (by decide) (by decide) (fun r h2 hq => ?_)
            obtain ⟨rfl, rfl⟩ := hq
            rw [if_neg hf]
            try simp only [Option.toList, List.nil_append]
            refine z_aload_n (i := 0) dX3_readPart_64 rfl hl0 ?_
            refine z_gI zf3_28.g dX3_readPart_65 hda hdk ?_
            rw [h3]
            refine z_if_eq 72 dX3_readPart_68 (by decide) (fun c_12 => absurd c_12 hf) (fun _ => ?_)
            refine z_vret dX3_readPart_71 rfl ?_
            exact hQ _ hS (kFr.rf d r c I)
        · skip
          refine z_aload_n (i := 0) dX3_readPart_46 rfl hl0 ?_
          refine z_iconst (v := 1) dX3_readPart_47 (by decide) ?_
          refine z_callV (st := []) (mc2 := 0) (ms2 := 0) zi3_41 zv_yX3_refuse (c3_refuse n K I L R d t k l v N tk tp tv hD.1 hT A hA h2 f h3 1) dX3_readPart_48 hda (congrArg Prod.fst hdk) rfl rfl rfl (show 0 + 1 ≤ a + 1 by omega) (show 8 + (2 + 11) + 0 ≤ 40 * (a + 1) by omega) (Nat.le_of_ble_eq_true rfl) (by decide) (by decide) (fun r h2 hq => ?_)
          obtain ⟨rfl, rfl⟩ := hq
          rw [if_neg hf]
          try simp only [Option.toList, List.nil_append]
          refine z_goto 64 dX3_readPart_51 (by decide) ?_
          refine z_aload_n (i := 0) dX3_readPart_64 rfl hl0 ?_
          refine z_gI zf3_28.g dX3_readPart_65 hda hdk ?_
          rw [h3]
          refine z_if_eq 72 dX3_readPart_68 (by decide) (fun c_13 => absurd c_13 hf) (fun _ => ?_)
          refine z_vret dX3_readPart_71 rfl ?_
          exact hQ _ hS (kFr.rf d r c I)
set_option maxHeartbeats 4000000 in
theorem c3_readPart {n : Nat} {K : Nat → Nat × Nat} {R : Nat → Nat → Option Nat} {d t k l v r c e p o N : Nat} {tk tp tv : Nat → Nat} (hD : kRd n K R d t k l v r c e p o) (a dep : Nat) (hdep : dep ≤ 5) {ands : RS → RS} (hands : dep < 5 → kPt yX3_readAnds cX3_readAnds 3 a n K R d t k l v r c N tk tp tv (dep + 1) ands ∧ Lb N ands) : kPt yX3_readPart cX3_readPart 5 (a + 1) n K R d t k l v r c N tk tp tv dep (rPart tk tp tv ands dep) := by
  intro I L s hT hA hS
  refine Zm_of (lg := false) (by decide) (fun _ => by simp [Value.category]) (fun _ => Nat.le_of_ble_eq_true rfl) ?_
  show Zf (x3_readPart (a + 1)) 0 0 0 (zargs [.ref d, .int (nI dep)]) [] (n, K, I, L, R) _
  obtain ⟨⟨⟨hda, hta, hka, hla, hva⟩, ⟨hdk, htk, hkk, hlk, hvk⟩, ⟨hd0, ht0, ht1, ht2⟩⟩, ⟨⟨hra, -⟩, ⟨hrk, -⟩, -⟩, hd1⟩ := id hD
  obtain ⟨⟨ndc, ndr, nrc⟩, -⟩ := kRd_ne hD
  obtain ⟨A, f, out⟩ := s
  have hA : A ≤ N := hA
  obtain ⟨hN6, hN, hN0, hTi⟩ := id hT
  obtain ⟨t1, t2, t3, t4, t5⟩ := hTi A hA
  have h2 : I d 2 = nI A := hS.1
  refine z_aload_n (i := 0) dX3_readPart_0 rfl rfl ?_
  refine z_gR zf3_9.g dX3_readPart_1 hda hdk hd0 ?_
  refine z_gR zf3_75 dX3_readPart_4 hta htk ht0 ?_
  refine z_aload_n (i := 0) dX3_readPart_7 rfl rfl ?_
  refine z_gI zf3_24.g dX3_readPart_8 hda hdk ?_
  rw [h2]
  refine z_iald dX3_readPart_11 hka hkk (zvin (by omega) (by omega)) ?_
  rw [zcl (by omega), t1]
  refine z_istore_n (i := 2) dX3_readPart_12 rfl (Nat.le_of_ble_eq_true rfl) rfl ?_
  refine z_iload_n (i := 2) dX3_readPart_13 rfl rfl ?_
  refine z_bipush (v := 7) dX3_readPart_14 (by decide) ?_
  refine z_icmp_lt 29 dX3_readPart_16 (by decide) (fun c_1 => ?_) (fun c_1 => ?_)
  · skip
    refine z_iconst (v := 0) dX3_readPart_29 (by decide) ?_
    refine z_top (y := .int (zb (decide (7 ≤ tk A ∧ tk A ≤ 14)))) (by rw [decide_eq_false (fun q => by have := (zlt (a := tk A) (b := 7) (by omega) (by omega)).mp c_1; omega)]; rfl) ?_
    exact l3_p30 hD hdep hands hT hA hS _ rfl rfl rfl (fun J hJ hF => ⟨rfl, J, rfl, hJ, hF⟩)
  · skip
    refine z_iload_n (i := 2) dX3_readPart_19 rfl rfl ?_
    refine z_bipush (v := 14) dX3_readPart_20 (by decide) ?_
    refine z_icmp_gt 29 dX3_readPart_22 (by decide) (fun c_2 => ?_) (fun c_2 => ?_)
    · skip
      refine z_iconst (v := 0) dX3_readPart_29 (by decide) ?_
      refine z_top (y := .int (zb (decide (7 ≤ tk A ∧ tk A ≤ 14)))) (by rw [decide_eq_false (fun q => by have := (zlt (a := 14) (b := tk A) (by omega) (by omega)).mp c_2; omega)]; rfl) ?_
      exact l3_p30 hD hdep hands hT hA hS _ rfl rfl rfl (fun J hJ hF => ⟨rfl, J, rfl, hJ, hF⟩)
    · skip
      refine z_iconst (v := 1) dX3_readPart_25 (by decide) ?_
      refine z_goto 30 dX3_readPart_26 (by decide) ?_
      refine z_top (y := .int (zb (decide (7 ≤ tk A ∧ tk A ≤ 14)))) (by rw [decide_eq_true (show 7 ≤ tk A ∧ tk A ≤ 14 from ⟨by have h9 := mt (zlt (a := tk A) (b := 7) (by omega) (by omega)).mpr c_1; omega, by have h9 := mt (zlt (a := 14) (b := tk A) (by omega) (by omega)).mpr c_2; omega⟩)]; rfl) ?_
      exact l3_p30 hD hdep hands hT hA hS _ rfl rfl rfl (fun J hJ hF => ⟨rfl, J, rfl, hJ, hF⟩)
theorem ksum {x : Nat} (h : x = 43 ∨ x = 45) : 20000 + nI x = kenc (if x = 43 then 3 else 4, 0) := by
  rcases h with h | h <;> subst h <;> decide
theorem ktst {x : Nat} (h : x = 60 ∨ x = 61) : 20000 + nI x = kenc (if x = 60 then 5 else 6, 0) := by
  rcases h with h | h <;> subst h <;> decide
abbrev x3_readSum (fr : Nat) : ZX := (RX3, cX3_readSum, 4, none, "readSum", fr, 40 * fr, false)
set_option maxHeartbeats 4000000 in
theorem l3_readSum {n : Nat} {K : Nat → Nat × Nat} {R : Nat → Nat → Option Nat} {d t k l v r c e p o N : Nat} {tk tp tv : Nat → Nat} (hD : kRd n K R d t k l v r c e p o) {a dep : Nat} {pf : RS → RS} (hpf : kPt yX3_readPart cX3_readPart 5 a n K R d t k l v r c N tk tp tv dep pf) (hLb : Lb N pf) {L : Nat → Nat → Int64} {Q : Option Value → ZH → Prop} : ∀ (m j : Nat) (I : Nat → Nat → Int32) (s : RS) (ls : Nat → Option Value), j + m = 600 → kTk I t k l v N tk tp tv → s.1 ≤ N → kRS I d r c s → ls 0 = some (.ref d) → ls 1 = some (.int (nI dep)) → ls 2 = some (.int (nI j)) → (∀ J, kRS J d r c (rSumL tk pf m s) → kFr d r c I J → Q none (n, K, J, L, R)) → Zf (x3_readSum (a + 1)) 0 0 7 ls [] (n, K, I, L, R) Q := by
  intro m
  obtain ⟨⟨⟨hda, hta, hka, hla, hva⟩, ⟨hdk, htk, hkk, hlk, hvk⟩, ⟨hd0, ht0, ht1, ht2⟩⟩, ⟨⟨hra, -⟩, ⟨hrk, -⟩, -⟩, hd1⟩ := id hD
  obtain ⟨⟨ndc, ndr, nrc⟩, -⟩ := kRd_ne hD
  induction m with
  | zero =>
    intro j I s ls hj hT hA hS hl0 hl1 hl2 hQ
    refine z_iload_n (i := 2) dX3_readSum_7 rfl hl2 ?_
    refine z_sipush (v := 600) dX3_readSum_8 (by decide) ?_
    refine z_icmp_ge 72 dX3_readSum_11 (by decide) (fun _ => ?_) (fun c_1 => absurd (show nI 600 ≤ nI j from (zle (by omega) (by omega)).mpr (by omega)) c_1)
    refine z_vret dX3_readSum_72 rfl ?_
    exact hQ I hS (kFr.rf d r c I)
  | succ m ih =>
    intro j I s ls hj hT hA hS hl0 hl1 hl2 hQ
    obtain ⟨A, f, out⟩ := s
    have hA : A ≤ N := hA
    obtain ⟨hN6, hN, hN0, hTi⟩ := id hT
    obtain ⟨t1, t2, t3, t4, t5⟩ := hTi A hA
    have h2 : I d 2 = nI A := hS.1
    have h3 : I d 3 = f := hS.2.1
    by_cases hc : f = 0 ∧ (tk A = 43 ∨ tk A = 45)
    · rw [rSumL_e, if_pos hc] at hQ
      obtain ⟨hf, hm⟩ := hc
      subst hf
      have hlt : A < N := lt_of_tk hN0 hA rfl (by omega)
      have hs1 := kRS_step hS ndc ndr
      have hT1 := kTk_fr hD hT hs1.2
      have hbd : Zf (x3_readSum (a + 1)) 0 0 32 ls [] (n, K, I, L, R) Q := by
        refine z_aload_n (i := 0) dX3_readSum_32 rfl hl0 ?_
        refine z_gR zf3_9.g dX3_readSum_33 hda hdk hd0 ?_
        refine z_gR zf3_75 dX3_readSum_36 hta htk ht0 ?_
        refine z_aload_n (i := 0) dX3_readSum_39 rfl hl0 ?_
        refine z_gI zf3_24.g dX3_readSum_40 hda hdk ?_
        rw [h2]
        refine z_iald dX3_readSum_43 hka hkk (zvin (by omega) (by omega)) ?_
        rw [zcl (by omega), t1]
        refine z_istore_n (i := 3) dX3_readSum_44 rfl (Nat.le_of_ble_eq_true rfl) rfl ?_
        refine z_aload_n (i := 0) dX3_readSum_45 rfl hl0 ?_
        refine z_callV (st := []) (mc2 := 0) (ms2 := 0) zi3_57 zv_yX3_step (c3_step n K I L R d t k l v N tk tp tv hD.1 hT A hA h2 hlt) dX3_readSum_46 hda (congrArg Prod.fst hdk) rfl rfl rfl (show 0 + 1 ≤ a + 1 by omega) (show 8 + (1 + 11) + 0 ≤ 40 * (a + 1) by omega) (Nat.le_of_ble_eq_true rfl) (by decide) (by decide) (fun r h2 hq => ?_)
        obtain ⟨rfl, rfl⟩ := hq
        try simp only [Option.toList, List.nil_append]
        refine z_aload_n (i := 0) dX3_readSum_49 rfl hl0 ?_
        refine z_iload_n (i := 1) dX3_readSum_50 rfl hl1 ?_
        refine z_callV (st := []) (mc2 := 0) (ms2 := 0) zi3_78 zv_yX3_readPart (hpf _ L (A + 1, 0, out) hT1 hlt hs1.1) dX3_readSum_51 hda (congrArg Prod.fst hdk) rfl rfl rfl (show a + 1 ≤ a + 1 from Nat.le_refl _) (show 8 + (5 + 11) + 40 * a ≤ 40 * (a + 1) by omega) (Nat.le_of_ble_eq_true rfl) (by decide) (by decide) (fun r h2 hq => ?_)
        obtain ⟨rfl, J2, rfl, hS2, hF2⟩ := hq
        try simp only [Option.toList, List.nil_append]
        refine z_aload_n (i := 0) dX3_readSum_54 rfl hl0 ?_
        refine z_gR zf3_15.g dX3_readSum_55 hda hdk hd1 ?_
        refine z_sipush (v := 20000) dX3_readSum_58 (by decide) ?_
        refine z_iload_n (i := 3) dX3_readSum_61 rfl rfl ?_
        refine z_iadd dX3_readSum_62 ?_
        refine z_top (y := .int (kenc (if tk A = 43 then 3 else 4, 0))) (by rw [← ksum hm]) ?_
        refine z_callV (st := []) (mc2 := 0) (ms2 := 0) zi3_69 zv_yX4_put (c4_putG n K J2 L R r c e p o hD.2.1 _ _ (Nat.min_le_right _ _) hS2.2.2.1) dX3_readSum_63 hra (congrArg Prod.fst hrk) rfl rfl rfl (show 0 + 1 ≤ a + 1 by omega) (show 8 + (2 + 11) + 0 ≤ 40 * (a + 1) by omega) (Nat.le_of_ble_eq_true rfl) (by decide) (by decide) (fun r h2 hq => ?_)
        obtain ⟨rfl, rfl⟩ := hq
        try simp only [Option.toList, List.nil_append]
        refine z_iinc dX3_readSum_66 hl2 rfl ?_
        refine z_goto 7 dX3_readSum_69 (by decide) ?_
        rw [zinc]
        have hp := kRS_put hS2 nrc ndc ndr (if tk A = 43 then 3 else 4) 0
        exact ih (j + 1) _ (rPut (if tk A = 43 then 3 else 4) 0 (pf (A + 1, 0, out))) _ (by omega) (kTk_fr hD (kTk_fr hD hT1 hF2) hp.2) (hLb (A + 1, 0, out) hlt) hp.1 hl0 hl1 rfl (fun J hJ hF => hQ J hJ (hs1.2.tr (hF2.tr (hp.2.tr hF))))
      by_cases e43 : tk A = 43
      · skip
        refine z_iload_n (i := 2) dX3_readSum_7 rfl hl2 ?_
        refine z_sipush (v := 600) dX3_readSum_8 (by decide) ?_
        refine z_icmp_ge 72 dX3_readSum_11 (by decide) (fun c_1 => absurd c_1 (by rw [show (600 : Int32) = nI 600 from rfl, zle (by omega) (by omega)]; omega)) (fun _ => ?_)
        refine z_aload_n (i := 0) dX3_readSum_14 rfl hl0 ?_
        refine z_bipush (v := 43) dX3_readSum_15 (by decide) ?_
        refine z_callV (st := []) (mc2 := 0) (ms2 := 0) zi3_33 zv_yX3_sees (c3_sees n K I L R d t k l v N tk tp tv hD.1 hT A hA h2 0 h3 43 (by omega)) dX3_readSum_17 hda (congrArg Prod.fst hdk) rfl rfl rfl (show 0 + 1 ≤ a + 1 by omega) (show 8 + (2 + 11) + 0 ≤ 40 * (a + 1) by omega) (Nat.le_of_ble_eq_true rfl) (by decide) (by decide) (fun r h2 hq => ?_)
        obtain ⟨rfl, rfl⟩ := hq
        refine z_if_ne 32 dX3_readSum_20 (by decide) (fun _ => ?_) (fun c_2 => absurd c_2 (fun q => absurd e43 (by simpa using (zb_0 _).mp q)))
        exact hbd
      · have e45 : tk A = 45 := hm.resolve_left e43
        refine z_iload_n (i := 2) dX3_readSum_7 rfl hl2 ?_
        refine z_sipush (v := 600) dX3_readSum_8 (by decide) ?_
        refine z_icmp_ge 72 dX3_readSum_11 (by decide) (fun c_1 => absurd c_1 (by rw [show (600 : Int32) = nI 600 from rfl, zle (by omega) (by omega)]; omega)) (fun _ => ?_)
        refine z_aload_n (i := 0) dX3_readSum_14 rfl hl0 ?_
        refine z_bipush (v := 43) dX3_readSum_15 (by decide) ?_
        refine z_callV (st := []) (mc2 := 0) (ms2 := 0) zi3_33 zv_yX3_sees (c3_sees n K I L R d t k l v N tk tp tv hD.1 hT A hA h2 0 h3 43 (by omega)) dX3_readSum_17 hda (congrArg Prod.fst hdk) rfl rfl rfl (show 0 + 1 ≤ a + 1 by omega) (show 8 + (2 + 11) + 0 ≤ 40 * (a + 1) by omega) (Nat.le_of_ble_eq_true rfl) (by decide) (by decide) (fun r h2 hq => ?_)
        obtain ⟨rfl, rfl⟩ := hq
        refine z_if_ne 32 dX3_readSum_20 (by decide) (fun c_2 => absurd c_2 (fun q => q (by rw [decide_eq_false e43, Bool.and_false]; rfl))) (fun _ => ?_)
        refine z_aload_n (i := 0) dX3_readSum_23 rfl hl0 ?_
        refine z_bipush (v := 45) dX3_readSum_24 (by decide) ?_
        refine z_callV (st := []) (mc2 := 0) (ms2 := 0) zi3_33 zv_yX3_sees (c3_sees n K I L R d t k l v N tk tp tv hD.1 hT A hA h2 0 h3 45 (by omega)) dX3_readSum_26 hda (congrArg Prod.fst hdk) rfl rfl rfl (show 0 + 1 ≤ a + 1 by omega) (show 8 + (2 + 11) + 0 ≤ 40 * (a + 1) by omega) (Nat.le_of_ble_eq_true rfl) (by decide) (by decide) (fun r h2 hq => ?_)
        obtain ⟨rfl, rfl⟩ := hq
        refine z_if_eq 72 dX3_readSum_29 (by decide) (fun c_3 => absurd c_3 (fun q => absurd e45 (by simpa using (zb_0 _).mp q))) (fun _ => ?_)
        exact hbd
    · rw [rSumL_e, if_neg hc] at hQ
      have b43 : (decide (f = 0) && decide (tk A = 43)) = false := by
        rw [Bool.and_eq_false_iff]
        by_cases e : f = 0
        · exact Or.inr (decide_eq_false (fun q => hc ⟨e, Or.inl q⟩))
        · exact Or.inl (decide_eq_false e)
      have b45 : (decide (f = 0) && decide (tk A = 45)) = false := by
        rw [Bool.and_eq_false_iff]
        by_cases e : f = 0
        · exact Or.inr (decide_eq_false (fun q => hc ⟨e, Or.inr q⟩))
        · exact Or.inl (decide_eq_false e)
      refine z_iload_n (i := 2) dX3_readSum_7 rfl hl2 ?_
      refine z_sipush (v := 600) dX3_readSum_8 (by decide) ?_
      refine z_icmp_ge 72 dX3_readSum_11 (by decide) (fun c_1 => absurd c_1 (by rw [show (600 : Int32) = nI 600 from rfl, zle (by omega) (by omega)]; omega)) (fun _ => ?_)
      refine z_aload_n (i := 0) dX3_readSum_14 rfl hl0 ?_
      refine z_bipush (v := 43) dX3_readSum_15 (by decide) ?_
      refine z_callV (st := []) (mc2 := 0) (ms2 := 0) zi3_33 zv_yX3_sees (c3_sees n K I L R d t k l v N tk tp tv hD.1 hT A hA h2 f h3 43 (by omega)) dX3_readSum_17 hda (congrArg Prod.fst hdk) rfl rfl rfl (show 0 + 1 ≤ a + 1 by omega) (show 8 + (2 + 11) + 0 ≤ 40 * (a + 1) by omega) (Nat.le_of_ble_eq_true rfl) (by decide) (by decide) (fun r h2 hq => ?_)
      obtain ⟨rfl, rfl⟩ := hq
      refine z_if_ne 32 dX3_readSum_20 (by decide) (fun c_2 => absurd c_2 (fun q => q (by rw [b43]; rfl))) (fun _ => ?_)
      refine z_aload_n (i := 0) dX3_readSum_23 rfl hl0 ?_
      refine z_bipush (v := 45) dX3_readSum_24 (by decide) ?_
      refine z_callV (st := []) (mc2 := 0) (ms2 := 0) zi3_33 zv_yX3_sees (c3_sees n K I L R d t k l v N tk tp tv hD.1 hT A hA h2 f h3 45 (by omega)) dX3_readSum_26 hda (congrArg Prod.fst hdk) rfl rfl rfl (show 0 + 1 ≤ a + 1 by omega) (show 8 + (2 + 11) + 0 ≤ 40 * (a + 1) by omega) (Nat.le_of_ble_eq_true rfl) (by decide) (by decide) (fun r h2 hq => ?_)
      obtain ⟨rfl, rfl⟩ := hq
      refine z_if_eq 72 dX3_readSum_29 (by decide) (fun _ => ?_) (fun c_3 => absurd c_3 (fun q => q (by rw [b45]; rfl)))
      refine z_vret dX3_readSum_72 rfl ?_
      exact hQ I hS (kFr.rf d r c I)
set_option maxHeartbeats 4000000 in
theorem c3_readSum {n : Nat} {K : Nat → Nat × Nat} {R : Nat → Nat → Option Nat} {d t k l v r c e p o N : Nat} {tk tp tv : Nat → Nat} (hD : kRd n K R d t k l v r c e p o) (a dep : Nat) {part : RS → RS} (hpf : kPt yX3_readPart cX3_readPart 5 a n K R d t k l v r c N tk tp tv dep part) (hLb : Lb N part) : kPt yX3_readSum cX3_readSum 4 (a + 1) n K R d t k l v r c N tk tp tv dep (rSum tk 600 part) := by
  intro I L s hT hA hS
  refine Zm_of (lg := false) (by decide) (fun _ => by simp [Value.category]) (fun _ => Nat.le_of_ble_eq_true rfl) ?_
  show Zf (x3_readSum (a + 1)) 0 0 0 (zargs [.ref d, .int (nI dep)]) [] (n, K, I, L, R) _
  obtain ⟨⟨⟨hda, hta, hka, hla, hva⟩, ⟨hdk, htk, hkk, hlk, hvk⟩, ⟨hd0, ht0, ht1, ht2⟩⟩, ⟨⟨hra, -⟩, ⟨hrk, -⟩, -⟩, hd1⟩ := id hD
  obtain ⟨⟨ndc, ndr, nrc⟩, -⟩ := kRd_ne hD
  refine z_aload_n (i := 0) dX3_readSum_0 rfl rfl ?_
  refine z_iload_n (i := 1) dX3_readSum_1 rfl rfl ?_
  refine z_callV (st := []) (mc2 := 0) (ms2 := 0) zi3_78 zv_yX3_readPart (hpf I L s hT hA hS) dX3_readSum_2 hda (congrArg Prod.fst hdk) rfl rfl rfl (show a + 1 ≤ a + 1 from Nat.le_refl _) (show 8 + (5 + 11) + 40 * a ≤ 40 * (a + 1) by omega) (Nat.le_of_ble_eq_true rfl) (by decide) (by decide) (fun r h2 hq => ?_)
  obtain ⟨rfl, J1, rfl, hS1, hF1⟩ := hq
  try simp only [Option.toList, List.nil_append]
  refine z_iconst (v := 0) dX3_readSum_5 (by decide) ?_
  refine z_istore_n (i := 2) dX3_readSum_6 rfl (Nat.le_of_ble_eq_true rfl) rfl ?_
  exact l3_readSum hD hpf hLb 600 0 J1 (part s) _ rfl (kTk_fr hD hT hF1) (hLb _ hA) hS1 rfl rfl rfl (fun J hJ hF => ⟨rfl, J, rfl, hJ, hF1.tr hF⟩)
abbrev x3_readAnds (fr : Nat) : ZX := (RX3, cX3_readAnds, 3, none, "readAnds", fr, 40 * fr, false)
set_option maxHeartbeats 4000000 in
theorem l3_readAnds {n : Nat} {K : Nat → Nat × Nat} {R : Nat → Nat → Option Nat} {d t k l v r c e p o N : Nat} {tk tp tv : Nat → Nat} (hD : kRd n K R d t k l v r c e p o) {a dep : Nat} {pf : RS → RS} (hpf : kPt yX3_readTest cX3_readTest 3 a n K R d t k l v r c N tk tp tv dep pf) (hLb : Lb N pf) {L : Nat → Nat → Int64} {Q : Option Value → ZH → Prop} : ∀ (m j : Nat) (I : Nat → Nat → Int32) (s : RS) (ls : Nat → Option Value), j + m = 600 → kTk I t k l v N tk tp tv → s.1 ≤ N → kRS I d r c s → ls 0 = some (.ref d) → ls 1 = some (.int (nI dep)) → ls 2 = some (.int (nI j)) → (∀ J, kRS J d r c (rAndsL tk pf m s) → kFr d r c I J → Q none (n, K, J, L, R)) → Zf (x3_readAnds (a + 1)) 0 0 7 ls [] (n, K, I, L, R) Q := by
  intro m
  obtain ⟨⟨⟨hda, hta, hka, hla, hva⟩, ⟨hdk, htk, hkk, hlk, hvk⟩, ⟨hd0, ht0, ht1, ht2⟩⟩, ⟨⟨hra, -⟩, ⟨hrk, -⟩, -⟩, hd1⟩ := id hD
  obtain ⟨⟨ndc, ndr, nrc⟩, -⟩ := kRd_ne hD
  induction m with
  | zero =>
    intro j I s ls hj hT hA hS hl0 hl1 hl2 hQ
    refine z_iload_n (i := 2) dX3_readAnds_7 rfl hl2 ?_
    refine z_sipush (v := 600) dX3_readAnds_8 (by decide) ?_
    refine z_icmp_ge 48 dX3_readAnds_11 (by decide) (fun _ => ?_) (fun c_1 => absurd (show nI 600 ≤ nI j from (zle (by omega) (by omega)).mpr (by omega)) c_1)
    refine z_vret dX3_readAnds_48 rfl ?_
    exact hQ I hS (kFr.rf d r c I)
  | succ m ih =>
    intro j I s ls hj hT hA hS hl0 hl1 hl2 hQ
    obtain ⟨A, f, out⟩ := s
    have hA : A ≤ N := hA
    obtain ⟨hN6, hN, hN0, hTi⟩ := id hT
    obtain ⟨t1, t2, t3, t4, t5⟩ := hTi A hA
    have h2 : I d 2 = nI A := hS.1
    have h3 : I d 3 = f := hS.2.1
    by_cases hc : f = 0 ∧ tk A = 6
    · rw [rAndsL_e, if_pos hc] at hQ
      obtain ⟨hf, hm⟩ := hc
      subst hf
      have hlt : A < N := lt_of_tk hN0 hA rfl (by omega)
      have hs1 := kRS_step hS ndc ndr
      have hT1 := kTk_fr hD hT hs1.2
      have hbd : Zf (x3_readAnds (a + 1)) 0 0 23 ls [] (n, K, I, L, R) Q := by
        refine z_aload_n (i := 0) dX3_readAnds_23 rfl hl0 ?_
        refine z_callV (st := []) (mc2 := 0) (ms2 := 0) zi3_57 zv_yX3_step (c3_step n K I L R d t k l v N tk tp tv hD.1 hT A hA h2 hlt) dX3_readAnds_24 hda (congrArg Prod.fst hdk) rfl rfl rfl (show 0 + 1 ≤ a + 1 by omega) (show 8 + (1 + 11) + 0 ≤ 40 * (a + 1) by omega) (Nat.le_of_ble_eq_true rfl) (by decide) (by decide) (fun r h2 hq => ?_)
        obtain ⟨rfl, rfl⟩ := hq
        try simp only [Option.toList, List.nil_append]
        refine z_aload_n (i := 0) dX3_readAnds_27 rfl hl0 ?_
        refine z_iload_n (i := 1) dX3_readAnds_28 rfl hl1 ?_
        refine z_callV (st := []) (mc2 := 0) (ms2 := 0) zi3_64 zv_yX3_readTest (hpf _ L (A + 1, 0, out) hT1 hlt hs1.1) dX3_readAnds_29 hda (congrArg Prod.fst hdk) rfl rfl rfl (show a + 1 ≤ a + 1 from Nat.le_refl _) (show 8 + (3 + 11) + 40 * a ≤ 40 * (a + 1) by omega) (Nat.le_of_ble_eq_true rfl) (by decide) (by decide) (fun r h2 hq => ?_)
        obtain ⟨rfl, J2, rfl, hS2, hF2⟩ := hq
        try simp only [Option.toList, List.nil_append]
        refine z_aload_n (i := 0) dX3_readAnds_32 rfl hl0 ?_
        refine z_gR zf3_15.g dX3_readAnds_33 hda hdk hd1 ?_
        refine z_sipush (v := 20006) dX3_readAnds_36 (by decide) ?_
        refine z_callV (st := []) (mc2 := 0) (ms2 := 0) zi3_69 zv_yX4_put (c4_putG n K J2 L R r c e p o hD.2.1 _ _ (Nat.min_le_right _ _) hS2.2.2.1) dX3_readAnds_39 hra (congrArg Prod.fst hrk) rfl rfl rfl (show 0 + 1 ≤ a + 1 by omega) (show 8 + (2 + 11) + 0 ≤ 40 * (a + 1) by omega) (Nat.le_of_ble_eq_true rfl) (by decide) (by decide) (fun r h2 hq => ?_)
        obtain ⟨rfl, rfl⟩ := hq
        try simp only [Option.toList, List.nil_append]
        refine z_iinc dX3_readAnds_42 hl2 rfl ?_
        refine z_goto 7 dX3_readAnds_45 (by decide) ?_
        rw [zinc]
        have hp := kRS_put hS2 nrc ndc ndr (7) 0
        exact ih (j + 1) _ (rPut (7) 0 (pf (A + 1, 0, out))) _ (by omega) (kTk_fr hD (kTk_fr hD hT1 hF2) hp.2) (hLb (A + 1, 0, out) hlt) hp.1 hl0 hl1 rfl (fun J hJ hF => hQ J hJ (hs1.2.tr (hF2.tr (hp.2.tr hF))))
      refine z_iload_n (i := 2) dX3_readAnds_7 rfl hl2 ?_
      refine z_sipush (v := 600) dX3_readAnds_8 (by decide) ?_
      refine z_icmp_ge 48 dX3_readAnds_11 (by decide) (fun c_1 => absurd c_1 (by rw [show (600 : Int32) = nI 600 from rfl, zle (by omega) (by omega)]; omega)) (fun _ => ?_)
      refine z_aload_n (i := 0) dX3_readAnds_14 rfl hl0 ?_
      refine z_bipush (v := 6) dX3_readAnds_15 (by decide) ?_
      refine z_callV (st := []) (mc2 := 0) (ms2 := 0) zi3_33 zv_yX3_sees (c3_sees n K I L R d t k l v N tk tp tv hD.1 hT A hA h2 0 h3 6 (by omega)) dX3_readAnds_17 hda (congrArg Prod.fst hdk) rfl rfl rfl (show 0 + 1 ≤ a + 1 by omega) (show 8 + (2 + 11) + 0 ≤ 40 * (a + 1) by omega) (Nat.le_of_ble_eq_true rfl) (by decide) (by decide) (fun r h2 hq => ?_)
      obtain ⟨rfl, rfl⟩ := hq
      refine z_if_eq 48 dX3_readAnds_20 (by decide) (fun c_2 => absurd c_2 (fun q => absurd hm (by simpa using (zb_0 _).mp q))) (fun _ => ?_)
      exact hbd
    · rw [rAndsL_e, if_neg hc] at hQ
      have b6 : (decide (f = 0) && decide (tk A = 6)) = false := by
        rw [Bool.and_eq_false_iff]
        by_cases e : f = 0
        · exact Or.inr (decide_eq_false (fun q => hc ⟨e, q⟩))
        · exact Or.inl (decide_eq_false e)
      refine z_iload_n (i := 2) dX3_readAnds_7 rfl hl2 ?_
      refine z_sipush (v := 600) dX3_readAnds_8 (by decide) ?_
      refine z_icmp_ge 48 dX3_readAnds_11 (by decide) (fun c_1 => absurd c_1 (by rw [show (600 : Int32) = nI 600 from rfl, zle (by omega) (by omega)]; omega)) (fun _ => ?_)
      refine z_aload_n (i := 0) dX3_readAnds_14 rfl hl0 ?_
      refine z_bipush (v := 6) dX3_readAnds_15 (by decide) ?_
      refine z_callV (st := []) (mc2 := 0) (ms2 := 0) zi3_33 zv_yX3_sees (c3_sees n K I L R d t k l v N tk tp tv hD.1 hT A hA h2 f h3 6 (by omega)) dX3_readAnds_17 hda (congrArg Prod.fst hdk) rfl rfl rfl (show 0 + 1 ≤ a + 1 by omega) (show 8 + (2 + 11) + 0 ≤ 40 * (a + 1) by omega) (Nat.le_of_ble_eq_true rfl) (by decide) (by decide) (fun r h2 hq => ?_)
      obtain ⟨rfl, rfl⟩ := hq
      refine z_if_eq 48 dX3_readAnds_20 (by decide) (fun _ => ?_) (fun c_2 => absurd c_2 (fun q => q (by rw [b6]; rfl)))
      refine z_vret dX3_readAnds_48 rfl ?_
      exact hQ I hS (kFr.rf d r c I)
set_option maxHeartbeats 4000000 in
theorem c3_readAnds {n : Nat} {K : Nat → Nat × Nat} {R : Nat → Nat → Option Nat} {d t k l v r c e p o N : Nat} {tk tp tv : Nat → Nat} (hD : kRd n K R d t k l v r c e p o) (a dep : Nat) {test : RS → RS} (hpf : kPt yX3_readTest cX3_readTest 3 a n K R d t k l v r c N tk tp tv dep test) (hLb : Lb N test) : kPt yX3_readAnds cX3_readAnds 3 (a + 1) n K R d t k l v r c N tk tp tv dep (fun s => rAndsL tk test 600 (test s)) := by
  intro I L s hT hA hS
  refine Zm_of (lg := false) (by decide) (fun _ => by simp [Value.category]) (fun _ => Nat.le_of_ble_eq_true rfl) ?_
  show Zf (x3_readAnds (a + 1)) 0 0 0 (zargs [.ref d, .int (nI dep)]) [] (n, K, I, L, R) _
  obtain ⟨⟨⟨hda, hta, hka, hla, hva⟩, ⟨hdk, htk, hkk, hlk, hvk⟩, ⟨hd0, ht0, ht1, ht2⟩⟩, ⟨⟨hra, -⟩, ⟨hrk, -⟩, -⟩, hd1⟩ := id hD
  obtain ⟨⟨ndc, ndr, nrc⟩, -⟩ := kRd_ne hD
  refine z_aload_n (i := 0) dX3_readAnds_0 rfl rfl ?_
  refine z_iload_n (i := 1) dX3_readAnds_1 rfl rfl ?_
  refine z_callV (st := []) (mc2 := 0) (ms2 := 0) zi3_64 zv_yX3_readTest (hpf I L s hT hA hS) dX3_readAnds_2 hda (congrArg Prod.fst hdk) rfl rfl rfl (show a + 1 ≤ a + 1 from Nat.le_refl _) (show 8 + (3 + 11) + 40 * a ≤ 40 * (a + 1) by omega) (Nat.le_of_ble_eq_true rfl) (by decide) (by decide) (fun r h2 hq => ?_)
  obtain ⟨rfl, J1, rfl, hS1, hF1⟩ := hq
  try simp only [Option.toList, List.nil_append]
  refine z_iconst (v := 0) dX3_readAnds_5 (by decide) ?_
  refine z_istore_n (i := 2) dX3_readAnds_6 rfl (Nat.le_of_ble_eq_true rfl) rfl ?_
  exact l3_readAnds hD hpf hLb 600 0 J1 (test s) _ rfl (kTk_fr hD hT hF1) (hLb _ hA) hS1 rfl rfl rfl (fun J hJ hF => ⟨rfl, J, rfl, hJ, hF1.tr hF⟩)
abbrev x3_readTest (fr : Nat) : ZX := (RX3, cX3_readTest, 3, none, "readTest", fr, 40 * fr, false)
set_option maxHeartbeats 4000000 in
theorem c3_readTest {n : Nat} {K : Nat → Nat × Nat} {R : Nat → Nat → Option Nat} {d t k l v r c e p o N : Nat} {tk tp tv : Nat → Nat} (hD : kRd n K R d t k l v r c e p o) (a dep : Nat) {sum : RS → RS} (hpf : kPt yX3_readSum cX3_readSum 4 a n K R d t k l v r c N tk tp tv dep sum) (hLb : Lb N sum) : kPt yX3_readTest cX3_readTest 3 (a + 1) n K R d t k l v r c N tk tp tv dep (rTest tk sum) := by
  intro I L s hT hA hS
  refine Zm_of (lg := false) (by decide) (fun _ => by simp [Value.category]) (fun _ => Nat.le_of_ble_eq_true rfl) ?_
  show Zf (x3_readTest (a + 1)) 0 0 0 (zargs [.ref d, .int (nI dep)]) [] (n, K, I, L, R) _
  obtain ⟨⟨⟨hda, hta, hka, hla, hva⟩, ⟨hdk, htk, hkk, hlk, hvk⟩, ⟨hd0, ht0, ht1, ht2⟩⟩, ⟨⟨hra, -⟩, ⟨hrk, -⟩, -⟩, hd1⟩ := id hD
  obtain ⟨⟨ndc, ndr, nrc⟩, -⟩ := kRd_ne hD
  refine z_aload_n (i := 0) dX3_readTest_0 rfl rfl ?_
  refine z_iload_n (i := 1) dX3_readTest_1 rfl rfl ?_
  refine z_callV (st := []) (mc2 := 0) (ms2 := 0) zi3_72 zv_yX3_readSum (hpf I L s hT hA hS) dX3_readTest_2 hda (congrArg Prod.fst hdk) rfl rfl rfl (show a + 1 ≤ a + 1 from Nat.le_refl _) (show 8 + (4 + 11) + 40 * a ≤ 40 * (a + 1) by omega) (Nat.le_of_ble_eq_true rfl) (by decide) (by decide) (fun r h2 hq => ?_)
  obtain ⟨rfl, J1, rfl, hS1, hF1⟩ := hq
  try simp only [Option.toList, List.nil_append]
  skip
  have hT1 := kTk_fr hD hT hF1
  have hA1 : (sum s).1 ≤ N := hLb _ hA
  unfold rTest
  generalize hs1e : sum s = s1 at *
  obtain ⟨A, f, out⟩ := s1
  have hA : A ≤ N := hA1
  obtain ⟨hN6, hN, hN0, hTi⟩ := id hT1
  obtain ⟨t1, t2, t3, t4, t5⟩ := hTi A hA
  have h2 : J1 d 2 = nI A := hS1.1
  have h3 : J1 d 3 = f := hS1.2.1
  dsimp only
  by_cases hc : f = 0 ∧ (tk A = 60 ∨ tk A = 61)
  · rw [if_pos hc]
    obtain ⟨hf, hm⟩ := hc
    subst hf
    have hlt : A < N := lt_of_tk hN0 hA rfl (by omega)
    have hs2 := kRS_step hS1 ndc ndr
    have hT2 := kTk_fr hD hT1 hs2.2
    have hbd : ∀ ls : Nat → Option Value, ls 0 = some (.ref d) → ls 1 = some (.int (nI dep)) → Zf (x3_readTest (a + 1)) 0 0 23 ls [] (n, K, J1, L, R) (kQR n K I L R d r c (rPut (if tk A = 60 then 5 else 6) 0 (sum (A + 1, 0, out)))) := by
      intro ls hl0 hl1
      refine z_aload_n (i := 0) dX3_readTest_23 rfl hl0 ?_
      refine z_gR zf3_9.g dX3_readTest_24 hda hdk hd0 ?_
      refine z_gR zf3_75 dX3_readTest_27 hta htk ht0 ?_
      refine z_aload_n (i := 0) dX3_readTest_30 rfl hl0 ?_
      refine z_gI zf3_24.g dX3_readTest_31 hda hdk ?_
      rw [h2]
      refine z_iald dX3_readTest_34 hka hkk (zvin (by omega) (by omega)) ?_
      rw [zcl (by omega), t1]
      refine z_istore_n (i := 2) dX3_readTest_35 rfl (Nat.le_of_ble_eq_true rfl) rfl ?_
      refine z_aload_n (i := 0) dX3_readTest_36 rfl hl0 ?_
      refine z_callV (st := []) (mc2 := 0) (ms2 := 0) zi3_57 zv_yX3_step (c3_step n K J1 L R d t k l v N tk tp tv hD.1 hT1 A hA h2 hlt) dX3_readTest_37 hda (congrArg Prod.fst hdk) rfl rfl rfl (show 0 + 1 ≤ a + 1 by omega) (show 8 + (1 + 11) + 0 ≤ 40 * (a + 1) by omega) (Nat.le_of_ble_eq_true rfl) (by decide) (by decide) (fun r h2 hq => ?_)
      obtain ⟨rfl, rfl⟩ := hq
      try simp only [Option.toList, List.nil_append]
      refine z_aload_n (i := 0) dX3_readTest_40 rfl hl0 ?_
      refine z_iload_n (i := 1) dX3_readTest_41 rfl hl1 ?_
      refine z_callV (st := []) (mc2 := 0) (ms2 := 0) zi3_72 zv_yX3_readSum (hpf _ L (A + 1, 0, out) hT2 hlt hs2.1) dX3_readTest_42 hda (congrArg Prod.fst hdk) rfl rfl rfl (show a + 1 ≤ a + 1 from Nat.le_refl _) (show 8 + (4 + 11) + 40 * a ≤ 40 * (a + 1) by omega) (Nat.le_of_ble_eq_true rfl) (by decide) (by decide) (fun r h2 hq => ?_)
      obtain ⟨rfl, J2, rfl, hS2, hF2⟩ := hq
      try simp only [Option.toList, List.nil_append]
      refine z_aload_n (i := 0) dX3_readTest_45 rfl hl0 ?_
      refine z_gR zf3_15.g dX3_readTest_46 hda hdk hd1 ?_
      refine z_sipush (v := 20000) dX3_readTest_49 (by decide) ?_
      refine z_iload_n (i := 2) dX3_readTest_52 rfl rfl ?_
      refine z_iadd dX3_readTest_53 ?_
      refine z_top (y := .int (kenc (if tk A = 60 then 5 else 6, 0))) (by rw [← ktst hm]) ?_
      refine z_callV (st := []) (mc2 := 0) (ms2 := 0) zi3_69 zv_yX4_put (c4_putG n K J2 L R r c e p o hD.2.1 _ _ (Nat.min_le_right _ _) hS2.2.2.1) dX3_readTest_54 hra (congrArg Prod.fst hrk) rfl rfl rfl (show 0 + 1 ≤ a + 1 by omega) (show 8 + (2 + 11) + 0 ≤ 40 * (a + 1) by omega) (Nat.le_of_ble_eq_true rfl) (by decide) (by decide) (fun r h2 hq => ?_)
      obtain ⟨rfl, rfl⟩ := hq
      try simp only [Option.toList, List.nil_append]
      refine z_vret dX3_readTest_57 rfl ?_
      have hp := kRS_put hS2 nrc ndc ndr (if tk A = 60 then 5 else 6) 0
      exact ⟨rfl, _, rfl, hp.1, hF1.tr (hs2.2.tr (hF2.tr hp.2))⟩
    by_cases e60 : tk A = 60
    · skip
      refine z_aload_n (i := 0) dX3_readTest_5 rfl rfl ?_
      refine z_bipush (v := 60) dX3_readTest_6 (by decide) ?_
      refine z_callV (st := []) (mc2 := 0) (ms2 := 0) zi3_33 zv_yX3_sees (c3_sees n K J1 L R d t k l v N tk tp tv hD.1 hT1 A hA h2 0 h3 60 (by omega)) dX3_readTest_8 hda (congrArg Prod.fst hdk) rfl rfl rfl (show 0 + 1 ≤ a + 1 by omega) (show 8 + (2 + 11) + 0 ≤ 40 * (a + 1) by omega) (Nat.le_of_ble_eq_true rfl) (by decide) (by decide) (fun r h2 hq => ?_)
      obtain ⟨rfl, rfl⟩ := hq
      refine z_if_ne 23 dX3_readTest_11 (by decide) (fun _ => ?_) (fun c_1 => absurd c_1 (fun q => absurd e60 (by simpa using (zb_0 _).mp q)))
      exact hbd _ rfl rfl
    · have e61 : tk A = 61 := hm.resolve_left e60
      refine z_aload_n (i := 0) dX3_readTest_5 rfl rfl ?_
      refine z_bipush (v := 60) dX3_readTest_6 (by decide) ?_
      refine z_callV (st := []) (mc2 := 0) (ms2 := 0) zi3_33 zv_yX3_sees (c3_sees n K J1 L R d t k l v N tk tp tv hD.1 hT1 A hA h2 0 h3 60 (by omega)) dX3_readTest_8 hda (congrArg Prod.fst hdk) rfl rfl rfl (show 0 + 1 ≤ a + 1 by omega) (show 8 + (2 + 11) + 0 ≤ 40 * (a + 1) by omega) (Nat.le_of_ble_eq_true rfl) (by decide) (by decide) (fun r h2 hq => ?_)
      obtain ⟨rfl, rfl⟩ := hq
      refine z_if_ne 23 dX3_readTest_11 (by decide) (fun c_1 => absurd c_1 (fun q => q (by rw [decide_eq_false e60, Bool.and_false]; rfl))) (fun _ => ?_)
      refine z_aload_n (i := 0) dX3_readTest_14 rfl rfl ?_
      refine z_bipush (v := 61) dX3_readTest_15 (by decide) ?_
      refine z_callV (st := []) (mc2 := 0) (ms2 := 0) zi3_33 zv_yX3_sees (c3_sees n K J1 L R d t k l v N tk tp tv hD.1 hT1 A hA h2 0 h3 61 (by omega)) dX3_readTest_17 hda (congrArg Prod.fst hdk) rfl rfl rfl (show 0 + 1 ≤ a + 1 by omega) (show 8 + (2 + 11) + 0 ≤ 40 * (a + 1) by omega) (Nat.le_of_ble_eq_true rfl) (by decide) (by decide) (fun r h2 hq => ?_)
      obtain ⟨rfl, rfl⟩ := hq
      refine z_if_eq 57 dX3_readTest_20 (by decide) (fun c_2 => absurd c_2 (fun q => absurd e61 (by simpa using (zb_0 _).mp q))) (fun _ => ?_)
      exact hbd _ rfl rfl
  · rw [if_neg hc]
    have b60 : (decide (f = 0) && decide (tk A = 60)) = false := by
      rw [Bool.and_eq_false_iff]
      by_cases e : f = 0
      · exact Or.inr (decide_eq_false (fun q => hc ⟨e, Or.inl q⟩))
      · exact Or.inl (decide_eq_false e)
    have b61 : (decide (f = 0) && decide (tk A = 61)) = false := by
      rw [Bool.and_eq_false_iff]
      by_cases e : f = 0
      · exact Or.inr (decide_eq_false (fun q => hc ⟨e, Or.inr q⟩))
      · exact Or.inl (decide_eq_false e)
    refine z_aload_n (i := 0) dX3_readTest_5 rfl rfl ?_
    refine z_bipush (v := 60) dX3_readTest_6 (by decide) ?_
    refine z_callV (st := []) (mc2 := 0) (ms2 := 0) zi3_33 zv_yX3_sees (c3_sees n K J1 L R d t k l v N tk tp tv hD.1 hT1 A hA h2 f h3 60 (by omega)) dX3_readTest_8 hda (congrArg Prod.fst hdk) rfl rfl rfl (show 0 + 1 ≤ a + 1 by omega) (show 8 + (2 + 11) + 0 ≤ 40 * (a + 1) by omega) (Nat.le_of_ble_eq_true rfl) (by decide) (by decide) (fun r h2 hq => ?_)
    obtain ⟨rfl, rfl⟩ := hq
    refine z_if_ne 23 dX3_readTest_11 (by decide) (fun c_1 => absurd c_1 (fun q => q (by rw [b60]; rfl))) (fun _ => ?_)
    refine z_aload_n (i := 0) dX3_readTest_14 rfl rfl ?_
    refine z_bipush (v := 61) dX3_readTest_15 (by decide) ?_
    refine z_callV (st := []) (mc2 := 0) (ms2 := 0) zi3_33 zv_yX3_sees (c3_sees n K J1 L R d t k l v N tk tp tv hD.1 hT1 A hA h2 f h3 61 (by omega)) dX3_readTest_17 hda (congrArg Prod.fst hdk) rfl rfl rfl (show 0 + 1 ≤ a + 1 by omega) (show 8 + (2 + 11) + 0 ≤ 40 * (a + 1) by omega) (Nat.le_of_ble_eq_true rfl) (by decide) (by decide) (fun r h2 hq => ?_)
    obtain ⟨rfl, rfl⟩ := hq
    refine z_if_eq 57 dX3_readTest_20 (by decide) (fun _ => ?_) (fun c_2 => absurd c_2 (fun q => q (by rw [b61]; rfl)))
    refine z_vret dX3_readTest_57 rfl ?_
    exact ⟨rfl, J1, rfl, hS1, hF1⟩
/-- the descent, by depth -/
theorem c3_desc {n : Nat} {K : Nat → Nat × Nat} {R : Nat → Nat → Option Nat} {d t k l v r c e p o N : Nat} {tk tp tv : Nat → Nat} (hD : kRd n K R d t k l v r c e p o) (hN0 : tk N = 0) : ∀ (k2 dep : Nat), dep + k2 = 5 → kPt yX3_readAnds cX3_readAnds 3 (4 * (k2 + 1)) n K R d t k l v r c N tk tp tv dep (rAnds tk tp tv 600 (k2 + 1) dep) := by
  intro k2
  induction k2 with
  | zero =>
    intro dep hd
    have h1 := c3_readPart (tk := tk) (tp := tp) (tv := tv) (N := N) hD 0 dep (by omega) (ands := rAnds tk tp tv 600 0 (dep + 1)) (fun h => by omega)
    have l1 := lb_part (tp := tp) (tv := tv) (ands := rAnds tk tp tv 600 0 (dep + 1)) hN0 (lb_ands tp tv hN0 600 0 (dep + 1)) dep
    have h2 := c3_readSum hD 1 dep h1 l1
    have l2 := lb_sum hN0 l1 600
    have h3 := c3_readTest hD 2 dep h2 l2
    have l3 := lb_test hN0 l2
    exact c3_readAnds hD 3 dep h3 l3
  | succ k2 ih =>
    intro dep hd
    have h1 := c3_readPart (tk := tk) (tp := tp) (tv := tv) (N := N) hD (4 * (k2 + 1)) dep (by omega) (ands := rAnds tk tp tv 600 (k2 + 1) (dep + 1)) (fun h => ⟨ih (dep + 1) (by omega), lb_ands tp tv hN0 600 (k2 + 1) (dep + 1)⟩)
    have l1 := lb_part (tp := tp) (tv := tv) (ands := rAnds tk tp tv 600 (k2 + 1) (dep + 1)) hN0 (lb_ands tp tv hN0 600 (k2 + 1) (dep + 1)) dep
    have h2 := c3_readSum hD (4 * (k2 + 1) + 1) dep h1 l1
    have l2 := lb_sum hN0 l1 600
    have h3 := c3_readTest hD (4 * (k2 + 1) + 1 + 1) dep h2 l2
    have l3 := lb_test hN0 l2
    exact c3_readAnds hD (4 * (k2 + 1) + 1 + 1 + 1) dep h3 l3
