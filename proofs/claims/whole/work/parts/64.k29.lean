theorem rWh_le {n : Nat} {tk tp tv : Nat → Nat} (hn : tk n = 0) : Lb n (rWh tk tp tv) := by
  intro s hs
  obtain ⟨A, f, o⟩ := s
  rw [rWh_e]
  have hA : A ≤ n := hs
  by_cases hf : f = 0
  · rw [if_pos hf]
    by_cases e : tk A = 4 ∨ (tk A = 2 ∧ tv A ≤ 5)
    · rw [if_pos e]
      have := lt_of_tk hn hA rfl (show tk A ≠ 0 by omega)
      exact this
    · rw [if_neg e]
      by_cases e2 : tk A = 2
      · rw [if_pos e2]; exact hA
      · rw [if_neg e2]; exact hA
  · rw [if_neg hf]; exact hA
abbrev kQw (n : Nat) (K : Nat → Nat × Nat) (I : Nat → Nat → Int32) (L : Nat → Nat → Int64) (R : Nat → Nat → Option Nat) (d r c : Nat) (tk tp tv : Nat → Nat) (s : RS) : Option Value → ZH → Prop := fun q h => ∃ (v : Int32) (J : Nat → Nat → Int32), q = some (.int v) ∧ h = (n, K, J, L, R) ∧ kRS J d r c (rWh tk tp tv s) ∧ kFr d r c I J ∧ ((rWh tk tp tv s).2.1 = 0 → s.2.1 = 0 ∧ v = rWp tk tv s.1)
abbrev x3_readWhich : ZX := (RX3, cX3_readWhich, 2, (some .int), "readWhich", 1, 40, false)
set_option maxHeartbeats 4000000 in
theorem c3_readWhich {n : Nat} {K : Nat → Nat × Nat} {R : Nat → Nat → Option Nat} {d t k l v r c e p o N : Nat} {tk tp tv : Nat → Nat} (hD : kRd n K R d t k l v r c e p o) (I : Nat → Nat → Int32) (L : Nat → Nat → Int64) (s : RS) (hT : kTk I t k l v N tk tp tv) (hA : s.1 ≤ N) (hS : kRS I d r c s) : Zm yX3_readWhich cX3_readWhich 2 (some .int) 1 40 0 0 [.ref d] (n, K, I, L, R) (kQw n K I L R d r c tk tp tv s) := by
  refine Zm_of (lg := false) (by decide) (fun _ => by simp [Value.category]) (fun _ => Nat.le_of_ble_eq_true rfl) ?_
  show Zf x3_readWhich 0 0 0 (zargs [.ref d]) [] (n, K, I, L, R) _
  obtain ⟨⟨⟨hda, hta, hka, hla, hva⟩, ⟨hdk, htk, hkk, hlk, hvk⟩, ⟨hd0, ht0, ht1, ht2⟩⟩, ⟨⟨hra, hca, hea, hpa, hoa⟩, ⟨hrk, hkc, hke, hkp, hko⟩, ⟨hr0, hr1, hr2, hr3⟩, ⟨nep, neo, npo⟩, ⟨nrc', nre, nrp, nro⟩, ⟨nce, ncp, nco⟩⟩, hd1⟩ := id hD
  obtain ⟨⟨ndc, ndr, nrc⟩, -⟩ := kRd_ne hD; have nde := kne hdk hke (by decide); have ndp := kne hdk hkp (by decide)
  obtain ⟨A, f, out⟩ := s
  have hA : A ≤ N := hA
  obtain ⟨hN6, hN, hN0, hTi⟩ := id hT
  obtain ⟨t1, t2, t3, t4, t5⟩ := hTi A hA
  have h2 : I d 2 = nI A := hS.1
  have h3 : I d 3 = f := hS.2.1
  unfold kQw
  rw [rWh_e]
  by_cases hf : f = 0
  · subst hf
    rw [if_pos (show (0 : Int32) = 0 from rfl)]
    have hne1 := fltp_ne (tp := tp) (k := 1) (A := A) (by decide) (by decide) t3
    have hne4 := fltp_ne (tp := tp) (k := 4) (A := A) (by decide) (by decide) t3
    by_cases e4 : tk A = 4
    · rw [if_pos (Or.inl e4)]
      have hlt := lt_of_tk hN0 hA e4 (by decide)
      have hs1 := kRS_step hS ndc ndr
      refine z_aload_n (i := 0) dX3_readWhich_0 rfl rfl ?_
      refine z_iconst (v := 4) dX3_readWhich_1 (by decide) ?_
      refine z_callV (st := []) (mc2 := 0) (ms2 := 0) zi3_33 zv_yX3_sees (c3_sees n K I L R d t k l v N tk tp tv hD.1 hT A hA h2 0 h3 4 (by omega)) dX3_readWhich_2 hda (congrArg Prod.fst hdk) rfl rfl rfl (by decide) (by decide) (Nat.le_of_ble_eq_true rfl) (by decide) (by decide) (fun r h2 hq => ?_)
      obtain ⟨rfl, rfl⟩ := hq
      refine z_if_eq 14 dX3_readWhich_5 (by decide) (fun c_1 => absurd c_1 (fun q => absurd e4 (by simpa using (zb_0 _).mp q))) (fun _ => ?_)
      refine z_aload_n (i := 0) dX3_readWhich_8 rfl rfl ?_
      refine z_callV (st := []) (mc2 := 0) (ms2 := 0) zi3_57 zv_yX3_step (c3_step n K I L R d t k l v N tk tp tv hD.1 hT A hA h2 hlt) dX3_readWhich_9 hda (congrArg Prod.fst hdk) rfl rfl rfl (by decide) (by decide) (Nat.le_of_ble_eq_true rfl) (by decide) (by decide) (fun r h2 hq => ?_)
      obtain ⟨rfl, rfl⟩ := hq
      try simp only [Option.toList, List.nil_append]
      refine z_iconst (v := (-1)) dX3_readWhich_12 (by decide) ?_
      refine z_iret dX3_readWhich_13 rfl ?_
      exact ⟨-1, _, rfl, rfl, hs1.1, hs1.2, fun _ => ⟨by trivial, by unfold rWp; rw [if_pos e4]⟩⟩
    · have b4 : zb (decide ((0 : Int32) = 0) && decide (tk A = 4)) = 0 := by rw [decide_eq_false e4, Bool.and_false]; rfl
      by_cases e2 : tk A = 2
      · obtain ⟨t6, t7⟩ := t5 e2
        by_cases e5 : tv A ≤ 5
        · rw [if_pos (Or.inr ⟨e2, e5⟩)]
          have hs1 := kRS_take (tk := tk) (tp := tp) hS ndc ndr 2
          rw [rTake_y e2] at hs1
          refine z_aload_n (i := 0) dX3_readWhich_0 rfl rfl ?_
          refine z_iconst (v := 4) dX3_readWhich_1 (by decide) ?_
          refine z_callV (st := []) (mc2 := 0) (ms2 := 0) zi3_33 zv_yX3_sees (c3_sees n K I L R d t k l v N tk tp tv hD.1 hT A hA h2 0 h3 4 (by omega)) dX3_readWhich_2 hda (congrArg Prod.fst hdk) rfl rfl rfl (by decide) (by decide) (Nat.le_of_ble_eq_true rfl) (by decide) (by decide) (fun r h2 hq => ?_)
          obtain ⟨rfl, rfl⟩ := hq
          refine z_if_eq 14 dX3_readWhich_5 (by decide) (fun _ => ?_) (fun c_1 => absurd c_1 (fun q => q b4))
          refine z_aload_n (i := 0) dX3_readWhich_14 rfl rfl ?_
          refine z_gR zf3_9.g dX3_readWhich_15 hda hdk hd0 ?_
          refine z_gR zf3_60 dX3_readWhich_18 hta htk ht2 ?_
          refine z_aload_n (i := 0) dX3_readWhich_21 rfl rfl ?_
          refine z_gI zf3_24.g dX3_readWhich_22 hda hdk ?_
          rw [h2]
          refine z_iald dX3_readWhich_25 hva hvk (zvin (by omega) (by omega)) ?_
          rw [zcl (by omega), t6]
          refine z_istore_n (i := 1) dX3_readWhich_26 rfl (by decide) rfl ?_
          refine z_aload_n (i := 0) dX3_readWhich_27 rfl rfl ?_
          refine z_iconst (v := 2) dX3_readWhich_28 (by decide) ?_
          refine z_callV (st := []) (mc2 := 0) (ms2 := 0) zi3_33 zv_yX3_sees (c3_sees n K I L R d t k l v N tk tp tv hD.1 hT A hA h2 0 h3 2 (by omega)) dX3_readWhich_29 hda (congrArg Prod.fst hdk) rfl rfl rfl (by decide) (by decide) (Nat.le_of_ble_eq_true rfl) (by decide) (by decide) (fun r h2 hq => ?_)
          obtain ⟨rfl, rfl⟩ := hq
          refine z_if_eq 46 dX3_readWhich_32 (by decide) (fun c_2 => absurd c_2 (fun q => absurd e2 (by simpa using (zb_0 _).mp q))) (fun _ => ?_)
          refine z_iload_n (i := 1) dX3_readWhich_35 rfl rfl ?_
          refine z_bipush (v := 6) dX3_readWhich_36 (by decide) ?_
          refine z_icmp_lt 46 dX3_readWhich_38 (by decide) (fun _ => ?_) (fun c_3 => absurd ((zlt (a := tv A) (b := 6) (by omega) (by omega)).mpr (by omega)) c_3)
          refine z_aload_n (i := 0) dX3_readWhich_46 rfl rfl ?_
          refine z_iconst (v := 2) dX3_readWhich_47 (by decide) ?_
          refine z_callV (st := []) (mc2 := 0) (ms2 := 0) zi3_44 zv_yX3_take (c3_take n K I L R d t k l v N tk tp tv hD.1 hT A hA h2 0 h3 2 (by omega) (by decide)) dX3_readWhich_48 hda (congrArg Prod.fst hdk) rfl rfl rfl (by decide) (by decide) (Nat.le_of_ble_eq_true rfl) (by decide) (by decide) (fun r h2 hq => ?_)
          obtain ⟨rfl, rfl⟩ := hq
          try simp only [Option.toList, List.nil_append]
          refine z_iload_n (i := 1) dX3_readWhich_51 rfl rfl ?_
          refine z_iret dX3_readWhich_52 rfl ?_
          exact ⟨_, _, rfl, rfl, hs1.1, hs1.2, fun _ => ⟨by trivial, by unfold rWp; rw [if_neg e4]⟩⟩
        · rw [if_neg (show ¬ (tk A = 4 ∨ (tk A = 2 ∧ tv A ≤ 5)) by omega), if_pos e2]
          have hf1 := kRS_flt hS ndc ndr (fltp tp 4 A)
          have hs1 := kRS_take (tk := tk) (tp := tp) hf1.1 ndc ndr 2
          rw [rTake_f hne4] at hs1
          refine z_aload_n (i := 0) dX3_readWhich_0 rfl rfl ?_
          refine z_iconst (v := 4) dX3_readWhich_1 (by decide) ?_
          refine z_callV (st := []) (mc2 := 0) (ms2 := 0) zi3_33 zv_yX3_sees (c3_sees n K I L R d t k l v N tk tp tv hD.1 hT A hA h2 0 h3 4 (by omega)) dX3_readWhich_2 hda (congrArg Prod.fst hdk) rfl rfl rfl (by decide) (by decide) (Nat.le_of_ble_eq_true rfl) (by decide) (by decide) (fun r h2 hq => ?_)
          obtain ⟨rfl, rfl⟩ := hq
          refine z_if_eq 14 dX3_readWhich_5 (by decide) (fun _ => ?_) (fun c_1 => absurd c_1 (fun q => q b4))
          refine z_aload_n (i := 0) dX3_readWhich_14 rfl rfl ?_
          refine z_gR zf3_9.g dX3_readWhich_15 hda hdk hd0 ?_
          refine z_gR zf3_60 dX3_readWhich_18 hta htk ht2 ?_
          refine z_aload_n (i := 0) dX3_readWhich_21 rfl rfl ?_
          refine z_gI zf3_24.g dX3_readWhich_22 hda hdk ?_
          rw [h2]
          refine z_iald dX3_readWhich_25 hva hvk (zvin (by omega) (by omega)) ?_
          rw [zcl (by omega), t6]
          refine z_istore_n (i := 1) dX3_readWhich_26 rfl (by decide) rfl ?_
          refine z_aload_n (i := 0) dX3_readWhich_27 rfl rfl ?_
          refine z_iconst (v := 2) dX3_readWhich_28 (by decide) ?_
          refine z_callV (st := []) (mc2 := 0) (ms2 := 0) zi3_33 zv_yX3_sees (c3_sees n K I L R d t k l v N tk tp tv hD.1 hT A hA h2 0 h3 2 (by omega)) dX3_readWhich_29 hda (congrArg Prod.fst hdk) rfl rfl rfl (by decide) (by decide) (Nat.le_of_ble_eq_true rfl) (by decide) (by decide) (fun r h2 hq => ?_)
          obtain ⟨rfl, rfl⟩ := hq
          refine z_if_eq 46 dX3_readWhich_32 (by decide) (fun c_2 => absurd c_2 (fun q => absurd e2 (by simpa using (zb_0 _).mp q))) (fun _ => ?_)
          refine z_iload_n (i := 1) dX3_readWhich_35 rfl rfl ?_
          refine z_bipush (v := 6) dX3_readWhich_36 (by decide) ?_
          refine z_icmp_lt 46 dX3_readWhich_38 (by decide) (fun c_3 => absurd c_3 (fun q => by have := (zlt (a := tv A) (b := 6) (by omega) (by omega)).mp q; omega)) (fun _ => ?_)
          refine z_aload_n (i := 0) dX3_readWhich_41 rfl rfl ?_
          refine z_iconst (v := 4) dX3_readWhich_42 (by decide) ?_
          refine z_callV (st := []) (mc2 := 0) (ms2 := 0) zi3_41 zv_yX3_refuse (c3_refuse n K I L R d t k l v N tk tp tv hD.1 hT A hA h2 0 h3 4) dX3_readWhich_43 hda (congrArg Prod.fst hdk) rfl rfl rfl (by decide) (by decide) (Nat.le_of_ble_eq_true rfl) (by decide) (by decide) (fun r h2 hq => ?_)
          obtain ⟨rfl, rfl⟩ := hq
          rw [if_pos (show (0 : Int32) = 0 from rfl)]
          try simp only [Option.toList, List.nil_append]
          refine z_aload_n (i := 0) dX3_readWhich_46 rfl rfl ?_
          refine z_iconst (v := 2) dX3_readWhich_47 (by decide) ?_
          refine z_callV (st := []) (mc2 := 0) (ms2 := 0) zi3_44 zv_yX3_take (c3_take n K _ L R d t k l v N tk tp tv hD.1 (kTk_fr hD hT hf1.2) A hA hf1.1.1 (fltp tp 4 A) hf1.1.2.1 2 (by omega) (by decide)) dX3_readWhich_48 hda (congrArg Prod.fst hdk) rfl rfl rfl (by decide) (by decide) (Nat.le_of_ble_eq_true rfl) (by decide) (by decide) (fun r h2 hq => ?_)
          obtain ⟨rfl, rfl⟩ := hq
          try simp only [Option.toList, List.nil_append]
          refine z_iload_n (i := 1) dX3_readWhich_51 rfl rfl ?_
          refine z_iret dX3_readWhich_52 rfl ?_
          exact ⟨_, _, rfl, rfl, hs1.1, hf1.2.tr hs1.2, fun q => absurd q hne4⟩
      · rw [if_neg (show ¬ (tk A = 4 ∨ (tk A = 2 ∧ tv A ≤ 5)) by omega), if_neg e2]
        have hs1 := kRS_take (tk := tk) (tp := tp) hS ndc ndr 2
        rw [rTake_n e2] at hs1
        refine z_aload_n (i := 0) dX3_readWhich_0 rfl rfl ?_
        refine z_iconst (v := 4) dX3_readWhich_1 (by decide) ?_
        refine z_callV (st := []) (mc2 := 0) (ms2 := 0) zi3_33 zv_yX3_sees (c3_sees n K I L R d t k l v N tk tp tv hD.1 hT A hA h2 0 h3 4 (by omega)) dX3_readWhich_2 hda (congrArg Prod.fst hdk) rfl rfl rfl (by decide) (by decide) (Nat.le_of_ble_eq_true rfl) (by decide) (by decide) (fun r h2 hq => ?_)
        obtain ⟨rfl, rfl⟩ := hq
        refine z_if_eq 14 dX3_readWhich_5 (by decide) (fun _ => ?_) (fun c_1 => absurd c_1 (fun q => q b4))
        refine z_aload_n (i := 0) dX3_readWhich_14 rfl rfl ?_
        refine z_gR zf3_9.g dX3_readWhich_15 hda hdk hd0 ?_
        refine z_gR zf3_60 dX3_readWhich_18 hta htk ht2 ?_
        refine z_aload_n (i := 0) dX3_readWhich_21 rfl rfl ?_
        refine z_gI zf3_24.g dX3_readWhich_22 hda hdk ?_
        rw [h2]
        refine z_iald dX3_readWhich_25 hva hvk (zvin (by omega) (by omega)) ?_
        refine z_istore_n (i := 1) dX3_readWhich_26 rfl (by decide) rfl ?_
        refine z_aload_n (i := 0) dX3_readWhich_27 rfl rfl ?_
        refine z_iconst (v := 2) dX3_readWhich_28 (by decide) ?_
        refine z_callV (st := []) (mc2 := 0) (ms2 := 0) zi3_33 zv_yX3_sees (c3_sees n K I L R d t k l v N tk tp tv hD.1 hT A hA h2 0 h3 2 (by omega)) dX3_readWhich_29 hda (congrArg Prod.fst hdk) rfl rfl rfl (by decide) (by decide) (Nat.le_of_ble_eq_true rfl) (by decide) (by decide) (fun r h2 hq => ?_)
        obtain ⟨rfl, rfl⟩ := hq
        refine z_if_eq 46 dX3_readWhich_32 (by decide) (fun _ => ?_) (fun c_2 => absurd c_2 (fun q => q (by rw [decide_eq_false e2, Bool.and_false]; rfl)))
        refine z_aload_n (i := 0) dX3_readWhich_46 rfl rfl ?_
        refine z_iconst (v := 2) dX3_readWhich_47 (by decide) ?_
        refine z_callV (st := []) (mc2 := 0) (ms2 := 0) zi3_44 zv_yX3_take (c3_take n K I L R d t k l v N tk tp tv hD.1 hT A hA h2 0 h3 2 (by omega) (by decide)) dX3_readWhich_48 hda (congrArg Prod.fst hdk) rfl rfl rfl (by decide) (by decide) (Nat.le_of_ble_eq_true rfl) (by decide) (by decide) (fun r h2 hq => ?_)
        obtain ⟨rfl, rfl⟩ := hq
        try simp only [Option.toList, List.nil_append]
        refine z_iload_n (i := 1) dX3_readWhich_51 rfl rfl ?_
        refine z_iret dX3_readWhich_52 rfl ?_
        exact ⟨_, _, rfl, rfl, hs1.1, hs1.2, fun q => absurd q hne1⟩
  · rw [if_neg hf]
    have hs1 := kRS_take (tk := tk) (tp := tp) hS ndc ndr 2
    rw [rTake_f hf] at hs1
    refine z_aload_n (i := 0) dX3_readWhich_0 rfl rfl ?_
    refine z_iconst (v := 4) dX3_readWhich_1 (by decide) ?_
    refine z_callV (st := []) (mc2 := 0) (ms2 := 0) zi3_33 zv_yX3_sees (c3_sees n K I L R d t k l v N tk tp tv hD.1 hT A hA h2 f h3 4 (by omega)) dX3_readWhich_2 hda (congrArg Prod.fst hdk) rfl rfl rfl (by decide) (by decide) (Nat.le_of_ble_eq_true rfl) (by decide) (by decide) (fun r h2 hq => ?_)
    obtain ⟨rfl, rfl⟩ := hq
    refine z_if_eq 14 dX3_readWhich_5 (by decide) (fun _ => ?_) (fun c_1 => absurd c_1 (fun q => q (by rw [decide_eq_false hf]; rfl)))
    refine z_aload_n (i := 0) dX3_readWhich_14 rfl rfl ?_
    refine z_gR zf3_9.g dX3_readWhich_15 hda hdk hd0 ?_
    refine z_gR zf3_60 dX3_readWhich_18 hta htk ht2 ?_
    refine z_aload_n (i := 0) dX3_readWhich_21 rfl rfl ?_
    refine z_gI zf3_24.g dX3_readWhich_22 hda hdk ?_
    rw [h2]
    refine z_iald dX3_readWhich_25 hva hvk (zvin (by omega) (by omega)) ?_
    refine z_istore_n (i := 1) dX3_readWhich_26 rfl (by decide) rfl ?_
    refine z_aload_n (i := 0) dX3_readWhich_27 rfl rfl ?_
    refine z_iconst (v := 2) dX3_readWhich_28 (by decide) ?_
    refine z_callV (st := []) (mc2 := 0) (ms2 := 0) zi3_33 zv_yX3_sees (c3_sees n K I L R d t k l v N tk tp tv hD.1 hT A hA h2 f h3 2 (by omega)) dX3_readWhich_29 hda (congrArg Prod.fst hdk) rfl rfl rfl (by decide) (by decide) (Nat.le_of_ble_eq_true rfl) (by decide) (by decide) (fun r h2 hq => ?_)
    obtain ⟨rfl, rfl⟩ := hq
    refine z_if_eq 46 dX3_readWhich_32 (by decide) (fun _ => ?_) (fun c_2 => absurd c_2 (fun q => q (by rw [decide_eq_false hf]; rfl)))
    refine z_aload_n (i := 0) dX3_readWhich_46 rfl rfl ?_
    refine z_iconst (v := 2) dX3_readWhich_47 (by decide) ?_
    refine z_callV (st := []) (mc2 := 0) (ms2 := 0) zi3_44 zv_yX3_take (c3_take n K I L R d t k l v N tk tp tv hD.1 hT A hA h2 f h3 2 (by omega) (by decide)) dX3_readWhich_48 hda (congrArg Prod.fst hdk) rfl rfl rfl (by decide) (by decide) (Nat.le_of_ble_eq_true rfl) (by decide) (by decide) (fun r h2 hq => ?_)
    obtain ⟨rfl, rfl⟩ := hq
    try simp only [Option.toList, List.nil_append]
    refine z_iload_n (i := 1) dX3_readWhich_51 rfl rfl ?_
    refine z_iret dX3_readWhich_52 rfl ?_
    exact ⟨_, _, rfl, rfl, hs1.1, hs1.2, fun q => absurd q hf⟩
/-! a line of the reader -/
def kF2 (d r c e p : Nat) (I J : Nat → Nat → Int32) : Prop := (∀ a, a ≠ c → a ≠ r → a ≠ d → a ≠ e → a ≠ p → J a = I a) ∧ (∀ j, j ≠ 4 → j ≠ 6 → J r j = I r j) ∧ ∀ j, j ≠ 2 → j ≠ 3 → J d j = I d j
theorem kF2.rf (d r c e p : Nat) (I : Nat → Nat → Int32) : kF2 d r c e p I I := ⟨fun _ _ _ _ _ _ => rfl, fun _ _ _ => rfl, fun _ _ _ => rfl⟩
theorem kF2.tr {d r c e p : Nat} {I J M : Nat → Nat → Int32} (h : kF2 d r c e p I J) (h2 : kF2 d r c e p J M) : kF2 d r c e p I M := ⟨fun a x y z w u => (h2.1 a x y z w u).trans (h.1 a x y z w u), fun j x y => (h2.2.1 j x y).trans (h.2.1 j x y), fun j x y => (h2.2.2 j x y).trans (h.2.2 j x y)⟩
theorem kFr.f2 {d r c : Nat} (e p : Nat) {I J : Nat → Nat → Int32} (h : kFr d r c I J) : kF2 d r c e p I J := ⟨fun a x y z _ _ => h.1 a x y z, fun j x _ => h.2.1 j x, h.2.2⟩
abbrev kQl (n : Nat) (K : Nat → Nat × Nat) (I : Nat → Nat → Int32) (L : Nat → Nat → Int64) (R : Nat → Nat → Option Nat) (d r c e p : Nat) (tk tp tv : Nat → Nat) (A line : Nat) (out : List (Nat × Int32)) : Option Value → ZH → Prop := fun q h => q = none ∧ ∃ J : Nat → Nat → Int32, h = (n, K, J, L, R) ∧ kF2 d r c e p I J ∧ J d 3 = (if tk A = 3 ∧ line = 16 then fltp tp 5 A else (rLine tk tp tv A out).2.1) ∧ (¬ (tk A = 3 ∧ line = 16) → (rLine tk tp tv A out).2.1 = 0 → kRS J d r c (rLine tk tp tv A out) ∧ J r 6 = nI (line + 1) ∧ J e = va_up (I e) line (nI (min (rLine tk tp tv A out).2.2.length 600)) ∧ J p = va_up (I p) line (rWp tk tv (A + 1)))
theorem rLine_3 {tk tp tv : Nat → Nat} {A : Nat} {out : List (Nat × Int32)} (ht : tp A ≤ 600) (h : (rLine tk tp tv A out).2.1 = 0) : tk A = 3 := by
  by_cases e : tk A = 3
  · exact e
  · have hne := fltp_ne (tp := tp) (k := 1) (A := A) (by decide) (by decide) ht
    unfold rLine at h
    rw [rTake_n e, rWh_e, if_neg hne, rEnd_f (s := (A, fltp tp 1 A, out)) hne] at h
    exact absurd h hne
abbrev x3_readLine : ZX := (RX3, cX3_readLine, 3, none, "readLine", 25, 1000, false)
set_option maxHeartbeats 4000000 in
theorem c3_readLine {n : Nat} {K : Nat → Nat × Nat} {R : Nat → Nat → Option Nat} {d t k l v r c e p o N : Nat} {tk tp tv : Nat → Nat} (hD : kRd n K R d t k l v r c e p o) (I : Nat → Nat → Int32) (L : Nat → Nat → Int64) (A line : Nat) (out : List (Nat × Int32)) (hT : kTk I t k l v N tk tp tv) (hA : A ≤ N) (hS : kRS I d r c (A, 0, out)) (hline : line ≤ 16) (h6 : I r 6 = nI line) : Zm yX3_readLine cX3_readLine 3 none 25 1000 0 0 [.ref d, .int (nI line)] (n, K, I, L, R) (kQl n K I L R d r c e p tk tp tv A line out) := by
  refine Zm_of (lg := false) (by decide) (fun _ => by simp [Value.category]) (fun _ => Nat.le_of_ble_eq_true rfl) ?_
  show Zf x3_readLine 0 0 0 (zargs [.ref d, .int (nI line)]) [] (n, K, I, L, R) _
  obtain ⟨⟨⟨hda, hta, hka, hla, hva⟩, ⟨hdk, htk, hkk, hlk, hvk⟩, ⟨hd0, ht0, ht1, ht2⟩⟩, ⟨⟨hra, hca, hea, hpa, hoa⟩, ⟨hrk, hkc, hke, hkp, hko⟩, ⟨hr0, hr1, hr2, hr3⟩, ⟨nep, neo, npo⟩, ⟨nrc', nre, nrp, nro⟩, ⟨nce, ncp, nco⟩⟩, hd1⟩ := id hD
  obtain ⟨⟨ndc, ndr, nrc⟩, -⟩ := kRd_ne hD; have nde := kne hdk hke (by decide); have ndp := kne hdk hkp (by decide)
  obtain ⟨hN6, hN, hN0, hTi⟩ := id hT
  obtain ⟨t1, t2, t3, t4, t5⟩ := hTi A hA
  have h2 : I d 2 = nI A := hS.1
  have h3 : I d 3 = 0 := hS.2.1
  by_cases hx : tk A = 3 ∧ line = 16
  · have hf1 := kRS_flt hS ndc ndr (fltp tp 5 A)
    refine z_aload_n (i := 0) dX3_readLine_0 rfl rfl ?_
    refine z_iconst (v := 3) dX3_readLine_1 (by decide) ?_
    refine z_callV (st := []) (mc2 := 0) (ms2 := 0) zi3_33 zv_yX3_sees (c3_sees n K I L R d t k l v N tk tp tv hD.1 hT A hA h2 0 h3 3 (by omega)) dX3_readLine_2 hda (congrArg Prod.fst hdk) rfl rfl rfl (by decide) (by decide) (Nat.le_of_ble_eq_true rfl) (by decide) (by decide) (fun r h2 hq => ?_)
    obtain ⟨rfl, rfl⟩ := hq
    refine z_if_eq 20 dX3_readLine_5 (by decide) (fun c_1 => absurd c_1 (fun q => absurd hx.1 (by simpa using (zb_0 _).mp q))) (fun _ => ?_)
    refine z_iload_n (i := 1) dX3_readLine_8 rfl rfl ?_
    refine z_bipush (v := 16) dX3_readLine_9 (by decide) ?_
    refine z_icmp_lt 20 dX3_readLine_11 (by decide) (fun c_2 => absurd c_2 (fun q => by have := (zlt (a := line) (b := 16) (by omega) (by omega)).mp q; omega)) (fun _ => ?_)
    refine z_aload_n (i := 0) dX3_readLine_14 rfl rfl ?_
    refine z_iconst (v := 5) dX3_readLine_15 (by decide) ?_
    refine z_callV (st := []) (mc2 := 0) (ms2 := 0) zi3_41 zv_yX3_refuse (c3_refuse n K I L R d t k l v N tk tp tv hD.1 hT A hA h2 0 h3 5) dX3_readLine_16 hda (congrArg Prod.fst hdk) rfl rfl rfl (by decide) (by decide) (Nat.le_of_ble_eq_true rfl) (by decide) (by decide) (fun r h2 hq => ?_)
    obtain ⟨rfl, rfl⟩ := hq
    rw [if_pos (show (0 : Int32) = 0 from rfl)]
    try simp only [Option.toList, List.nil_append]
    refine z_vret dX3_readLine_19 rfl ?_
    exact ⟨rfl, _, rfl, hf1.2.f2 e p, by rw [if_pos hx]; exact hf1.1.2.1, fun q => absurd hx q⟩
  · have h20 : Zf x3_readLine 0 0 20 (zargs [.ref d, .int (nI line)]) [] (n, K, I, L, R) (kQl n K I L R d r c e p tk tp tv A line out) := by
      have s1 := kRS_take (tk := tk) (tp := tp) hS ndc ndr 3
      have l1 : (rTake tk tp 3 (A, 0, out)).1 ≤ N := rTake_le hN0 (by decide) (A, 0, out) hA
      have T1 := kTk_fr hD hT s1.2
      have l2 : (rWh tk tp tv (rTake tk tp 3 (A, 0, out))).1 ≤ N := rWh_le hN0 _ l1
      have l3 : (rTake tk tp 5 (rWh tk tp tv (rTake tk tp 3 (A, 0, out)))).1 ≤ N := rTake_le hN0 (by decide) _ l2
      have hLn : rTake tk tp 59 (rAnds tk tp tv 600 6 0 (rTake tk tp 5 (rWh tk tp tv (rTake tk tp 3 (A, 0, out))))) = rLine tk tp tv A out := by unfold rLine rEnd; rfl
      have l4 : (rAnds tk tp tv 600 6 0 (rTake tk tp 5 (rWh tk tp tv (rTake tk tp 3 (A, 0, out))))).1 ≤ N := lb_ands tp tv hN0 600 6 0 _ l3
      refine z_aload_n (i := 0) dX3_readLine_20 rfl rfl ?_
      refine z_iconst (v := 3) dX3_readLine_21 (by decide) ?_
      refine z_callV (st := []) (mc2 := 0) (ms2 := 0) zi3_44 zv_yX3_take (c3_take n K I L R d t k l v N tk tp tv hD.1 hT A hA h2 0 h3 3 (by omega) (by decide)) dX3_readLine_22 hda (congrArg Prod.fst hdk) rfl rfl rfl (by decide) (by decide) (Nat.le_of_ble_eq_true rfl) (by decide) (by decide) (fun r h2 hq => ?_)
      obtain ⟨rfl, rfl⟩ := hq
      try simp only [Option.toList, List.nil_append]
      refine z_aload_n (i := 0) dX3_readLine_25 rfl rfl ?_
      refine z_callV (st := []) (mc2 := 0) (ms2 := 0) zi3_47 zv_yX3_readWhich (c3_readWhich hD _ L (rTake tk tp 3 (A, 0, out)) T1 l1 s1.1) dX3_readLine_26 hda (congrArg Prod.fst hdk) rfl rfl rfl (by decide) (by decide) (Nat.le_of_ble_eq_true rfl) (by decide) (by decide) (fun r h2 hq => ?_)
      obtain ⟨q, J2, rfl, rfl, S2, F2, hq2⟩ := hq
      have T2 := kTk_fr hD T1 F2
      have s3 := kRS_take (tk := tk) (tp := tp) S2 ndc ndr 5
      have T3 := kTk_fr hD T2 s3.2
      refine z_istore_n (i := 2) dX3_readLine_29 rfl (by decide) rfl ?_
      refine z_aload_n (i := 0) dX3_readLine_30 rfl rfl ?_
      refine z_iconst (v := 5) dX3_readLine_31 (by decide) ?_
      refine z_callV (st := []) (mc2 := 0) (ms2 := 0) zi3_44 zv_yX3_take (c3_take n K J2 L R d t k l v N tk tp tv hD.1 T2 _ l2 S2.1 _ S2.2.1 5 (by omega) (by decide)) dX3_readLine_32 hda (congrArg Prod.fst hdk) rfl rfl rfl (by decide) (by decide) (Nat.le_of_ble_eq_true rfl) (by decide) (by decide) (fun r h2 hq => ?_)
      obtain ⟨rfl, rfl⟩ := hq
      try simp only [Option.toList, List.nil_append]
      refine z_aload_n (i := 0) dX3_readLine_35 rfl rfl ?_
      refine z_iconst (v := 0) dX3_readLine_36 (by decide) ?_
      refine z_callV (st := []) (mc2 := 0) (ms2 := 0) zi3_51 zv_yX3_readAnds (c3_desc (tk := tk) (tp := tp) (tv := tv) (N := N) hD hN0 5 0 rfl _ L _ T3 l3 s3.1) dX3_readLine_37 hda (congrArg Prod.fst hdk) rfl rfl rfl (by decide) (by decide) (Nat.le_of_ble_eq_true rfl) (by decide) (by decide) (fun r h2 hq => ?_)
      obtain ⟨rfl, J4, rfl, S4a, F4⟩ := hq
      have S4 : kRS J4 d r c (rAnds tk tp tv 600 6 0 (rTake tk tp 5 (rWh tk tp tv (rTake tk tp 3 (A, 0, out))))) := S4a
      have T4 := kTk_fr hD T3 F4
      have s5 := kRS_take (tk := tk) (tp := tp) S4 ndc ndr 59
      rw [hLn] at s5
      have FF : kFr d r c I _ := s1.2.tr (F2.tr (s3.2.tr (F4.tr s5.2)))
      try simp only [Option.toList, List.nil_append]
      refine z_aload_n (i := 0) dX3_readLine_40 rfl rfl ?_
      refine z_bipush (v := 59) dX3_readLine_41 (by decide) ?_
      refine z_callV (st := []) (mc2 := 0) (ms2 := 0) zi3_44 zv_yX3_take (c3_take n K J4 L R d t k l v N tk tp tv hD.1 T4 _ l4 S4.1 _ S4.2.1 59 (by omega) (by decide)) dX3_readLine_43 hda (congrArg Prod.fst hdk) rfl rfl rfl (by decide) (by decide) (Nat.le_of_ble_eq_true rfl) (by decide) (by decide) (fun r h2 hq => ?_)
      obtain ⟨rfl, rfl⟩ := hq
      try simp only [Option.toList, List.nil_append]
      refine z_aload_n (i := 0) dX3_readLine_46 rfl rfl ?_
      refine z_gI zf3_28.g dX3_readLine_47 hda hdk ?_
      refine z_top (y := .int (rLine tk tp tv A out).2.1) (congrArg Value.int s5.1.2.1) ?_
      refine z_if_ne 61 dX3_readLine_50 (by decide) (fun c_1 => ?_) (fun c_1 => ?_)
      · skip
        refine z_vret dX3_readLine_61 rfl ?_
        exact ⟨rfl, _, rfl, FF.f2 e p, by rw [if_neg hx]; exact s5.1.2.1, fun _ w => absurd w c_1⟩
      · skip
        have hz : (rLine tk tp tv A out).2.1 = 0 := c_1
        have h3A := rLine_3 t3 hz
        have hl16 : line < 16 := by
          have : line ≠ 16 := fun w => hx ⟨h3A, w⟩
          omega
        refine z_aload_n (i := 0) dX3_readLine_53 rfl rfl ?_
        refine z_gR zf3_15.g dX3_readLine_54 hda hdk hd1 ?_
        refine z_iload_n (i := 2) dX3_readLine_57 rfl rfl ?_
        refine z_callV (st := []) (mc2 := 0) (ms2 := 0) zi3_54 zv_yX4_endLine (c4_endLine n K _ L R r c e p o hD.2.1 _ line _ hl16 s5.1.2.2.1 (by rw [FF.2.1 6 (by decide)]; exact h6)) dX3_readLine_58 hra (congrArg Prod.fst hrk) rfl rfl rfl (by decide) (by decide) (Nat.le_of_ble_eq_true rfl) (by decide) (by decide) (fun r h2 hq => ?_)
        obtain ⟨rfl, rfl⟩ := hq
        try simp only [Option.toList, List.nil_append]
        refine z_vret dX3_readLine_61 rfl ?_
        have hw2 : (rWh tk tp tv (rTake tk tp 3 (A, 0, out))).2.1 = 0 := by
          by_cases w : (rWh tk tp tv (rTake tk tp 3 (A, 0, out))).2.1 = 0
          · exact w
          · have hz2 := hz
            unfold rLine at hz2
            rw [rEnd_f w] at hz2
            exact absurd hz2 w
        have hqv := (hq2 hw2).2
        rw [rTake_y h3A] at hqv
        obtain ⟨k1, k2, k3, k4⟩ := s5.1
        refine ⟨rfl, _, rfl, (FF.f2 e p).tr ⟨fun a x y z w u => by rw [zu_ne _ _ _ y, zu_ne _ _ _ u, zu_ne _ _ _ w], fun j x y => by rw [zu_apply, if_neg (by omega), zu_ne _ _ _ nrp, zu_ne _ _ _ nre], fun j x y => by rw [zu_ne _ _ _ ndr, zu_ne _ _ _ ndp, zu_ne _ _ _ nde]⟩, ?_, fun _ _ => ⟨⟨?_, ?_, ?_, fun j x hj hj6 => ?_⟩, ?_, ?_, ?_⟩⟩
        · rw [if_neg hx, zu_ne _ _ _ ndr, zu_ne _ _ _ ndp, zu_ne _ _ _ nde]
          exact k2
        · rw [zu_ne _ _ _ ndr, zu_ne _ _ _ ndp, zu_ne _ _ _ nde]
          exact k1
        · rw [zu_ne _ _ _ ndr, zu_ne _ _ _ ndp, zu_ne _ _ _ nde]
          exact k2
        · rw [zu_apply, if_neg (by omega), zu_ne _ _ _ nrp, zu_ne _ _ _ nre]
          exact k3
        · rw [zu_ne _ _ _ nrc.symm, zu_ne _ _ _ ncp, zu_ne _ _ _ nce]
          exact k4 j x hj hj6
        · rw [zu_apply, if_pos ⟨rfl, rfl⟩]
        · rw [zu_ne _ _ _ nre.symm, zu_ne _ _ _ nep, zu_at, FF.1 e nce.symm nre.symm nde.symm]
        · rw [zu_ne _ _ _ nrp.symm, zu_at, zu_ne _ _ _ nep.symm, FF.1 p ncp.symm nrp.symm ndp.symm, hqv]
    have hb : ¬ (tk A = 3 ∧ 16 ≤ line) := fun w => hx ⟨w.1, by omega⟩
    refine z_aload_n (i := 0) dX3_readLine_0 rfl rfl ?_
    refine z_iconst (v := 3) dX3_readLine_1 (by decide) ?_
    refine z_callV (st := []) (mc2 := 0) (ms2 := 0) zi3_33 zv_yX3_sees (c3_sees n K I L R d t k l v N tk tp tv hD.1 hT A hA h2 0 h3 3 (by omega)) dX3_readLine_2 hda (congrArg Prod.fst hdk) rfl rfl rfl (by decide) (by decide) (Nat.le_of_ble_eq_true rfl) (by decide) (by decide) (fun r h2 hq => ?_)
    obtain ⟨rfl, rfl⟩ := hq
    refine z_if_eq 20 dX3_readLine_5 (by decide) (fun c_1 => ?_) (fun c_1 => ?_)
    · skip
      exact h20
    · skip
      refine z_iload_n (i := 1) dX3_readLine_8 rfl rfl ?_
      refine z_bipush (v := 16) dX3_readLine_9 (by decide) ?_
      refine z_icmp_lt 20 dX3_readLine_11 (by decide) (fun _ => ?_) (fun c_2 => absurd ((zlt (a := line) (b := 16) (by omega) (by omega)).mpr (by have w : tk A = 3 := Decidable.byContradiction (fun w => c_1 (by rw [decide_eq_false w, Bool.and_false]; rfl)); omega)) c_2)
      exact h20
