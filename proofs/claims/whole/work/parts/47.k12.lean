/-! the reader: its own small methods -/
def kRr (n : Nat) (K : Nat → Nat × Nat) (R : Nat → Nat → Option Nat) (d t k l v : Nat) : Prop := (d < n ∧ t < n ∧ k < n ∧ l < n ∧ v < n) ∧ (K d = (8, 0) ∧ K t = (11, 0) ∧ K k = (0, 601) ∧ K l = (0, 601) ∧ K v = (0, 601)) ∧ (R d 0 = some t ∧ R t 0 = some k ∧ R t 1 = some l ∧ R t 2 = some v)
/-- the tokens of the class: N of them, and the end -/
def kTk (I : Nat → Nat → Int32) (t k l v N : Nat) (tk tp tv : Nat → Nat) : Prop := N ≤ 600 ∧ I t 3 = nI N ∧ tk N = 0 ∧ ∀ i, i ≤ N → I k i = nI (tk i) ∧ I l i = nI (tp i) ∧ tp i ≤ 600 ∧ tk i ≤ 126 ∧ (tk i = 2 → I v i = nI (tv i) ∧ tv i ≤ 9999)
theorem kTk_cong {I J : Nat → Nat → Int32} {t k l v N : Nat} {tk tp tv : Nat → Nat} (h : kTk I t k l v N tk tp tv) (h1 : J t = I t) (h2 : J k = I k) (h3 : J l = I l) (h4 : J v = I v) : kTk J t k l v N tk tp tv := by
  obtain ⟨a, b, c, e⟩ := h
  refine ⟨a, by rw [h1]; exact b, c, fun i hi => ?_⟩
  rw [h2, h3, h4]
  exact e i hi
abbrev x3_sees : ZX := (RX3, cX3_sees, 2, (some .boolean), "sees", 0, 0, false)
set_option maxHeartbeats 4000000 in
theorem c3_sees (n : Nat) (K : Nat → Nat × Nat) (I : Nat → Nat → Int32) (L : Nat → Nat → Int64) (R : Nat → Nat → Option Nat) (d t k l v N : Nat) (tk tp tv : Nat → Nat) (hR : kRr n K R d t k l v) (hT : kTk I t k l v N tk tp tv) (A : Nat) (hA : A ≤ N) (h2 : I d 2 = nI A) (f : Int32) (hf : I d 3 = f) (c : Nat) (hc : c ≤ 1000) : Zm yX3_sees cX3_sees 2 (some .boolean) 0 0 0 0 [.ref d, .int (nI c)] ((n, K, I, L, R)) (kQ (some (.int (zb (decide (f = 0) && decide (tk A = c))))) n K I L R) := by
  refine Zm_of (lg := false) (by decide) (fun _ => by simp [Value.category]) (fun _ => Nat.le_of_ble_eq_true rfl) ?_
  show Zf x3_sees 0 0 0 (zargs [.ref d, .int (nI c)]) [] ((n, K, I, L, R)) _
  generalize hQ0 : (kQ (some (.int (zb (decide (f = 0) && decide (tk A = c))))) n K I L R : Option Value → ZH → Prop) = Q0
  obtain ⟨⟨hda, hta, hka, hla, hva⟩, ⟨hdk, htk, hkk, hlk, hvk⟩, ⟨hd0, ht0, ht1, ht2⟩⟩ := id hR
  obtain ⟨hN6, hN, hN0, hTi⟩ := id hT
  obtain ⟨t1, t2, t3, t4, t5⟩ := hTi A hA
  refine z_aload_n (i := 0) dX3_sees_0 rfl rfl ?_
  refine z_gI zf3_28.g dX3_sees_1 hda hdk ?_
  rw [hf]
  refine z_if_ne 27 dX3_sees_4 (by decide) (fun c_1 => ?_) (fun c_1 => ?_)
  · skip
    refine z_iconst (v := 0) dX3_sees_27 (by decide) ?_
    refine z_zret dX3_sees_28 rfl (by decide) ?_
    subst hQ0
    rw [decide_eq_false c_1]
    exact ⟨rfl, rfl⟩
  · skip
    refine z_aload_n (i := 0) dX3_sees_7 rfl rfl ?_
    refine z_gR zf3_9.g dX3_sees_8 hda hdk hd0 ?_
    refine z_gR zf3_75 dX3_sees_11 hta htk ht0 ?_
    refine z_aload_n (i := 0) dX3_sees_14 rfl rfl ?_
    refine z_gI zf3_24.g dX3_sees_15 hda hdk ?_
    rw [h2]
    refine z_iald dX3_sees_18 hka hkk (zvin (by omega) (by omega)) ?_
    rw [zcl (by omega), t1]
    refine z_iload_n (i := 1) dX3_sees_19 rfl rfl ?_
    refine z_icmp_ne 27 dX3_sees_20 (by decide) (fun c_2 => ?_) (fun c_2 => ?_)
    · skip
      refine z_iconst (v := 0) dX3_sees_27 (by decide) ?_
      refine z_zret dX3_sees_28 rfl (by decide) ?_
      subst hQ0
      rw [decide_eq_false (show ¬ tk A = c from fun q => c_2 (by rw [q])), Bool.and_false]
      exact ⟨rfl, rfl⟩
    · skip
      refine z_iconst (v := 1) dX3_sees_23 (by decide) ?_
      refine z_goto 28 dX3_sees_24 (by decide) ?_
      refine z_zret dX3_sees_28 rfl (by decide) ?_
      subst hQ0
      rw [decide_eq_true (show f = 0 by assumption), decide_eq_true ((zeq (by omega) (by omega)).mp c_2)]
      exact ⟨rfl, rfl⟩
abbrev x3_step : ZX := (RX3, cX3_step, 1, none, "step", 0, 0, false)
set_option maxHeartbeats 4000000 in
theorem c3_step (n : Nat) (K : Nat → Nat × Nat) (I : Nat → Nat → Int32) (L : Nat → Nat → Int64) (R : Nat → Nat → Option Nat) (d t k l v N : Nat) (tk tp tv : Nat → Nat) (hR : kRr n K R d t k l v) (hT : kTk I t k l v N tk tp tv) (A : Nat) (hA : A ≤ N) (h2 : I d 2 = nI A) (hlt : A < N) : Zm yX3_step cX3_step 1 none 0 0 0 0 [.ref d] ((n, K, I, L, R)) (kQ none n K (zu I d 2 (nI (A + 1))) L R) := by
  refine Zm_of (lg := false) (by decide) (fun _ => by simp [Value.category]) (fun _ => Nat.le_of_ble_eq_true rfl) ?_
  show Zf x3_step 0 0 0 (zargs [.ref d]) [] ((n, K, I, L, R)) _
  generalize hQ0 : (kQ none n K (zu I d 2 (nI (A + 1))) L R : Option Value → ZH → Prop) = Q0
  obtain ⟨⟨hda, hta, hka, hla, hva⟩, ⟨hdk, htk, hkk, hlk, hvk⟩, ⟨hd0, ht0, ht1, ht2⟩⟩ := id hR
  obtain ⟨hN6, hN, hN0, hTi⟩ := id hT
  obtain ⟨t1, t2, t3, t4, t5⟩ := hTi A hA
  refine z_aload_n (i := 0) dX3_step_0 rfl rfl ?_
  refine z_gI zf3_24.g dX3_step_1 hda hdk ?_
  rw [h2]
  refine z_aload_n (i := 0) dX3_step_4 rfl rfl ?_
  refine z_gR zf3_9.g dX3_step_5 hda hdk hd0 ?_
  refine z_gI zf3_81.g dX3_step_8 hta htk ?_
  rw [hN]
  refine z_icmp_ge 24 dX3_step_11 (by decide) (fun c_1 => absurd c_1 (by rw [zle (by omega) (by omega)]; omega)) (fun _ => ?_)
  refine z_aload_n (i := 0) dX3_step_14 rfl rfl ?_
  refine z_dup dX3_step_15 rfl ?_
  refine z_gI zf3_24.g dX3_step_16 hda hdk ?_
  rw [h2]
  refine z_iconst (v := 1) dX3_step_19 (by decide) ?_
  refine z_iadd dX3_step_20 ?_
  refine z_top (y := .int (nI (A + 1))) (by rw [zl1, nI_add]) ?_
  refine z_putI zf3_24 dX3_step_21 (fun h => by cases h) hda hdk ?_
  refine z_vret dX3_step_24 rfl ?_
  subst hQ0
  exact ⟨rfl, rfl⟩
abbrev x3_refuse : ZX := (RX3, cX3_refuse, 2, none, "refuse", 0, 0, false)
set_option maxHeartbeats 4000000 in
theorem c3_refuse (n : Nat) (K : Nat → Nat × Nat) (I : Nat → Nat → Int32) (L : Nat → Nat → Int64) (R : Nat → Nat → Option Nat) (d t k l v N : Nat) (tk tp tv : Nat → Nat) (hR : kRr n K R d t k l v) (hT : kTk I t k l v N tk tp tv) (A : Nat) (hA : A ≤ N) (h2 : I d 2 = nI A) (f : Int32) (hf : I d 3 = f) (c : Nat) : Zm yX3_refuse cX3_refuse 2 none 0 0 0 0 [.ref d, .int (nI c)] ((n, K, I, L, R)) (kQ none n K (if f = 0 then zu I d 3 (fltp tp c A) else I) L R) := by
  refine Zm_of (lg := false) (by decide) (fun _ => by simp [Value.category]) (fun _ => Nat.le_of_ble_eq_true rfl) ?_
  show Zf x3_refuse 0 0 0 (zargs [.ref d, .int (nI c)]) [] ((n, K, I, L, R)) _
  generalize hQ0 : (kQ none n K (if f = 0 then zu I d 3 (fltp tp c A) else I) L R : Option Value → ZH → Prop) = Q0
  obtain ⟨⟨hda, hta, hka, hla, hva⟩, ⟨hdk, htk, hkk, hlk, hvk⟩, ⟨hd0, ht0, ht1, ht2⟩⟩ := id hR
  obtain ⟨hN6, hN, hN0, hTi⟩ := id hT
  obtain ⟨t1, t2, t3, t4, t5⟩ := hTi A hA
  refine z_aload_n (i := 0) dX3_refuse_0 rfl rfl ?_
  refine z_gI zf3_28.g dX3_refuse_1 hda hdk ?_
  rw [hf]
  refine z_if_ne 28 dX3_refuse_4 (by decide) (fun c_1 => ?_) (fun c_1 => ?_)
  · skip
    refine z_vret dX3_refuse_28 rfl ?_
    subst hQ0
    rw [if_neg c_1]
    exact ⟨rfl, rfl⟩
  · skip
    refine z_aload_n (i := 0) dX3_refuse_7 rfl rfl ?_
    refine z_iload_n (i := 1) dX3_refuse_8 rfl rfl ?_
    refine z_bipush (v := 16) dX3_refuse_9 (by decide) ?_
    refine z_aload_n (i := 0) dX3_refuse_11 rfl rfl ?_
    refine z_gR zf3_9.g dX3_refuse_12 hda hdk hd0 ?_
    refine z_gR zf3_84 dX3_refuse_15 hta htk ht1 ?_
    refine z_aload_n (i := 0) dX3_refuse_18 rfl rfl ?_
    refine z_gI zf3_24.g dX3_refuse_19 hda hdk ?_
    rw [h2]
    refine z_iald dX3_refuse_22 hla hlk (zvin (by omega) (by omega)) ?_
    rw [zcl (by omega), t2]
    refine z_imul dX3_refuse_23 ?_
    refine z_iadd dX3_refuse_24 ?_
    refine z_top (y := .int (fltp tp c A)) (by rw [zl16, pk_mul, nI_add]; rfl) ?_
    refine z_putI zf3_28 dX3_refuse_25 (fun h => by cases h) hda hdk ?_
    refine z_vret dX3_refuse_28 rfl ?_
    subst hQ0
    rw [if_pos c_1]
    exact ⟨rfl, rfl⟩
def ktake (I : Nat → Nat → Int32) (d : Nat) (tk tp : Nat → Nat) (c A : Nat) (f : Int32) : Nat → Nat → Int32 := if f = 0 then (if tk A = c then zu I d 2 (nI (A + 1)) else zu I d 3 (fltp tp 1 A)) else I
abbrev x3_take : ZX := (RX3, cX3_take, 2, none, "take", 0, 0, false)
set_option maxHeartbeats 4000000 in
theorem c3_take (n : Nat) (K : Nat → Nat × Nat) (I : Nat → Nat → Int32) (L : Nat → Nat → Int64) (R : Nat → Nat → Option Nat) (d t k l v N : Nat) (tk tp tv : Nat → Nat) (hR : kRr n K R d t k l v) (hT : kTk I t k l v N tk tp tv) (A : Nat) (hA : A ≤ N) (h2 : I d 2 = nI A) (f : Int32) (hf : I d 3 = f) (c : Nat) (hc : c ≤ 1000) (hc0 : c ≠ 0) : Zm yX3_take cX3_take 2 none 0 0 0 0 [.ref d, .int (nI c)] ((n, K, I, L, R)) (kQ none n K (ktake I d tk tp c A f) L R) := by
  refine Zm_of (lg := false) (by decide) (fun _ => by simp [Value.category]) (fun _ => Nat.le_of_ble_eq_true rfl) ?_
  show Zf x3_take 0 0 0 (zargs [.ref d, .int (nI c)]) [] ((n, K, I, L, R)) _
  generalize hQ0 : (kQ none n K (ktake I d tk tp c A f) L R : Option Value → ZH → Prop) = Q0
  obtain ⟨⟨hda, hta, hka, hla, hva⟩, ⟨hdk, htk, hkk, hlk, hvk⟩, ⟨hd0, ht0, ht1, ht2⟩⟩ := id hR
  obtain ⟨hN6, hN, hN0, hTi⟩ := id hT
  obtain ⟨t1, t2, t3, t4, t5⟩ := hTi A hA
  refine z_aload_n (i := 0) dX3_take_0 rfl rfl ?_
  refine z_gI zf3_28.g dX3_take_1 hda hdk ?_
  rw [hf]
  refine z_if_ne 47 dX3_take_4 (by decide) (fun c_1 => ?_) (fun c_1 => ?_)
  · skip
    refine z_aload_n (i := 0) dX3_take_47 rfl rfl ?_
    refine z_gI zf3_28.g dX3_take_48 hda hdk ?_
    rw [hf]
    refine z_if_ne 78 dX3_take_51 (by decide) (fun _ => ?_) (fun c_2 => absurd c_2 (by assumption))
    refine z_vret dX3_take_78 rfl ?_
    subst hQ0
    unfold ktake
    rw [if_neg (by assumption)]
    exact ⟨rfl, rfl⟩
  · skip
    refine z_aload_n (i := 0) dX3_take_7 rfl rfl ?_
    refine z_gR zf3_9.g dX3_take_8 hda hdk hd0 ?_
    refine z_gR zf3_75 dX3_take_11 hta htk ht0 ?_
    refine z_aload_n (i := 0) dX3_take_14 rfl rfl ?_
    refine z_gI zf3_24.g dX3_take_15 hda hdk ?_
    rw [h2]
    refine z_iald dX3_take_18 hka hkk (zvin (by omega) (by omega)) ?_
    rw [zcl (by omega), t1]
    refine z_iload_n (i := 1) dX3_take_19 rfl rfl ?_
    refine z_icmp_eq 47 dX3_take_20 (by decide) (fun c_3 => ?_) (fun c_3 => ?_)
    · skip
      refine z_aload_n (i := 0) dX3_take_47 rfl rfl ?_
      refine z_gI zf3_28.g dX3_take_48 hda hdk ?_
      rw [hf]
      refine z_if_ne 78 dX3_take_51 (by decide) (fun c_4 => absurd c_4 (fun q => q (by assumption))) (fun _ => ?_)
      refine z_aload_n (i := 0) dX3_take_54 rfl rfl ?_
      refine z_gI zf3_24.g dX3_take_55 hda hdk ?_
      rw [h2]
      refine z_aload_n (i := 0) dX3_take_58 rfl rfl ?_
      refine z_gR zf3_9.g dX3_take_59 hda hdk hd0 ?_
      refine z_gI zf3_81.g dX3_take_62 hta htk ?_
      rw [hN]
      refine z_icmp_ge 78 dX3_take_65 (by decide) (fun c_5 => absurd c_5 (by rw [zle (by omega) (by omega)]; have e9 := (zeq (by omega) (by omega)).mp c_3; have := lt_of_tk hN0 hA e9 hc0; omega)) (fun _ => ?_)
      refine z_aload_n (i := 0) dX3_take_68 rfl rfl ?_
      refine z_dup dX3_take_69 rfl ?_
      refine z_gI zf3_24.g dX3_take_70 hda hdk ?_
      rw [h2]
      refine z_iconst (v := 1) dX3_take_73 (by decide) ?_
      refine z_iadd dX3_take_74 ?_
      refine z_top (y := .int (nI (A + 1))) (by rw [zl1, nI_add]) ?_
      refine z_putI zf3_24 dX3_take_75 (fun h => by cases h) hda hdk ?_
      refine z_vret dX3_take_78 rfl ?_
      subst hQ0
      unfold ktake
      rw [if_pos (by assumption), if_pos ((zeq (by omega) (by omega)).mp c_3)]
      exact ⟨rfl, rfl⟩
    · skip
      refine z_aload_n (i := 0) dX3_take_23 rfl rfl ?_
      refine z_iconst (v := 1) dX3_take_24 (by decide) ?_
      refine z_bipush (v := 16) dX3_take_25 (by decide) ?_
      refine z_aload_n (i := 0) dX3_take_27 rfl rfl ?_
      refine z_gR zf3_9.g dX3_take_28 hda hdk hd0 ?_
      refine z_gR zf3_84 dX3_take_31 hta htk ht1 ?_
      refine z_aload_n (i := 0) dX3_take_34 rfl rfl ?_
      refine z_gI zf3_24.g dX3_take_35 hda hdk ?_
      rw [h2]
      refine z_iald dX3_take_38 hla hlk (zvin (by omega) (by omega)) ?_
      rw [zcl (by omega), t2]
      refine z_imul dX3_take_39 ?_
      refine z_iadd dX3_take_40 ?_
      refine z_top (y := .int (fltp tp 1 A)) (by rw [zl16, pk_mul, zl1, nI_add]; rfl) ?_
      refine z_putI zf3_28 dX3_take_41 (fun h => by cases h) hda hdk ?_
      refine z_goto 78 dX3_take_44 (by decide) ?_
      refine z_vret dX3_take_78 rfl ?_
      subst hQ0
      unfold ktake
      rw [if_pos (by assumption), if_neg (fun q => c_3 (by rw [q]))]
      exact ⟨rfl, rfl⟩
