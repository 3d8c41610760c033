def mop (o : Nat) (a b : Int32) : Int32 := if o = 3 then a + b else if o = 4 then a - b else if o = 5 then (if b ≤ a then 0 else 1) else if o = 6 then (if a = b then 1 else 0) else (if a = 0 then 0 else if b = 0 then 0 else 1)
def mrpn : List (Nat × Int32) → Nat → Prop
  | [], h => 1 ≤ h
  | c :: cs, h => (c.1 = 1 ∧ mrpn cs (h + 1)) ∨ (c.1 = 2 ∧ (∃ k, k < 8 ∧ c.2 = nI k) ∧ mrpn cs (h + 1)) ∨ ((3 ≤ c.1 ∧ c.1 ≤ 7) ∧ 2 ≤ h ∧ mrpn cs (h - 1))
def mwl : List (Nat × Int32) → (Nat → Nat → Int32) → Nat → Nat → Nat → Int32
  | [], I, _ => I
  | c :: cs, I, h => if c.1 = 1 then mwl cs (zu I 15 h c.2) (h + 1) else if c.1 = 2 then mwl cs (zu I 15 h (I 14 c.2.toNatClampNeg)) (h + 1) else mwl cs (zu I 15 (h - 2) (mop c.1 (I 15 (h - 2)) (I 15 (h - 1)))) (h - 1)
def mcode (I : Nat → Nat → Int32) (i : Nat) (cs : List (Nat × Int32)) : Prop := (∀ (j : Nat) (c : Nat × Int32), cs[j]? = some c → I 9 (i + j) = nI c.1 ∧ I 10 (i + j) = c.2) ∧ I 9 (i + cs.length) = 0
theorem mcode_tl {I : Nat → Nat → Int32} {i : Nat} {c : Nat × Int32} {cs : List (Nat × Int32)} (h : mcode I i (c :: cs)) : mcode I (i + 1) cs := by
  refine ⟨fun j d hd => ?_, ?_⟩
  · have := h.1 (j + 1) d (by simpa using hd)
    rwa [show i + (j + 1) = i + 1 + j by omega] at this
  · have := h.2
    rwa [show i + (c :: cs).length = i + 1 + cs.length by simp; omega] at this
theorem mcode_zu {I : Nat → Nat → Int32} {i a k : Nat} {v : Int32} {cs : List (Nat × Int32)} (h : mcode I i cs) (h9 : a ≠ 9) (h10 : a ≠ 10) : mcode (zu I a k v) i cs := by
  refine ⟨fun j d hd => ?_, ?_⟩
  · rw [zu_ne _ _ _ (Ne.symm h9), zu_ne _ _ _ (Ne.symm h10)]; exact h.1 j d hd
  · rw [zu_ne _ _ _ (Ne.symm h9)]; exact h.2
theorem zdec (t : Nat) : nI (t + 1) + Int32.ofInt (-1) = nI t := by rw [show Int32.ofInt (-1) = -(1 : Int32) by decide, nI_succ, Int32.add_assoc, Int32.add_right_neg, Int32.add_zero]
theorem zsub1 (t : Nat) : nI (t + 1) - 1 = nI t := nI_pred t
abbrev x9_worth : ZX := (RX9, cX9_worth, 7, (some .int), "worth", 0, 0, false)
set_option maxHeartbeats 8000000 in
theorem l9_worth {L : Nat → Nat → Int64} {Q : Option Value → ZH → Prop} : ∀ (cs : List (Nat × Int32)) (I : Nat → Nat → Int32) (i h : Nat) (ls : Nat → Option Value), mcode I i cs → mrpn cs h → i + cs.length < 1320 → h + cs.length ≤ 660 → ls 0 = some (.ref 0) → ls 2 = some (.int (nI i)) → ls 3 = some (.int (nI h)) → Q (some (.int (mwl cs I h 15 0))) (mh (mwl cs I h) L) → Zf x9_worth 0 0 4 ls [] (mh I L) Q := by
  intro cs
  induction cs with
  | nil =>
    intro I i h ls hc hr hi hh hl0 hl2 hl3 hQ
    simp only [List.length_nil, Nat.add_zero] at hi hh
    have h9 : I 9 i = 0 := hc.2
    refine z_aload_n (i := 0) dX9_worth_4 rfl hl0 ?_
    refine z_gR zf9_59.g dX9_worth_5 (by decide) rfl rfl ?_
    refine z_iload_n (i := 2) dX9_worth_8 rfl hl2 ?_
    refine z_iald dX9_worth_9 (by decide) rfl (zvin (by omega) (by omega)) ?_
    rw [zcl (by omega), h9]
    refine z_if_eq 192 dX9_worth_10 (by decide) (fun _ => ?_) (fun c_1 => absurd rfl c_1)
    refine z_aload_n (i := 0) dX9_worth_192 rfl hl0 ?_
    refine z_gR zf9_77.g dX9_worth_193 (by decide) rfl rfl ?_
    refine z_iconst (v := 0) dX9_worth_196 (by decide) ?_
    refine z_iald dX9_worth_197 (by decide) rfl (zvin (n := 0) (by omega) (by omega)) ?_
    refine z_iret dX9_worth_198 rfl ?_
    exact hQ
  | cons c cs ih =>
    obtain ⟨o, v⟩ := c
    intro I i h ls hc hr hi hh hl0 hl2 hl3 hQ
    simp only [List.length_cons] at hi hh
    obtain ⟨h9, h10⟩ := hc.1 0 (o, v) rfl
    rw [Nat.add_zero] at h9 h10
    dsimp only at h9 h10
    have hct := mcode_tl hc
    rcases hr with ⟨ho, hr⟩ | ⟨ho, ⟨k, hk8, hv⟩, hr⟩ | ⟨ho, h2, hr⟩
    · dsimp only at ho
      subst ho
      refine z_aload_n (i := 0) dX9_worth_4 rfl hl0 ?_
      refine z_gR zf9_59.g dX9_worth_5 (by decide) rfl rfl ?_
      refine z_iload_n (i := 2) dX9_worth_8 rfl hl2 ?_
      refine z_iald dX9_worth_9 (by decide) rfl (zvin (by omega) (by omega)) ?_
      rw [zcl (by omega), h9]
      refine z_if_eq 192 dX9_worth_10 (by decide) (fun c_1 => absurd c_1 (by decide)) (fun _ => ?_)
      refine z_aload_n (i := 0) dX9_worth_13 rfl hl0 ?_
      refine z_gR zf9_59.g dX9_worth_14 (by decide) rfl rfl ?_
      refine z_iload_n (i := 2) dX9_worth_17 rfl hl2 ?_
      refine z_iald dX9_worth_18 (by decide) rfl (zvin (by omega) (by omega)) ?_
      rw [zcl (by omega), h9]
      refine z_istore (i := 4) dX9_worth_19 (by decide) rfl ?_
      refine z_iload dX9_worth_21 rfl ?_
      refine z_iconst (v := 1) dX9_worth_23 (by decide) ?_
      refine z_icmp_eq 33 dX9_worth_24 (by decide) (fun _ => ?_) (fun c_2 => absurd c_2 (by decide))
      refine z_aload_n (i := 0) dX9_worth_33 rfl hl0 ?_
      refine z_gR zf9_77.g dX9_worth_34 (by decide) rfl rfl ?_
      refine z_iload_n (i := 3) dX9_worth_37 rfl hl3 ?_
      refine z_iload dX9_worth_38 rfl ?_
      refine z_iconst (v := 1) dX9_worth_40 (by decide) ?_
      refine z_icmp_ne 53 dX9_worth_41 (by decide) (fun c_3 => absurd c_3 (by decide)) (fun _ => ?_)
      refine z_aload_n (i := 0) dX9_worth_44 rfl hl0 ?_
      refine z_gR zf9_62.g dX9_worth_45 (by decide) rfl rfl ?_
      refine z_iload_n (i := 2) dX9_worth_48 rfl hl2 ?_
      refine z_iald dX9_worth_49 (by decide) rfl (zvin (by omega) (by omega)) ?_
      rw [zcl (by omega), h10]
      refine z_goto 64 dX9_worth_50 (by decide) ?_
      refine z_iast dX9_worth_64 (by decide) rfl (zvin (by omega) (by omega)) ?_
      refine z_iinc dX9_worth_65 hl3 rfl ?_
      refine z_goto 186 dX9_worth_68 (by decide) ?_
      refine z_iinc dX9_worth_186 hl2 rfl ?_
      refine z_goto 4 dX9_worth_189 (by decide) ?_
      simp only [zcl (show h ≤ 100000 by omega)]
      rw [zinc, zinc]
      exact ih _ (i + 1) (h + 1) _ (mcode_zu hct (by decide) (by decide)) hr (by omega) (by omega) hl0 rfl rfl hQ
    · dsimp only at ho hv
      subst ho
      subst hv
      refine z_aload_n (i := 0) dX9_worth_4 rfl hl0 ?_
      refine z_gR zf9_59.g dX9_worth_5 (by decide) rfl rfl ?_
      refine z_iload_n (i := 2) dX9_worth_8 rfl hl2 ?_
      refine z_iald dX9_worth_9 (by decide) rfl (zvin (by omega) (by omega)) ?_
      rw [zcl (by omega), h9]
      refine z_if_eq 192 dX9_worth_10 (by decide) (fun c_1 => absurd c_1 (by decide)) (fun _ => ?_)
      refine z_aload_n (i := 0) dX9_worth_13 rfl hl0 ?_
      refine z_gR zf9_59.g dX9_worth_14 (by decide) rfl rfl ?_
      refine z_iload_n (i := 2) dX9_worth_17 rfl hl2 ?_
      refine z_iald dX9_worth_18 (by decide) rfl (zvin (by omega) (by omega)) ?_
      rw [zcl (by omega), h9]
      refine z_istore (i := 4) dX9_worth_19 (by decide) rfl ?_
      refine z_iload dX9_worth_21 rfl ?_
      refine z_iconst (v := 1) dX9_worth_23 (by decide) ?_
      refine z_icmp_eq 33 dX9_worth_24 (by decide) (fun c_2 => absurd c_2 (by decide)) (fun _ => ?_)
      refine z_iload dX9_worth_27 rfl ?_
      refine z_iconst (v := 2) dX9_worth_29 (by decide) ?_
      refine z_icmp_ne 71 dX9_worth_30 (by decide) (fun c_3 => absurd c_3 (by decide)) (fun _ => ?_)
      refine z_aload_n (i := 0) dX9_worth_33 rfl hl0 ?_
      refine z_gR zf9_77.g dX9_worth_34 (by decide) rfl rfl ?_
      refine z_iload_n (i := 3) dX9_worth_37 rfl hl3 ?_
      refine z_iload dX9_worth_38 rfl ?_
      refine z_iconst (v := 1) dX9_worth_40 (by decide) ?_
      refine z_icmp_ne 53 dX9_worth_41 (by decide) (fun _ => ?_) (fun c_4 => absurd c_4 (by decide))
      refine z_aload_n (i := 0) dX9_worth_53 rfl hl0 ?_
      refine z_gR zf9_74.g dX9_worth_54 (by decide) rfl rfl ?_
      refine z_aload_n (i := 0) dX9_worth_57 rfl hl0 ?_
      refine z_gR zf9_62.g dX9_worth_58 (by decide) rfl rfl ?_
      refine z_iload_n (i := 2) dX9_worth_61 rfl hl2 ?_
      refine z_iald dX9_worth_62 (by decide) rfl (zvin (by omega) (by omega)) ?_
      rw [zcl (by omega), h10]
      refine z_iald dX9_worth_63 (by decide) rfl (zvin (by omega) (by omega)) ?_
      refine z_iast dX9_worth_64 (by decide) rfl (zvin (by omega) (by omega)) ?_
      refine z_iinc dX9_worth_65 hl3 rfl ?_
      refine z_goto 186 dX9_worth_68 (by decide) ?_
      refine z_iinc dX9_worth_186 hl2 rfl ?_
      refine z_goto 4 dX9_worth_189 (by decide) ?_
      simp only [zcl (show h ≤ 100000 by omega)]
      rw [zinc, zinc]
      exact ih _ (i + 1) (h + 1) _ (mcode_zu hct (by decide) (by decide)) hr (by omega) (by omega) hl0 rfl rfl hQ
    · dsimp only at ho
      obtain ⟨t, rfl⟩ : ∃ t, h = t + 2 := ⟨h - 2, by omega⟩
      rcases (show o = 3 ∨ o = 4 ∨ o = 5 ∨ o = 6 ∨ o = 7 by omega) with rfl | rfl | rfl | rfl | rfl
      · skip
        refine z_aload_n (i := 0) dX9_worth_4 rfl hl0 ?_
        refine z_gR zf9_59.g dX9_worth_5 (by decide) rfl rfl ?_
        refine z_iload_n (i := 2) dX9_worth_8 rfl hl2 ?_
        refine z_iald dX9_worth_9 (by decide) rfl (zvin (by omega) (by omega)) ?_
        rw [zcl (by omega), h9]
        refine z_if_eq 192 dX9_worth_10 (by decide) (fun c_1 => absurd c_1 (by decide)) (fun _ => ?_)
        refine z_aload_n (i := 0) dX9_worth_13 rfl hl0 ?_
        refine z_gR zf9_59.g dX9_worth_14 (by decide) rfl rfl ?_
        refine z_iload_n (i := 2) dX9_worth_17 rfl hl2 ?_
        refine z_iald dX9_worth_18 (by decide) rfl (zvin (by omega) (by omega)) ?_
        rw [zcl (by omega), h9]
        refine z_istore (i := 4) dX9_worth_19 (by decide) rfl ?_
        refine z_iload dX9_worth_21 rfl ?_
        refine z_iconst (v := 1) dX9_worth_23 (by decide) ?_
        refine z_icmp_eq 33 dX9_worth_24 (by decide) (fun c_2 => absurd c_2 (by decide)) (fun _ => ?_)
        refine z_iload dX9_worth_27 rfl ?_
        refine z_iconst (v := 2) dX9_worth_29 (by decide) ?_
        refine z_icmp_ne 71 dX9_worth_30 (by decide) (fun _ => ?_) (fun c_3 => absurd c_3 (by decide))
        refine z_iinc dX9_worth_71 hl3 rfl ?_
        rw [zdec]
        refine z_aload_n (i := 0) dX9_worth_74 rfl hl0 ?_
        refine z_gR zf9_77.g dX9_worth_75 (by decide) rfl rfl ?_
        refine z_iload_n (i := 3) dX9_worth_78 rfl rfl ?_
        refine z_iald dX9_worth_79 (by decide) rfl (zvin (by omega) (by omega)) ?_
        rw [zcl (by omega)]
        refine z_istore (i := 5) dX9_worth_80 (by decide) rfl ?_
        refine z_aload_n (i := 0) dX9_worth_82 rfl hl0 ?_
        refine z_gR zf9_77.g dX9_worth_83 (by decide) rfl rfl ?_
        refine z_iload_n (i := 3) dX9_worth_86 rfl rfl ?_
        refine z_iconst (v := 1) dX9_worth_87 (by decide) ?_
        refine z_isub dX9_worth_88 ?_
        rw [zsub1]
        refine z_iald dX9_worth_89 (by decide) rfl (zvin (by omega) (by omega)) ?_
        rw [zcl (by omega)]
        refine z_istore (i := 6) dX9_worth_90 (by decide) rfl ?_
        refine z_aload_n (i := 0) dX9_worth_92 rfl hl0 ?_
        refine z_gR zf9_77.g dX9_worth_93 (by decide) rfl rfl ?_
        refine z_iload_n (i := 3) dX9_worth_96 rfl rfl ?_
        refine z_iconst (v := 1) dX9_worth_97 (by decide) ?_
        refine z_isub dX9_worth_98 ?_
        rw [zsub1]
        refine z_iload dX9_worth_99 rfl ?_
        refine z_iconst (v := 3) dX9_worth_101 (by decide) ?_
        refine z_icmp_ne 113 dX9_worth_102 (by decide) (fun c_4 => absurd c_4 (by decide)) (fun _ => ?_)
        refine z_iload dX9_worth_105 rfl ?_
        refine z_iload dX9_worth_107 rfl ?_
        refine z_iadd dX9_worth_109 ?_
        refine z_goto 185 dX9_worth_110 (by decide) ?_
        refine z_topi (fun w hw => ?_)
        have e2 : w = mop 3 (I 15 t) (I 15 (t + 1)) := by rw [hw]; simp [mop, *]
        subst e2
        refine z_iast dX9_worth_185 (by decide) rfl (zvin (by omega) (by omega)) ?_
        refine z_iinc dX9_worth_186 hl2 rfl ?_
        refine z_goto 4 dX9_worth_189 (by decide) ?_
        simp only [zcl (show t ≤ 100000 by omega)]
        rw [zinc]
        exact ih _ (i + 1) (t + 1) _ (mcode_zu hct (by decide) (by decide)) hr (by omega) (by omega) hl0 rfl rfl hQ
      · skip
        refine z_aload_n (i := 0) dX9_worth_4 rfl hl0 ?_
        refine z_gR zf9_59.g dX9_worth_5 (by decide) rfl rfl ?_
        refine z_iload_n (i := 2) dX9_worth_8 rfl hl2 ?_
        refine z_iald dX9_worth_9 (by decide) rfl (zvin (by omega) (by omega)) ?_
        rw [zcl (by omega), h9]
        refine z_if_eq 192 dX9_worth_10 (by decide) (fun c_1 => absurd c_1 (by decide)) (fun _ => ?_)
        refine z_aload_n (i := 0) dX9_worth_13 rfl hl0 ?_
        refine z_gR zf9_59.g dX9_worth_14 (by decide) rfl rfl ?_
        refine z_iload_n (i := 2) dX9_worth_17 rfl hl2 ?_
        refine z_iald dX9_worth_18 (by decide) rfl (zvin (by omega) (by omega)) ?_
        rw [zcl (by omega), h9]
        refine z_istore (i := 4) dX9_worth_19 (by decide) rfl ?_
        refine z_iload dX9_worth_21 rfl ?_
        refine z_iconst (v := 1) dX9_worth_23 (by decide) ?_
        refine z_icmp_eq 33 dX9_worth_24 (by decide) (fun c_2 => absurd c_2 (by decide)) (fun _ => ?_)
        refine z_iload dX9_worth_27 rfl ?_
        refine z_iconst (v := 2) dX9_worth_29 (by decide) ?_
        refine z_icmp_ne 71 dX9_worth_30 (by decide) (fun _ => ?_) (fun c_3 => absurd c_3 (by decide))
        refine z_iinc dX9_worth_71 hl3 rfl ?_
        rw [zdec]
        refine z_aload_n (i := 0) dX9_worth_74 rfl hl0 ?_
        refine z_gR zf9_77.g dX9_worth_75 (by decide) rfl rfl ?_
        refine z_iload_n (i := 3) dX9_worth_78 rfl rfl ?_
        refine z_iald dX9_worth_79 (by decide) rfl (zvin (by omega) (by omega)) ?_
        rw [zcl (by omega)]
        refine z_istore (i := 5) dX9_worth_80 (by decide) rfl ?_
        refine z_aload_n (i := 0) dX9_worth_82 rfl hl0 ?_
        refine z_gR zf9_77.g dX9_worth_83 (by decide) rfl rfl ?_
        refine z_iload_n (i := 3) dX9_worth_86 rfl rfl ?_
        refine z_iconst (v := 1) dX9_worth_87 (by decide) ?_
        refine z_isub dX9_worth_88 ?_
        rw [zsub1]
        refine z_iald dX9_worth_89 (by decide) rfl (zvin (by omega) (by omega)) ?_
        rw [zcl (by omega)]
        refine z_istore (i := 6) dX9_worth_90 (by decide) rfl ?_
        refine z_aload_n (i := 0) dX9_worth_92 rfl hl0 ?_
        refine z_gR zf9_77.g dX9_worth_93 (by decide) rfl rfl ?_
        refine z_iload_n (i := 3) dX9_worth_96 rfl rfl ?_
        refine z_iconst (v := 1) dX9_worth_97 (by decide) ?_
        refine z_isub dX9_worth_98 ?_
        rw [zsub1]
        refine z_iload dX9_worth_99 rfl ?_
        refine z_iconst (v := 3) dX9_worth_101 (by decide) ?_
        refine z_icmp_ne 113 dX9_worth_102 (by decide) (fun _ => ?_) (fun c_4 => absurd c_4 (by decide))
        refine z_iload dX9_worth_113 rfl ?_
        refine z_iconst (v := 4) dX9_worth_115 (by decide) ?_
        refine z_icmp_ne 127 dX9_worth_116 (by decide) (fun c_5 => absurd c_5 (by decide)) (fun _ => ?_)
        refine z_iload dX9_worth_119 rfl ?_
        refine z_iload dX9_worth_121 rfl ?_
        refine z_isub dX9_worth_123 ?_
        refine z_goto 185 dX9_worth_124 (by decide) ?_
        refine z_topi (fun w hw => ?_)
        have e2 : w = mop 4 (I 15 t) (I 15 (t + 1)) := by rw [hw]; simp [mop, *]
        subst e2
        refine z_iast dX9_worth_185 (by decide) rfl (zvin (by omega) (by omega)) ?_
        refine z_iinc dX9_worth_186 hl2 rfl ?_
        refine z_goto 4 dX9_worth_189 (by decide) ?_
        simp only [zcl (show t ≤ 100000 by omega)]
        rw [zinc]
        exact ih _ (i + 1) (t + 1) _ (mcode_zu hct (by decide) (by decide)) hr (by omega) (by omega) hl0 rfl rfl hQ
      · skip
        refine z_aload_n (i := 0) dX9_worth_4 rfl hl0 ?_
        refine z_gR zf9_59.g dX9_worth_5 (by decide) rfl rfl ?_
        refine z_iload_n (i := 2) dX9_worth_8 rfl hl2 ?_
        refine z_iald dX9_worth_9 (by decide) rfl (zvin (by omega) (by omega)) ?_
        rw [zcl (by omega), h9]
        refine z_if_eq 192 dX9_worth_10 (by decide) (fun c_1 => absurd c_1 (by decide)) (fun _ => ?_)
        refine z_aload_n (i := 0) dX9_worth_13 rfl hl0 ?_
        refine z_gR zf9_59.g dX9_worth_14 (by decide) rfl rfl ?_
        refine z_iload_n (i := 2) dX9_worth_17 rfl hl2 ?_
        refine z_iald dX9_worth_18 (by decide) rfl (zvin (by omega) (by omega)) ?_
        rw [zcl (by omega), h9]
        refine z_istore (i := 4) dX9_worth_19 (by decide) rfl ?_
        refine z_iload dX9_worth_21 rfl ?_
        refine z_iconst (v := 1) dX9_worth_23 (by decide) ?_
        refine z_icmp_eq 33 dX9_worth_24 (by decide) (fun c_2 => absurd c_2 (by decide)) (fun _ => ?_)
        refine z_iload dX9_worth_27 rfl ?_
        refine z_iconst (v := 2) dX9_worth_29 (by decide) ?_
        refine z_icmp_ne 71 dX9_worth_30 (by decide) (fun _ => ?_) (fun c_3 => absurd c_3 (by decide))
        refine z_iinc dX9_worth_71 hl3 rfl ?_
        rw [zdec]
        refine z_aload_n (i := 0) dX9_worth_74 rfl hl0 ?_
        refine z_gR zf9_77.g dX9_worth_75 (by decide) rfl rfl ?_
        refine z_iload_n (i := 3) dX9_worth_78 rfl rfl ?_
        refine z_iald dX9_worth_79 (by decide) rfl (zvin (by omega) (by omega)) ?_
        rw [zcl (by omega)]
        refine z_istore (i := 5) dX9_worth_80 (by decide) rfl ?_
        refine z_aload_n (i := 0) dX9_worth_82 rfl hl0 ?_
        refine z_gR zf9_77.g dX9_worth_83 (by decide) rfl rfl ?_
        refine z_iload_n (i := 3) dX9_worth_86 rfl rfl ?_
        refine z_iconst (v := 1) dX9_worth_87 (by decide) ?_
        refine z_isub dX9_worth_88 ?_
        rw [zsub1]
        refine z_iald dX9_worth_89 (by decide) rfl (zvin (by omega) (by omega)) ?_
        rw [zcl (by omega)]
        refine z_istore (i := 6) dX9_worth_90 (by decide) rfl ?_
        refine z_aload_n (i := 0) dX9_worth_92 rfl hl0 ?_
        refine z_gR zf9_77.g dX9_worth_93 (by decide) rfl rfl ?_
        refine z_iload_n (i := 3) dX9_worth_96 rfl rfl ?_
        refine z_iconst (v := 1) dX9_worth_97 (by decide) ?_
        refine z_isub dX9_worth_98 ?_
        rw [zsub1]
        refine z_iload dX9_worth_99 rfl ?_
        refine z_iconst (v := 3) dX9_worth_101 (by decide) ?_
        refine z_icmp_ne 113 dX9_worth_102 (by decide) (fun _ => ?_) (fun c_4 => absurd c_4 (by decide))
        refine z_iload dX9_worth_113 rfl ?_
        refine z_iconst (v := 4) dX9_worth_115 (by decide) ?_
        refine z_icmp_ne 127 dX9_worth_116 (by decide) (fun _ => ?_) (fun c_5 => absurd c_5 (by decide))
        refine z_iload dX9_worth_127 rfl ?_
        refine z_iconst (v := 5) dX9_worth_129 (by decide) ?_
        refine z_icmp_ne 148 dX9_worth_130 (by decide) (fun c_6 => absurd c_6 (by decide)) (fun _ => ?_)
        refine z_iload dX9_worth_133 rfl ?_
        refine z_iload dX9_worth_135 rfl ?_
        refine z_icmp_ge 144 dX9_worth_137 (by decide) (fun c_7 => ?_) (fun c_7 => ?_)
        · skip
          refine z_iconst (v := 0) dX9_worth_144 (by decide) ?_
          refine z_goto 185 dX9_worth_145 (by decide) ?_
          refine z_topi (fun w hw => ?_)
          have e2 : w = mop 5 (I 15 t) (I 15 (t + 1)) := by rw [hw]; simp [mop, *]
          subst e2
          refine z_iast dX9_worth_185 (by decide) rfl (zvin (by omega) (by omega)) ?_
          refine z_iinc dX9_worth_186 hl2 rfl ?_
          refine z_goto 4 dX9_worth_189 (by decide) ?_
          simp only [zcl (show t ≤ 100000 by omega)]
          rw [zinc]
          exact ih _ (i + 1) (t + 1) _ (mcode_zu hct (by decide) (by decide)) hr (by omega) (by omega) hl0 rfl rfl hQ
        · skip
          refine z_iconst (v := 1) dX9_worth_140 (by decide) ?_
          refine z_goto 185 dX9_worth_141 (by decide) ?_
          refine z_topi (fun w hw => ?_)
          have e2 : w = mop 5 (I 15 t) (I 15 (t + 1)) := by rw [hw]; simp [mop, *]
          subst e2
          refine z_iast dX9_worth_185 (by decide) rfl (zvin (by omega) (by omega)) ?_
          refine z_iinc dX9_worth_186 hl2 rfl ?_
          refine z_goto 4 dX9_worth_189 (by decide) ?_
          simp only [zcl (show t ≤ 100000 by omega)]
          rw [zinc]
          exact ih _ (i + 1) (t + 1) _ (mcode_zu hct (by decide) (by decide)) hr (by omega) (by omega) hl0 rfl rfl hQ
      · skip
        refine z_aload_n (i := 0) dX9_worth_4 rfl hl0 ?_
        refine z_gR zf9_59.g dX9_worth_5 (by decide) rfl rfl ?_
        refine z_iload_n (i := 2) dX9_worth_8 rfl hl2 ?_
        refine z_iald dX9_worth_9 (by decide) rfl (zvin (by omega) (by omega)) ?_
        rw [zcl (by omega), h9]
        refine z_if_eq 192 dX9_worth_10 (by decide) (fun c_1 => absurd c_1 (by decide)) (fun _ => ?_)
        refine z_aload_n (i := 0) dX9_worth_13 rfl hl0 ?_
        refine z_gR zf9_59.g dX9_worth_14 (by decide) rfl rfl ?_
        refine z_iload_n (i := 2) dX9_worth_17 rfl hl2 ?_
        refine z_iald dX9_worth_18 (by decide) rfl (zvin (by omega) (by omega)) ?_
        rw [zcl (by omega), h9]
        refine z_istore (i := 4) dX9_worth_19 (by decide) rfl ?_
        refine z_iload dX9_worth_21 rfl ?_
        refine z_iconst (v := 1) dX9_worth_23 (by decide) ?_
        refine z_icmp_eq 33 dX9_worth_24 (by decide) (fun c_2 => absurd c_2 (by decide)) (fun _ => ?_)
        refine z_iload dX9_worth_27 rfl ?_
        refine z_iconst (v := 2) dX9_worth_29 (by decide) ?_
        refine z_icmp_ne 71 dX9_worth_30 (by decide) (fun _ => ?_) (fun c_3 => absurd c_3 (by decide))
        refine z_iinc dX9_worth_71 hl3 rfl ?_
        rw [zdec]
        refine z_aload_n (i := 0) dX9_worth_74 rfl hl0 ?_
        refine z_gR zf9_77.g dX9_worth_75 (by decide) rfl rfl ?_
        refine z_iload_n (i := 3) dX9_worth_78 rfl rfl ?_
        refine z_iald dX9_worth_79 (by decide) rfl (zvin (by omega) (by omega)) ?_
        rw [zcl (by omega)]
        refine z_istore (i := 5) dX9_worth_80 (by decide) rfl ?_
        refine z_aload_n (i := 0) dX9_worth_82 rfl hl0 ?_
        refine z_gR zf9_77.g dX9_worth_83 (by decide) rfl rfl ?_
        refine z_iload_n (i := 3) dX9_worth_86 rfl rfl ?_
        refine z_iconst (v := 1) dX9_worth_87 (by decide) ?_
        refine z_isub dX9_worth_88 ?_
        rw [zsub1]
        refine z_iald dX9_worth_89 (by decide) rfl (zvin (by omega) (by omega)) ?_
        rw [zcl (by omega)]
        refine z_istore (i := 6) dX9_worth_90 (by decide) rfl ?_
        refine z_aload_n (i := 0) dX9_worth_92 rfl hl0 ?_
        refine z_gR zf9_77.g dX9_worth_93 (by decide) rfl rfl ?_
        refine z_iload_n (i := 3) dX9_worth_96 rfl rfl ?_
        refine z_iconst (v := 1) dX9_worth_97 (by decide) ?_
        refine z_isub dX9_worth_98 ?_
        rw [zsub1]
        refine z_iload dX9_worth_99 rfl ?_
        refine z_iconst (v := 3) dX9_worth_101 (by decide) ?_
        refine z_icmp_ne 113 dX9_worth_102 (by decide) (fun _ => ?_) (fun c_4 => absurd c_4 (by decide))
        refine z_iload dX9_worth_113 rfl ?_
        refine z_iconst (v := 4) dX9_worth_115 (by decide) ?_
        refine z_icmp_ne 127 dX9_worth_116 (by decide) (fun _ => ?_) (fun c_5 => absurd c_5 (by decide))
        refine z_iload dX9_worth_127 rfl ?_
        refine z_iconst (v := 5) dX9_worth_129 (by decide) ?_
        refine z_icmp_ne 148 dX9_worth_130 (by decide) (fun _ => ?_) (fun c_6 => absurd c_6 (by decide))
        refine z_iload dX9_worth_148 rfl ?_
        refine z_bipush (v := 6) dX9_worth_150 (by decide) ?_
        refine z_icmp_ne 170 dX9_worth_152 (by decide) (fun c_7 => absurd c_7 (by decide)) (fun _ => ?_)
        refine z_iload dX9_worth_155 rfl ?_
        refine z_iload dX9_worth_157 rfl ?_
        refine z_icmp_ne 166 dX9_worth_159 (by decide) (fun c_8 => ?_) (fun c_8 => ?_)
        · skip
          refine z_iconst (v := 0) dX9_worth_166 (by decide) ?_
          refine z_goto 185 dX9_worth_167 (by decide) ?_
          refine z_topi (fun w hw => ?_)
          have e2 : w = mop 6 (I 15 t) (I 15 (t + 1)) := by rw [hw]; simp [mop, *]
          subst e2
          refine z_iast dX9_worth_185 (by decide) rfl (zvin (by omega) (by omega)) ?_
          refine z_iinc dX9_worth_186 hl2 rfl ?_
          refine z_goto 4 dX9_worth_189 (by decide) ?_
          simp only [zcl (show t ≤ 100000 by omega)]
          rw [zinc]
          exact ih _ (i + 1) (t + 1) _ (mcode_zu hct (by decide) (by decide)) hr (by omega) (by omega) hl0 rfl rfl hQ
        · skip
          refine z_iconst (v := 1) dX9_worth_162 (by decide) ?_
          refine z_goto 185 dX9_worth_163 (by decide) ?_
          refine z_topi (fun w hw => ?_)
          have e2 : w = mop 6 (I 15 t) (I 15 (t + 1)) := by rw [hw]; simp [mop, *]
          subst e2
          refine z_iast dX9_worth_185 (by decide) rfl (zvin (by omega) (by omega)) ?_
          refine z_iinc dX9_worth_186 hl2 rfl ?_
          refine z_goto 4 dX9_worth_189 (by decide) ?_
          simp only [zcl (show t ≤ 100000 by omega)]
          rw [zinc]
          exact ih _ (i + 1) (t + 1) _ (mcode_zu hct (by decide) (by decide)) hr (by omega) (by omega) hl0 rfl rfl hQ
      · skip
        refine z_aload_n (i := 0) dX9_worth_4 rfl hl0 ?_
        refine z_gR zf9_59.g dX9_worth_5 (by decide) rfl rfl ?_
        refine z_iload_n (i := 2) dX9_worth_8 rfl hl2 ?_
        refine z_iald dX9_worth_9 (by decide) rfl (zvin (by omega) (by omega)) ?_
        rw [zcl (by omega), h9]
        refine z_if_eq 192 dX9_worth_10 (by decide) (fun c_1 => absurd c_1 (by decide)) (fun _ => ?_)
        refine z_aload_n (i := 0) dX9_worth_13 rfl hl0 ?_
        refine z_gR zf9_59.g dX9_worth_14 (by decide) rfl rfl ?_
        refine z_iload_n (i := 2) dX9_worth_17 rfl hl2 ?_
        refine z_iald dX9_worth_18 (by decide) rfl (zvin (by omega) (by omega)) ?_
        rw [zcl (by omega), h9]
        refine z_istore (i := 4) dX9_worth_19 (by decide) rfl ?_
        refine z_iload dX9_worth_21 rfl ?_
        refine z_iconst (v := 1) dX9_worth_23 (by decide) ?_
        refine z_icmp_eq 33 dX9_worth_24 (by decide) (fun c_2 => absurd c_2 (by decide)) (fun _ => ?_)
        refine z_iload dX9_worth_27 rfl ?_
        refine z_iconst (v := 2) dX9_worth_29 (by decide) ?_
        refine z_icmp_ne 71 dX9_worth_30 (by decide) (fun _ => ?_) (fun c_3 => absurd c_3 (by decide))
        refine z_iinc dX9_worth_71 hl3 rfl ?_
        rw [zdec]
        refine z_aload_n (i := 0) dX9_worth_74 rfl hl0 ?_
        refine z_gR zf9_77.g dX9_worth_75 (by decide) rfl rfl ?_
        refine z_iload_n (i := 3) dX9_worth_78 rfl rfl ?_
        refine z_iald dX9_worth_79 (by decide) rfl (zvin (by omega) (by omega)) ?_
        rw [zcl (by omega)]
        refine z_istore (i := 5) dX9_worth_80 (by decide) rfl ?_
        refine z_aload_n (i := 0) dX9_worth_82 rfl hl0 ?_
        refine z_gR zf9_77.g dX9_worth_83 (by decide) rfl rfl ?_
        refine z_iload_n (i := 3) dX9_worth_86 rfl rfl ?_
        refine z_iconst (v := 1) dX9_worth_87 (by decide) ?_
        refine z_isub dX9_worth_88 ?_
        rw [zsub1]
        refine z_iald dX9_worth_89 (by decide) rfl (zvin (by omega) (by omega)) ?_
        rw [zcl (by omega)]
        refine z_istore (i := 6) dX9_worth_90 (by decide) rfl ?_
        refine z_aload_n (i := 0) dX9_worth_92 rfl hl0 ?_
        refine z_gR zf9_77.g dX9_worth_93 (by decide) rfl rfl ?_
        refine z_iload_n (i := 3) dX9_worth_96 rfl rfl ?_
        refine z_iconst (v := 1) dX9_worth_97 (by decide) ?_
        refine z_isub dX9_worth_98 ?_
        rw [zsub1]
        refine z_iload dX9_worth_99 rfl ?_
        refine z_iconst (v := 3) dX9_worth_101 (by decide) ?_
        refine z_icmp_ne 113 dX9_worth_102 (by decide) (fun _ => ?_) (fun c_4 => absurd c_4 (by decide))
        refine z_iload dX9_worth_113 rfl ?_
        refine z_iconst (v := 4) dX9_worth_115 (by decide) ?_
        refine z_icmp_ne 127 dX9_worth_116 (by decide) (fun _ => ?_) (fun c_5 => absurd c_5 (by decide))
        refine z_iload dX9_worth_127 rfl ?_
        refine z_iconst (v := 5) dX9_worth_129 (by decide) ?_
        refine z_icmp_ne 148 dX9_worth_130 (by decide) (fun _ => ?_) (fun c_6 => absurd c_6 (by decide))
        refine z_iload dX9_worth_148 rfl ?_
        refine z_bipush (v := 6) dX9_worth_150 (by decide) ?_
        refine z_icmp_ne 170 dX9_worth_152 (by decide) (fun _ => ?_) (fun c_7 => absurd c_7 (by decide))
        refine z_iload dX9_worth_170 rfl ?_
        refine z_if_eq 184 dX9_worth_172 (by decide) (fun c_8 => ?_) (fun c_8 => ?_)
        · skip
          refine z_iconst (v := 0) dX9_worth_184 (by decide) ?_
          refine z_topi (fun w hw => ?_)
          have e2 : w = mop 7 (I 15 t) (I 15 (t + 1)) := by rw [hw]; simp [mop, *]
          subst e2
          refine z_iast dX9_worth_185 (by decide) rfl (zvin (by omega) (by omega)) ?_
          refine z_iinc dX9_worth_186 hl2 rfl ?_
          refine z_goto 4 dX9_worth_189 (by decide) ?_
          simp only [zcl (show t ≤ 100000 by omega)]
          rw [zinc]
          exact ih _ (i + 1) (t + 1) _ (mcode_zu hct (by decide) (by decide)) hr (by omega) (by omega) hl0 rfl rfl hQ
        · skip
          refine z_iload dX9_worth_175 rfl ?_
          refine z_if_eq 184 dX9_worth_177 (by decide) (fun c_9 => ?_) (fun c_9 => ?_)
          · skip
            refine z_iconst (v := 0) dX9_worth_184 (by decide) ?_
            refine z_topi (fun w hw => ?_)
            have e2 : w = mop 7 (I 15 t) (I 15 (t + 1)) := by rw [hw]; simp [mop, *]
            subst e2
            refine z_iast dX9_worth_185 (by decide) rfl (zvin (by omega) (by omega)) ?_
            refine z_iinc dX9_worth_186 hl2 rfl ?_
            refine z_goto 4 dX9_worth_189 (by decide) ?_
            simp only [zcl (show t ≤ 100000 by omega)]
            rw [zinc]
            exact ih _ (i + 1) (t + 1) _ (mcode_zu hct (by decide) (by decide)) hr (by omega) (by omega) hl0 rfl rfl hQ
          · skip
            refine z_iconst (v := 1) dX9_worth_180 (by decide) ?_
            refine z_goto 185 dX9_worth_181 (by decide) ?_
            refine z_topi (fun w hw => ?_)
            have e2 : w = mop 7 (I 15 t) (I 15 (t + 1)) := by rw [hw]; simp [mop, *]
            subst e2
            refine z_iast dX9_worth_185 (by decide) rfl (zvin (by omega) (by omega)) ?_
            refine z_iinc dX9_worth_186 hl2 rfl ?_
            refine z_goto 4 dX9_worth_189 (by decide) ?_
            simp only [zcl (show t ≤ 100000 by omega)]
            rw [zinc]
            exact ih _ (i + 1) (t + 1) _ (mcode_zu hct (by decide) (by decide)) hr (by omega) (by omega) hl0 rfl rfl hQ
set_option maxHeartbeats 4000000 in
theorem c9_worth (I : Nat → Nat → Int32) (L : Nat → Nat → Int64) (i : Nat) (cs : List (Nat × Int32)) (hc : mcode I i cs) (hr : mrpn cs 0) (hi : i + cs.length < 1320) (hh : cs.length ≤ 660) : Zm yX9_worth cX9_worth 7 (some .int) 0 0 0 0 [.ref 0, .int (nI i)] (mh I L) (mQ (some (.int (mwl cs I 0 15 0))) (mwl cs I 0) L) := by
  refine Zm_of (lg := false) (by decide) (fun _ => by simp [Value.category]) (fun _ => Nat.le_of_ble_eq_true rfl) ?_
  show Zf x9_worth 0 0 0 (zargs [.ref 0, .int (nI i)]) [] (mh I L) _
  refine z_iload_n (i := 1) dX9_worth_0 rfl rfl ?_
  refine z_istore_n (i := 2) dX9_worth_1 rfl (by decide) rfl ?_
  refine z_iconst (v := 0) dX9_worth_2 (by decide) ?_
  refine z_istore_n (i := 3) dX9_worth_3 rfl (by decide) rfl ?_
  exact l9_worth cs I i 0 _ hc hr hi (by omega) rfl rfl rfl ⟨rfl, rfl⟩
