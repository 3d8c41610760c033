/-- the shift of byte i, from the highest on -/
def bsh (i : Nat) : Int32 := Int32.ofInt (56 - 8 * (i : Int))
theorem bsh_lt : ∀ i, i ≤ 8 → ((bsh i < 0) ↔ i = 8) := by decide +kernel
theorem bsh_dec : ∀ i, i ≤ 8 → bsh i + Int32.ofInt (-8) = bsh (i + 1) := by decide +kernel
def mby (v : Int64) (i : Nat) : Int32 := (v >>> ((bsh i).toInt64 &&& 63)).toInt32 &&& 255
abbrev mcOk (c : Int32) : Prop := c = 10 ∨ (¬ c < 32 ∧ ¬ 126 < c)
def mfd1 (I : Nat → Nat → Int32) (c : Int32) : Nat → Nat → Int32 := if mcOk c ∧ ¬ 600 ≤ I 0 2 then zu (zu I 1 (I 0 2).toNatClampNeg c) 0 2 (I 0 2 + 1) else I
def mfd (I : Nat → Nat → Int32) (v : Int64) : Nat → Nat → Nat → Int32
  | 0 => I
  | i + 1 => mfd1 (mfd I v i) (mby v i)
def mtp (I : Nat → Nat → Int32) : Prop := ∃ T, T ≤ 600 ∧ I 0 2 = nI T
theorem mtp_1 {I : Nat → Nat → Int32} (h : mtp I) (c : Int32) : mtp (mfd1 I c) := by
  obtain ⟨T, hT, e⟩ := h
  unfold mfd1
  split
  · rename_i h2
    rw [e] at h2 ⊢
    have : ¬ 600 ≤ T := fun q => h2.2 (show nI 600 ≤ nI T from (zle (by omega) (by omega)).mpr q)
    exact ⟨T + 1, by omega, by rw [zu_apply, if_pos ⟨rfl, rfl⟩, nI_1]⟩
  · exact ⟨T, hT, e⟩
theorem mtp_d {I : Nat → Nat → Int32} (h : mtp I) (v : Int64) : ∀ i, mtp (mfd I v i)
  | 0 => h
  | i + 1 => mtp_1 (mtp_d h v i) _
theorem zp_none {ls : Nat → Option Value} {i : Nat} (h : ls i = none) : ∀ (j : Nat) (w : Value), j + 1 = i + 1 → ls j = some w → w.category = 1 := by
  intro j w hj hw
  have e : j = i := by omega
  rw [e, h] at hw
  cases hw
theorem zp_int {ls : Nat → Option Value} {i : Nat} {x : Int32} (h : ls i = some (.int x)) : ∀ (j : Nat) (w : Value), j + 1 = i + 1 → ls j = some w → w.category = 1 := by
  intro j w hj hw
  have e : j = i := by omega
  rw [e, h] at hw
  cases hw
  rfl
abbrev x9_lay : ZX := (RX9, cX9_lay, 5, none, "lay", 0, 0, true)
set_option maxHeartbeats 4000000 in
theorem l9_lay {I : Nat → Nat → Int32} {L : Nat → Nat → Int64} {Q : Option Value → ZH → Prop} {v : Int64} (ok : mtp I) (hQ : Q none (mh (mfd I v 8) L)) : ∀ (m j : Nat), 8 - j < m → j ≤ 8 → ∀ (J : Nat → Nat → Int32) (ls : Nat → Option Value), J = mfd I v j → ls 0 = some (.ref 0) → ls 1 = some (.long v) → ls 2 = none → ls 3 = some (.int (bsh j)) → Zf x9_lay 0 0 3 ls [] (mh J L) Q := by
  intro m
  induction m with
  | zero => intro j h; omega
  | succ m ih =>
  intro j hm hj J ls hJ hl0 hl1 hl2 hl3
  subst hJ
  obtain ⟨T, hT, e2⟩ := mtp_d ok v j
  have hs : mfd I v (j + 1) = if mcOk (mby v j) ∧ ¬ 600 ≤ mfd I v j 0 2 then zu (zu (mfd I v j) 1 (mfd I v j 0 2).toNatClampNeg (mby v j)) 0 2 (mfd I v j 0 2 + 1) else mfd I v j := rfl
  refine z_iload_n (i := 3) dX9_lay_3 rfl hl3 ?_
  refine z_if_lt 75 dX9_lay_4 (by decide) (fun c_1 => ?_) (fun c_1 => ?_)
  · skip
    have h1 := (bsh_lt j hj).mp c_1
    subst h1
    refine z_vret dX9_lay_75 rfl ?_
    exact hQ
  · skip
    have h1 : ¬ j = 8 := fun q => c_1 ((bsh_lt j hj).mpr q)
    refine z_lload_n (i := 1) dX9_lay_7 rfl hl1 ?_
    refine z_iload_n (i := 3) dX9_lay_8 rfl hl3 ?_
    refine z_lshr dX9_lay_9 rfl ?_
    refine z_l2i dX9_lay_10 rfl ?_
    refine z_sipush (v := 255) dX9_lay_11 (by decide) ?_
    refine z_iand dX9_lay_14 ?_
    refine z_top (y := .int (mby v j)) rfl ?_
    have h600 : T = 600 ∨ T < 600 := by omega
    refine z_istoreL (i := 4) dX9_lay_15 (by decide) (zp_int hl3) ?_
    refine z_iload dX9_lay_17 rfl ?_
    refine z_bipush (v := 10) dX9_lay_19 (by decide) ?_
    refine z_icmp_eq 38 dX9_lay_21 (by decide) (fun c_2 => ?_) (fun c_2 => ?_)
    · skip
      refine z_aload_n (i := 0) dX9_lay_38 rfl hl0 ?_
      refine z_gI zf9_145.g dX9_lay_39 (by decide) rfl ?_
      refine z_sipush (v := 600) dX9_lay_42 (by decide) ?_
      refine z_icmp_ge 69 dX9_lay_45 (by decide) (fun c_3 => ?_) (fun c_3 => ?_)
      · skip
        refine z_iincL dX9_lay_69 hl3 (zp_none (i := 2) hl2) ?_
        refine z_goto 3 dX9_lay_72 (by decide) ?_
        rw [bsh_dec j hj]
        refine ih (j + 1) (by omega) (by omega) _ _ ?_ hl0 hl1 hl2 rfl
        rw [hs]
        rw [if_neg (fun h => h.2 c_3)]
      · skip
        have h2 : T < 600 := Nat.lt_of_not_le (fun q => c_3 (by rw [e2]; exact (zle (a := 600) (by omega) (by omega)).mpr q))
        refine z_aload_n (i := 0) dX9_lay_48 rfl hl0 ?_
        refine z_gR zf9_7.g dX9_lay_49 (by decide) rfl rfl ?_
        refine z_aload_n (i := 0) dX9_lay_52 rfl hl0 ?_
        refine z_gI zf9_145.g dX9_lay_53 (by decide) rfl ?_
        refine z_iload dX9_lay_56 rfl ?_
        refine z_iast dX9_lay_58 (by decide) rfl (by rw [e2]; exact zvin (by omega) (by omega)) ?_
        refine z_aload_n (i := 0) dX9_lay_59 rfl hl0 ?_
        refine z_dup dX9_lay_60 rfl ?_
        refine z_gI zf9_145.g dX9_lay_61 (by decide) rfl ?_
        refine z_iconst (v := 1) dX9_lay_64 (by decide) ?_
        refine z_iadd dX9_lay_65 ?_
        refine z_putI zf9_145 dX9_lay_66 (fun h => by cases h) (by decide) rfl ?_
        refine z_iincL dX9_lay_69 hl3 (zp_none (i := 2) hl2) ?_
        refine z_goto 3 dX9_lay_72 (by decide) ?_
        rw [bsh_dec j hj]
        refine ih (j + 1) (by omega) (by omega) _ _ ?_ hl0 hl1 hl2 rfl
        rw [hs]
        rw [if_pos ⟨Or.inl c_2, c_3⟩]
        rfl
    · skip
      refine z_iload dX9_lay_24 rfl ?_
      refine z_bipush (v := 32) dX9_lay_26 (by decide) ?_
      refine z_icmp_lt 69 dX9_lay_28 (by decide) (fun c_4 => ?_) (fun c_4 => ?_)
      · skip
        refine z_iincL dX9_lay_69 hl3 (zp_none (i := 2) hl2) ?_
        refine z_goto 3 dX9_lay_72 (by decide) ?_
        rw [bsh_dec j hj]
        refine ih (j + 1) (by omega) (by omega) _ _ ?_ hl0 hl1 hl2 rfl
        rw [hs]
        rw [if_neg (fun h => h.1.elim c_2 (fun q => q.1 c_4))]
      · skip
        refine z_iload dX9_lay_31 rfl ?_
        refine z_bipush (v := 126) dX9_lay_33 (by decide) ?_
        refine z_icmp_gt 69 dX9_lay_35 (by decide) (fun c_5 => ?_) (fun c_5 => ?_)
        · skip
          refine z_iincL dX9_lay_69 hl3 (zp_none (i := 2) hl2) ?_
          refine z_goto 3 dX9_lay_72 (by decide) ?_
          rw [bsh_dec j hj]
          refine ih (j + 1) (by omega) (by omega) _ _ ?_ hl0 hl1 hl2 rfl
          rw [hs]
          rw [if_neg (fun h => h.1.elim c_2 (fun q => q.2 c_5))]
        · skip
          refine z_aload_n (i := 0) dX9_lay_38 rfl hl0 ?_
          refine z_gI zf9_145.g dX9_lay_39 (by decide) rfl ?_
          refine z_sipush (v := 600) dX9_lay_42 (by decide) ?_
          refine z_icmp_ge 69 dX9_lay_45 (by decide) (fun c_6 => ?_) (fun c_6 => ?_)
          · skip
            refine z_iincL dX9_lay_69 hl3 (zp_none (i := 2) hl2) ?_
            refine z_goto 3 dX9_lay_72 (by decide) ?_
            rw [bsh_dec j hj]
            refine ih (j + 1) (by omega) (by omega) _ _ ?_ hl0 hl1 hl2 rfl
            rw [hs]
            rw [if_neg (fun h => h.2 c_6)]
          · skip
            have h2 : T < 600 := Nat.lt_of_not_le (fun q => c_6 (by rw [e2]; exact (zle (a := 600) (by omega) (by omega)).mpr q))
            refine z_aload_n (i := 0) dX9_lay_48 rfl hl0 ?_
            refine z_gR zf9_7.g dX9_lay_49 (by decide) rfl rfl ?_
            refine z_aload_n (i := 0) dX9_lay_52 rfl hl0 ?_
            refine z_gI zf9_145.g dX9_lay_53 (by decide) rfl ?_
            refine z_iload dX9_lay_56 rfl ?_
            refine z_iast dX9_lay_58 (by decide) rfl (by rw [e2]; exact zvin (by omega) (by omega)) ?_
            refine z_aload_n (i := 0) dX9_lay_59 rfl hl0 ?_
            refine z_dup dX9_lay_60 rfl ?_
            refine z_gI zf9_145.g dX9_lay_61 (by decide) rfl ?_
            refine z_iconst (v := 1) dX9_lay_64 (by decide) ?_
            refine z_iadd dX9_lay_65 ?_
            refine z_putI zf9_145 dX9_lay_66 (fun h => by cases h) (by decide) rfl ?_
            refine z_iincL dX9_lay_69 hl3 (zp_none (i := 2) hl2) ?_
            refine z_goto 3 dX9_lay_72 (by decide) ?_
            rw [bsh_dec j hj]
            refine ih (j + 1) (by omega) (by omega) _ _ ?_ hl0 hl1 hl2 rfl
            rw [hs]
            rw [if_pos ⟨Or.inr ⟨c_4, c_5⟩, c_6⟩]
            rfl
set_option maxHeartbeats 4000000 in
theorem c9_lay (I : Nat → Nat → Int32) (L : Nat → Nat → Int64) (v : Int64) (ok : mtp I) : Zm yX9_lay cX9_lay 5 none 0 0 0 0 [.ref 0, .long v] (mh I L) (mQ none (mfd I v 8) L) := by
  refine Zm_of (lg := true) (by decide) (fun h => by cases h) (fun _ => Nat.le_of_ble_eq_true rfl) ?_
  show Zf x9_lay 0 0 0 (zargs [.ref 0, .long v]) [] (mh I L) _
  refine z_bipush (v := 56) dX9_lay_0 (by decide) ?_
  refine z_istore_nL (i := 3) dX9_lay_2 rfl (by decide) (zp_none (i := 2) rfl) ?_
  exact l9_lay ok ⟨rfl, rfl⟩ 9 0 (by omega) (by omega) _ _ rfl rfl rfl rfl rfl
abbrev x9_feed : ZX := (RX9, cX9_feed, 7, (some .int), "feed", 1, 40, true)
set_option maxHeartbeats 4000000 in
theorem c9_feed (I : Nat → Nat → Int32) (L : Nat → Nat → Int64) (a b c : Int64) (ok : mtp I) : Zm yX9_feed cX9_feed 7 (some .int) 1 40 0 0 [.ref 0, .long a, .long b, .long c] (mh I L) (mQ (some (.int (mfd (mfd (mfd (zu I 0 0 0) a 8) b 8) c 8 0 2))) (mfd (mfd (mfd (zu I 0 0 0) a 8) b 8) c 8) L) := by
  refine Zm_of (lg := true) (by decide) (fun h => by cases h) (fun _ => Nat.le_of_ble_eq_true rfl) ?_
  show Zf x9_feed 0 0 0 (zargs [.ref 0, .long a, .long b, .long c]) [] (mh I L) _
  generalize hQ0 : (mQ (some (.int (mfd (mfd (mfd (zu I 0 0 0) a 8) b 8) c 8 0 2))) (mfd (mfd (mfd (zu I 0 0 0) a 8) b 8) c 8) L : Option Value → ZH → Prop) = Q0
  have ok0 : mtp (zu I 0 0 0) := ok
  refine z_aload_n (i := 0) dX9_feed_0 rfl rfl ?_
  refine z_iconst (v := 0) dX9_feed_1 (by decide) ?_
  refine z_putI zf9_137 dX9_feed_2 (fun h => by cases h) (by decide) rfl ?_
  refine z_aload_n (i := 0) dX9_feed_5 rfl rfl ?_
  refine z_lload_n (i := 1) dX9_feed_6 rfl rfl ?_
  refine z_callV (st := []) (mc2 := 0) (ms2 := 0) zi9_141 zv_yX9_lay (c9_lay (zu I 0 0 0) L a ok0) dX9_feed_7 (show (0 : Nat) < 35 by decide) rfl rfl rfl rfl (by decide) (by decide) (Nat.le_of_ble_eq_true rfl) (by decide) (by decide) (fun r h2 hq => ?_)
  obtain ⟨rfl, rfl⟩ := hq
  try simp only [Option.toList, List.nil_append]
  refine z_aload_n (i := 0) dX9_feed_10 rfl rfl ?_
  refine z_lload_n (i := 3) dX9_feed_11 rfl rfl ?_
  refine z_callV (st := []) (mc2 := 0) (ms2 := 0) zi9_141 zv_yX9_lay (c9_lay _ L b (mtp_d ok0 a 8)) dX9_feed_12 (show (0 : Nat) < 35 by decide) rfl rfl rfl rfl (by decide) (by decide) (Nat.le_of_ble_eq_true rfl) (by decide) (by decide) (fun r h2 hq => ?_)
  obtain ⟨rfl, rfl⟩ := hq
  try simp only [Option.toList, List.nil_append]
  refine z_aload_n (i := 0) dX9_feed_15 rfl rfl ?_
  refine z_lload dX9_feed_16 rfl ?_
  refine z_callV (st := []) (mc2 := 0) (ms2 := 0) zi9_141 zv_yX9_lay (c9_lay _ L c (mtp_d (mtp_d ok0 a 8) b 8)) dX9_feed_18 (show (0 : Nat) < 35 by decide) rfl rfl rfl rfl (by decide) (by decide) (Nat.le_of_ble_eq_true rfl) (by decide) (by decide) (fun r h2 hq => ?_)
  obtain ⟨rfl, rfl⟩ := hq
  try simp only [Option.toList, List.nil_append]
  refine z_aload_n (i := 0) dX9_feed_21 rfl rfl ?_
  refine z_gI zf9_145.g dX9_feed_22 (by decide) rfl ?_
  refine z_iret dX9_feed_25 rfl ?_
  subst hQ0
  exact ⟨rfl, rfl⟩
