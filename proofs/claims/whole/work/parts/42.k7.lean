/-! the tape -/
theorem mcOk_n {c : Int32} (h : mcOk c) : ∃ k, k ≤ 126 ∧ c = nI k := by
  rcases h with h | ⟨h1, h2⟩
  · exact ⟨10, by omega, h⟩
  · rcases pk_ix c (n := 127) (by omega) with q | q | ⟨j, hj, e⟩
    · exact absurd (Int32.lt_trans q (by decide)) h1
    · exact absurd (Int32.lt_of_lt_of_le (show (126 : Int32) < nI 127 by decide) q) h2
    · exact ⟨j, by omega, e⟩
theorem kch0 : ∀ k, k < 127 → vp_nar .char (((nI k).toUInt32 % 65536).toInt32) = nI k := by
  intro k hk
  rw [vp_nar_char]
  revert k
  decide +kernel
theorem kch {c : Int32} (h : mcOk c) : vp_nar .char ((c.toUInt32 % 65536).toInt32) = c := by
  obtain ⟨k, hk, e⟩ := mcOk_n h
  rw [e]
  exact kch0 k (by omega)
theorem bshS : ∀ i, i < 8 → (((bsh i).toInt64 &&& 63).toBitVec.smod 64).toNat = 56 - 8 * i := by decide +kernel
theorem bshU : ∀ i, i < 8 → (((bsh i).toInt64.toUInt64 &&& Int64.toUInt64 63).toBitVec % 64).toNat = 56 - 8 * i := by decide +kernel
theorem b255l : ∀ i, i < 64 → (255 : Int64).toBitVec.getLsbD i = decide (i < 8) := by decide +kernel
theorem b255i : ∀ i, i < 32 → (255 : Int32).toBitVec.getLsbD i = decide (i < 8) := by decide +kernel
/-- a byte cut out the one way or the other -/
theorem kby (v : Int64) {i : Nat} (hi : i < 8) : ((v.toUInt64 >>> ((bsh i).toInt64.toUInt64 &&& Int64.toUInt64 63)).toInt64 &&& 255).toInt32 = mby v i := by
  apply zbt_ext
  intro k hk
  unfold mby
  rw [zbt_and]
  unfold zbt
  rw [b255i k hk, Int64.toBitVec_toInt32, Int64.toBitVec_toInt32, BitVec.getLsbD_signExtend, BitVec.getLsbD_signExtend, decide_eq_true hk, if_pos (by omega), if_pos (by omega), Int64.toBitVec_and, BitVec.getLsbD_and, b255l k (by omega)]
  by_cases h8 : k < 8
  · rw [decide_eq_true h8]
    have e1 : ((v.toUInt64 >>> ((bsh i).toInt64.toUInt64 &&& Int64.toUInt64 63)).toInt64).toBitVec.getLsbD k = v.toBitVec.getLsbD (56 - 8 * i + k) := by
      show ((v.toUInt64 >>> ((bsh i).toInt64.toUInt64 &&& Int64.toUInt64 63)).toBitVec).getLsbD k = _
      rw [UInt64.toBitVec_shiftRight, BitVec.ushiftRight_eq', bshU i hi, BitVec.getLsbD_ushiftRight]
      rfl
    have e2 : (v >>> ((bsh i).toInt64 &&& 63)).toBitVec.getLsbD k = v.toBitVec.getLsbD (56 - 8 * i + k) := by
      rw [Int64.toBitVec_shiftRight, BitVec.sshiftRight_eq', bshS i hi, BitVec.getLsbD_sshiftRight, decide_eq_false (show ¬ 64 ≤ k by omega), if_pos (by omega)]
      rfl
    rw [e1, e2]
    simp
  · rw [decide_eq_false h8]; simp
def kTp (n : Nat) (K : Nat → Nat × Nat) (R : Nat → Nat → Option Nat) (t s : Nat) : Prop := t < n ∧ s < n ∧ K t = (10, 0) ∧ K s = (2, 600) ∧ R t 0 = some s
theorem kTp.ne {n : Nat} {K : Nat → Nat × Nat} {R : Nat → Nat → Option Nat} {t c : Nat} (h : kTp n K R t c) : t ≠ c := fun e => by
  obtain ⟨-, -, h1, h2, -⟩ := h
  rw [e, h2] at h1
  exact absurd h1 (by decide)
def kfd1 (I : Nat → Nat → Int32) (t s : Nat) (c : Int32) : Nat → Nat → Int32 := if mcOk c ∧ ¬ 600 ≤ I t 1 then zu (zu I s (I t 1).toNatClampNeg c) t 1 (I t 1 + 1) else I
def kfd (I : Nat → Nat → Int32) (t s : Nat) (v : Int64) : Nat → Nat → Nat → Int32
  | 0 => I
  | i + 1 => kfd1 (kfd I t s v i) t s (mby v i)
def ktp (I : Nat → Nat → Int32) (t : Nat) : Prop := ∃ T, T ≤ 600 ∧ I t 1 = nI T
theorem ktp_1 {I : Nat → Nat → Int32} {t s : Nat} (h : ktp I t) (c : Int32) : ktp (kfd1 I t s c) t := by
  obtain ⟨T, hT, e⟩ := h
  unfold kfd1
  split
  · rename_i h2
    rw [e] at h2 ⊢
    have : ¬ 600 ≤ T := fun q => h2.2 (show nI 600 ≤ nI T from (zle (by omega) (by omega)).mpr q)
    exact ⟨T + 1, by omega, by rw [zu_apply, if_pos ⟨rfl, rfl⟩, nI_1]⟩
  · exact ⟨T, hT, e⟩
theorem ktp_d {I : Nat → Nat → Int32} {t s : Nat} (h : ktp I t) (v : Int64) : ∀ i, ktp (kfd I t s v i) t
  | 0 => h
  | i + 1 => ktp_1 (ktp_d h v i) _
abbrev x5_addBytes : ZX := (RX5, cX5_addBytes, 6, none, "addBytes", 0, 0, true)
set_option maxHeartbeats 4000000 in
theorem l5_add {n : Nat} {K : Nat → Nat × Nat} {I : Nat → Nat → Int32} {L : Nat → Nat → Int64} {R : Nat → Nat → Option Nat} {Q : Option Value → ZH → Prop} {t s : Nat} {v : Int64} (hT0 : kTp n K R t s) (ok : ktp I t) (hQ : Q none (n, K, kfd I t s v 8, L, R)) : ∀ (m j : Nat), 8 - j < m → j ≤ 8 → ∀ (J : Nat → Nat → Int32) (ls : Nat → Option Value), J = kfd I t s v j → ls 0 = some (.ref t) → ls 1 = some (.long v) → ls 2 = none → ls 3 = some (.int (bsh j)) → Zf x5_addBytes 0 0 3 ls [] (n, K, J, L, R) Q := by
  intro m
  induction m with
  | zero => intro j h; omega
  | succ m ih =>
  intro j hm hj J ls hJ hl0 hl1 hl2 hl3
  subst hJ
  obtain ⟨ha, hsa, hkt, hks, hr0⟩ := id hT0
  have hne := hT0.ne
  obtain ⟨T, hT, e2⟩ := ktp_d (s := s) ok v j
  have hs : kfd I t s v (j + 1) = if mcOk (mby v j) ∧ ¬ 600 ≤ kfd I t s v j t 1 then zu (zu (kfd I t s v j) s (kfd I t s v j t 1).toNatClampNeg (mby v j)) t 1 (kfd I t s v j t 1 + 1) else kfd I t s v j := rfl
  refine z_iload_n (i := 3) dX5_addBytes_3 rfl hl3 ?_
  refine z_if_lt 88 dX5_addBytes_4 (by decide) (fun c_1 => ?_) (fun c_1 => ?_)
  · skip
    have h1 := (bsh_lt j hj).mp c_1
    subst h1
    refine z_vret dX5_addBytes_88 rfl ?_
    exact hQ
  · skip
    have h1 : ¬ j = 8 := fun q => c_1 ((bsh_lt j hj).mpr q)
    refine z_lload_n (i := 1) dX5_addBytes_7 rfl hl1 ?_
    refine z_iload_n (i := 3) dX5_addBytes_8 rfl hl3 ?_
    refine z_lushr dX5_addBytes_9 rfl ?_
    refine z_ldc2 (v := 255) dX5_addBytes_10 (zTB_of (by decide +kernel) rfl) ?_
    refine z_land dX5_addBytes_13 ?_
    refine z_l2i dX5_addBytes_14 rfl ?_
    refine z_top (y := .int (mby v j)) (by rw [kby v (by omega)]) ?_
    refine z_istoreL (i := 4) dX5_addBytes_15 (by decide) (zp_int hl3) ?_
    refine z_iload dX5_addBytes_17 rfl ?_
    refine z_bipush (v := 10) dX5_addBytes_19 (by decide) ?_
    refine z_icmp_eq 38 dX5_addBytes_21 (by decide) (fun c_2 => ?_) (fun c_2 => ?_)
    · skip
      refine z_iconst (v := 1) dX5_addBytes_38 (by decide) ?_
      refine z_goto 43 dX5_addBytes_39 (by decide) ?_
      refine z_istoreL (i := 5) dX5_addBytes_43 (by decide) (zp_int (i := 4) rfl) ?_
      refine z_iload dX5_addBytes_45 rfl ?_
      refine z_if_eq 82 dX5_addBytes_47 (by decide) (fun c_3 => absurd c_3 (by decide)) (fun _ => ?_)
      refine z_aload_n (i := 0) dX5_addBytes_50 rfl hl0 ?_
      refine z_gI zf5_15.g dX5_addBytes_51 ha hkt ?_
      refine z_sipush (v := 600) dX5_addBytes_54 (by decide) ?_
      refine z_icmp_ge 82 dX5_addBytes_57 (by decide) (fun c_4 => ?_) (fun c_4 => ?_)
      · skip
        refine z_iincL dX5_addBytes_82 hl3 (zp_none (i := 2) hl2) ?_
        refine z_goto 3 dX5_addBytes_85 (by decide) ?_
        rw [bsh_dec j hj]
        refine ih (j + 1) (by omega) (by omega) _ _ ?_ hl0 hl1 hl2 rfl
        rw [hs]
        rw [if_neg (fun h => h.2 c_4)]
      · skip
        have h2 : T < 600 := Nat.lt_of_not_le (fun q => c_4 (by rw [e2]; exact (zle (a := 600) (by omega) (by omega)).mpr q))
        refine z_aload_n (i := 0) dX5_addBytes_60 rfl hl0 ?_
        refine z_gR zf5_9.g dX5_addBytes_61 ha hkt hr0 ?_
        refine z_aload_n (i := 0) dX5_addBytes_64 rfl hl0 ?_
        refine z_gI zf5_15.g dX5_addBytes_65 ha hkt ?_
        refine z_iload dX5_addBytes_68 rfl ?_
        refine z_i2c dX5_addBytes_70 rfl ?_
        refine z_cast dX5_addBytes_71 hsa hks (by rw [e2]; exact zvin (by omega) (by omega)) ?_
        rw [kch (Or.inl c_2)]
        refine z_aload_n (i := 0) dX5_addBytes_72 rfl hl0 ?_
        refine z_dup dX5_addBytes_73 rfl ?_
        refine z_gI zf5_15.g dX5_addBytes_74 ha hkt ?_
        rw [zu_ne (kfd I t s v j) _ _ hne]
        refine z_iconst (v := 1) dX5_addBytes_77 (by decide) ?_
        refine z_iadd dX5_addBytes_78 ?_
        refine z_putI zf5_15 dX5_addBytes_79 (fun h => by cases h) ha hkt ?_
        refine z_iincL dX5_addBytes_82 hl3 (zp_none (i := 2) hl2) ?_
        refine z_goto 3 dX5_addBytes_85 (by decide) ?_
        rw [bsh_dec j hj]
        refine ih (j + 1) (by omega) (by omega) _ _ ?_ hl0 hl1 hl2 rfl
        rw [hs]
        rw [if_pos ⟨Or.inl c_2, c_4⟩]
    · skip
      refine z_iload dX5_addBytes_24 rfl ?_
      refine z_bipush (v := 32) dX5_addBytes_26 (by decide) ?_
      refine z_icmp_lt 42 dX5_addBytes_28 (by decide) (fun c_5 => ?_) (fun c_5 => ?_)
      · skip
        refine z_iconst (v := 0) dX5_addBytes_42 (by decide) ?_
        refine z_istoreL (i := 5) dX5_addBytes_43 (by decide) (zp_int (i := 4) rfl) ?_
        refine z_iload dX5_addBytes_45 rfl ?_
        refine z_if_eq 82 dX5_addBytes_47 (by decide) (fun _ => ?_) (fun c_6 => absurd c_6 (by decide))
        refine z_iincL dX5_addBytes_82 hl3 (zp_none (i := 2) hl2) ?_
        refine z_goto 3 dX5_addBytes_85 (by decide) ?_
        rw [bsh_dec j hj]
        refine ih (j + 1) (by omega) (by omega) _ _ ?_ hl0 hl1 hl2 rfl
        rw [hs]
        rw [if_neg (fun h => h.1.elim c_2 (fun q => q.1 c_5))]
      · skip
        refine z_iload dX5_addBytes_31 rfl ?_
        refine z_bipush (v := 126) dX5_addBytes_33 (by decide) ?_
        refine z_icmp_gt 42 dX5_addBytes_35 (by decide) (fun c_7 => ?_) (fun c_7 => ?_)
        · skip
          refine z_iconst (v := 0) dX5_addBytes_42 (by decide) ?_
          refine z_istoreL (i := 5) dX5_addBytes_43 (by decide) (zp_int (i := 4) rfl) ?_
          refine z_iload dX5_addBytes_45 rfl ?_
          refine z_if_eq 82 dX5_addBytes_47 (by decide) (fun _ => ?_) (fun c_8 => absurd c_8 (by decide))
          refine z_iincL dX5_addBytes_82 hl3 (zp_none (i := 2) hl2) ?_
          refine z_goto 3 dX5_addBytes_85 (by decide) ?_
          rw [bsh_dec j hj]
          refine ih (j + 1) (by omega) (by omega) _ _ ?_ hl0 hl1 hl2 rfl
          rw [hs]
          rw [if_neg (fun h => h.1.elim c_2 (fun q => q.2 c_7))]
        · skip
          refine z_iconst (v := 1) dX5_addBytes_38 (by decide) ?_
          refine z_goto 43 dX5_addBytes_39 (by decide) ?_
          refine z_istoreL (i := 5) dX5_addBytes_43 (by decide) (zp_int (i := 4) rfl) ?_
          refine z_iload dX5_addBytes_45 rfl ?_
          refine z_if_eq 82 dX5_addBytes_47 (by decide) (fun c_9 => absurd c_9 (by decide)) (fun _ => ?_)
          refine z_aload_n (i := 0) dX5_addBytes_50 rfl hl0 ?_
          refine z_gI zf5_15.g dX5_addBytes_51 ha hkt ?_
          refine z_sipush (v := 600) dX5_addBytes_54 (by decide) ?_
          refine z_icmp_ge 82 dX5_addBytes_57 (by decide) (fun c_10 => ?_) (fun c_10 => ?_)
          · skip
            refine z_iincL dX5_addBytes_82 hl3 (zp_none (i := 2) hl2) ?_
            refine z_goto 3 dX5_addBytes_85 (by decide) ?_
            rw [bsh_dec j hj]
            refine ih (j + 1) (by omega) (by omega) _ _ ?_ hl0 hl1 hl2 rfl
            rw [hs]
            rw [if_neg (fun h => h.2 c_10)]
          · skip
            have h2 : T < 600 := Nat.lt_of_not_le (fun q => c_10 (by rw [e2]; exact (zle (a := 600) (by omega) (by omega)).mpr q))
            refine z_aload_n (i := 0) dX5_addBytes_60 rfl hl0 ?_
            refine z_gR zf5_9.g dX5_addBytes_61 ha hkt hr0 ?_
            refine z_aload_n (i := 0) dX5_addBytes_64 rfl hl0 ?_
            refine z_gI zf5_15.g dX5_addBytes_65 ha hkt ?_
            refine z_iload dX5_addBytes_68 rfl ?_
            refine z_i2c dX5_addBytes_70 rfl ?_
            refine z_cast dX5_addBytes_71 hsa hks (by rw [e2]; exact zvin (by omega) (by omega)) ?_
            rw [kch (Or.inr ⟨c_5, c_7⟩)]
            refine z_aload_n (i := 0) dX5_addBytes_72 rfl hl0 ?_
            refine z_dup dX5_addBytes_73 rfl ?_
            refine z_gI zf5_15.g dX5_addBytes_74 ha hkt ?_
            rw [zu_ne (kfd I t s v j) _ _ hne]
            refine z_iconst (v := 1) dX5_addBytes_77 (by decide) ?_
            refine z_iadd dX5_addBytes_78 ?_
            refine z_putI zf5_15 dX5_addBytes_79 (fun h => by cases h) ha hkt ?_
            refine z_iincL dX5_addBytes_82 hl3 (zp_none (i := 2) hl2) ?_
            refine z_goto 3 dX5_addBytes_85 (by decide) ?_
            rw [bsh_dec j hj]
            refine ih (j + 1) (by omega) (by omega) _ _ ?_ hl0 hl1 hl2 rfl
            rw [hs]
            rw [if_pos ⟨Or.inr ⟨c_5, c_7⟩, c_10⟩]
set_option maxHeartbeats 4000000 in
theorem c5_addBytes (n : Nat) (K : Nat → Nat × Nat) (I : Nat → Nat → Int32) (L : Nat → Nat → Int64) (R : Nat → Nat → Option Nat) (t s : Nat) (v : Int64) (hT0 : kTp n K R t s) (ok : ktp I t) : Zm yX5_addBytes cX5_addBytes 6 none 0 0 0 0 [.ref t, .long v] ((n, K, I, L, R)) (kQ none n K (kfd I t s v 8) L R) := by
  refine Zm_of (lg := true) (by decide) (fun h => by cases h) (fun _ => Nat.le_of_ble_eq_true rfl) ?_
  show Zf x5_addBytes 0 0 0 (zargs [.ref t, .long v]) [] ((n, K, I, L, R)) _
  refine z_bipush (v := 56) dX5_addBytes_0 (by decide) ?_
  refine z_istore_nL (i := 3) dX5_addBytes_2 rfl (by decide) (zp_none (i := 2) rfl) ?_
  exact l5_add hT0 ok ⟨rfl, rfl⟩ 9 0 (by omega) (by omega) _ _ rfl rfl rfl rfl rfl
