/-! the bits of an int -/
def zbt (x : Int32) (i : Nat) : Bool := x.toBitVec.getLsbD i
theorem zbt_or (x y : Int32) (i : Nat) : zbt (x ||| y) i = (zbt x i || zbt y i) := by simp [zbt]
theorem zbt_and (x y : Int32) (i : Nat) : zbt (x &&& y) i = (zbt x i && zbt y i) := by simp [zbt]
theorem zbt_not (x : Int32) {i : Nat} (h : i < 32) : zbt (x ^^^ -1) i = !zbt x i := by
  simp only [zbt, Int32.toBitVec_xor, BitVec.getLsbD_xor]
  rw [show (-1 : Int32).toBitVec = BitVec.allOnes 32 by decide, BitVec.getLsbD_allOnes, decide_eq_true h]
  simp
theorem zsl : ∀ l, l < 32 → ((nI l &&& 31).toBitVec.smod 32).toNat = l := by decide +kernel
theorem zsu : ∀ l, l < 32 → (((nI l).toUInt32 &&& Int32.toUInt32 31).toBitVec % 32).toNat = l := by decide +kernel
theorem zbt_shl (x : Int32) {l i : Nat} (hl : l < 32) (hi : i < 32) : zbt (x <<< (nI l &&& 31)) i = (decide (l ≤ i) && zbt x (i - l)) := by
  simp only [zbt, Int32.toBitVec_shiftLeft, BitVec.shiftLeft_eq', zsl l hl, BitVec.getLsbD_shiftLeft]
  rw [decide_eq_true hi]
  by_cases h : l ≤ i
  · rw [decide_eq_true h, decide_eq_false (by omega)]; simp
  · rw [decide_eq_false h, decide_eq_true (by omega)]; simp
theorem zbt_ushr (x : Int32) {l : Nat} (hl : l < 32) (i : Nat) : zbt ((x.toUInt32 >>> ((nI l).toUInt32 &&& Int32.toUInt32 31)).toInt32) i = zbt x (l + i) := by
  show ((x.toUInt32 >>> ((nI l).toUInt32 &&& Int32.toUInt32 31)).toBitVec).getLsbD i = _
  rw [UInt32.toBitVec_shiftRight, BitVec.ushiftRight_eq', zsu l hl, BitVec.getLsbD_ushiftRight]
  rfl
theorem zbt_one : ∀ i, i < 32 → zbt 1 i = decide (i = 0) := by decide +kernel
theorem zbt_63 : ∀ i, i < 32 → zbt 63 i = decide (i < 6) := by decide +kernel
theorem zbt_0 (i : Nat) : zbt 0 i = false := by simp [zbt]
theorem zbt_ge (x : Int32) {i : Nat} (h : 32 ≤ i) : zbt x i = false := by
  unfold zbt
  exact BitVec.getLsbD_of_ge _ _ h
theorem zbt_ext {x y : Int32} (h : ∀ i, i < 32 → zbt x i = zbt y i) : x = y := by
  apply Int32.toBitVec_inj.mp
  apply BitVec.eq_of_getLsbD_eq
  intro i hi
  exact h i hi
theorem zbt_z (x : Int32) : x = 0 ↔ ∀ i, i < 32 → zbt x i = false :=
  ⟨fun h i _ => by rw [h, zbt_0], fun h => zbt_ext (fun i hi => by rw [h i hi, zbt_0])⟩
/-- the last bit -/
theorem zbt_a1 (x : Int32) : x &&& 1 = 0 ↔ zbt x 0 = false := by
  rw [zbt_z]
  constructor
  · intro h
    have := h 0 (by omega)
    rw [zbt_and, zbt_one 0 (by omega)] at this
    simpa using this
  · intro h i hi
    rw [zbt_and, zbt_one i hi]
    by_cases e : i = 0
    · subst e; rw [h]; rfl
    · rw [decide_eq_false e]; simp
theorem zbt_bit {l i : Nat} (hl : l < 32) (hi : i < 32) : zbt (1 <<< (nI l &&& 31)) i = decide (i = l) := by
  rw [zbt_shl 1 hl hi]
  by_cases h : l ≤ i
  · rw [decide_eq_true h, zbt_one _ (by omega)]
    by_cases e : i = l
    · rw [decide_eq_true e, decide_eq_true (by omega)]; rfl
    · rw [decide_eq_false e, decide_eq_false (by omega)]; rfl
  · rw [decide_eq_false h, decide_eq_false (by omega)]; rfl
/-- a board at b: what is taken at k, who is busy at z -/
def kBd (n : Nat) (K : Nat → Nat × Nat) (R : Nat → Nat → Option Nat) (b k z : Nat) : Prop := b < n ∧ k < n ∧ z < n ∧ K b = (5, 0) ∧ K k = (0, 7) ∧ K z = (0, 7) ∧ R b 0 = some k ∧ R b 1 = some z ∧ k ≠ z
def kput (I : Nat → Nat → Int32) (k z S : Nat) (cl : Int32) : Nat → Nat → Int32 := zu (zu I k (S / 24) (I k (S / 24) ||| (1 <<< (nI (S % 24) &&& 31)))) z (S / 24) (I z (S / 24) ||| cl)
def kdrop (I : Nat → Nat → Int32) (k z S : Nat) (cl : Int32) : Nat → Nat → Int32 := zu (zu I k (S / 24) (I k (S / 24) &&& ((1 <<< (nI (S % 24) &&& 31)) ^^^ -1))) z (S / 24) (I z (S / 24) &&& (cl ^^^ -1))
theorem kdiv24 {S : Nat} (h : S ≤ 100000) : nI S / 24 = nI (S / 24) := by rw [zl24, zdiv (by omega) (by omega) (by omega)]
theorem krem24 {S : Nat} (h : S ≤ 100000) : nI S - nI S / 24 * 24 = nI (S % 24) := by rw [zl24, zrem (by omega) (by omega) (by omega)]
abbrev x0_isSlot : ZX := (RX0, cX0_isSlot, 1, (some .boolean), "isSlot", 0, 0, false)
set_option maxHeartbeats 4000000 in
theorem c0_isSlot (n : Nat) (K : Nat → Nat × Nat) (I : Nat → Nat → Int32) (L : Nat → Nat → Int64) (R : Nat → Nat → Option Nat) (s : Int32) : Zm yX0_isSlot cX0_isSlot 1 (some .boolean) 0 0 0 0 [.int s] ((n, K, I, L, R)) (kQ (some (.int (if s < 0 then 0 else if 168 ≤ s then 0 else 1))) n K I L R) := by
  refine Zm_of (lg := false) (by decide) (fun _ => by simp [Value.category]) (fun _ => Nat.le_of_ble_eq_true rfl) ?_
  show Zf x0_isSlot 0 0 0 (zargs [.int s]) [] ((n, K, I, L, R)) _
  refine z_iload_n (i := 0) dX0_isSlot_0 rfl rfl ?_
  refine z_if_lt 15 dX0_isSlot_1 (by decide) (fun c_1 => ?_) (fun c_1 => ?_)
  · skip
    refine z_iconst (v := 0) dX0_isSlot_15 (by decide) ?_
    refine z_zret dX0_isSlot_16 rfl (by decide) ?_
    exact ⟨by simp [*], rfl⟩
  · skip
    refine z_iload_n (i := 0) dX0_isSlot_4 rfl rfl ?_
    refine z_sipush (v := 168) dX0_isSlot_5 (by decide) ?_
    refine z_icmp_ge 15 dX0_isSlot_8 (by decide) (fun c_2 => ?_) (fun c_2 => ?_)
    · skip
      refine z_iconst (v := 0) dX0_isSlot_15 (by decide) ?_
      refine z_zret dX0_isSlot_16 rfl (by decide) ?_
      exact ⟨by simp [*], rfl⟩
    · skip
      refine z_iconst (v := 1) dX0_isSlot_11 (by decide) ?_
      refine z_goto 16 dX0_isSlot_12 (by decide) ?_
      refine z_zret dX0_isSlot_16 rfl (by decide) ?_
      exact ⟨by simp [*], rfl⟩
theorem kisS {S : Nat} (h : S < 168) : (if nI S < 0 then (0 : Int32) else if 168 ≤ nI S then 0 else 1) = 1 := by
  rw [if_neg (by rw [zl0, zlt (by omega) (by omega)]; omega), if_neg (by rw [show (168 : Int32) = nI 168 from rfl, zle (by omega) (by omega)]; omega)]
abbrev x0_put : ZX := (RX0, cX0_put, 3, none, "put", 1, 40, false)
set_option maxHeartbeats 4000000 in
theorem c0_put (n : Nat) (K : Nat → Nat × Nat) (I : Nat → Nat → Int32) (L : Nat → Nat → Int64) (R : Nat → Nat → Option Nat) (b k z S : Nat) (cl : Int32) (hB : kBd n K R b k z) (hS : S < 168) : Zm yX0_put cX0_put 3 none 1 40 0 0 [.ref b, .int (nI S), .int cl] ((n, K, I, L, R)) (kQ none n K (kput I k z S cl) L R) := by
  refine Zm_of (lg := false) (by decide) (fun _ => by simp [Value.category]) (fun _ => Nat.le_of_ble_eq_true rfl) ?_
  show Zf x0_put 0 0 0 (zargs [.ref b, .int (nI S), .int cl]) [] ((n, K, I, L, R)) _
  generalize hQ0 : (kQ none n K (kput I k z S cl) L R : Option Value → ZH → Prop) = Q0
  obtain ⟨ha, hka, hza, hk, hkk, hzk, hr0, hr1, hkz⟩ := id hB
  refine z_iload_n (i := 1) dX0_put_0 rfl rfl ?_
  refine z_callS (st := []) (mc2 := 0) (ms2 := 0) zi0_18 zs_yX0_isSlot (c0_isSlot _ _ _ _ _ _) dX0_put_1 rfl rfl (by decide) (by decide) (Nat.le_of_ble_eq_true rfl) (by decide) (by decide) (fun r h2 hq => ?_)
  obtain ⟨rfl, rfl⟩ := hq
  rw [kisS hS]
  refine z_if_eq 38 dX0_put_4 (by decide) (fun c_1 => absurd c_1 (by decide)) (fun _ => ?_)
  refine z_aload_n (i := 0) dX0_put_7 rfl rfl ?_
  refine z_gR zf0_9.g dX0_put_8 ha hk hr0 ?_
  refine z_iload_n (i := 1) dX0_put_11 rfl rfl ?_
  refine z_bipush (v := 24) dX0_put_12 (by decide) ?_
  refine z_idiv dX0_put_14 (by decide) ?_
  rw [kdiv24 (by omega)]
  refine z_dup2 dX0_put_15 rfl rfl ?_
  refine z_iald dX0_put_16 hka hkk (zvin (by omega) (by omega)) ?_
  rw [zcl (by omega)]
  refine z_iconst (v := 1) dX0_put_17 (by decide) ?_
  refine z_iload_n (i := 1) dX0_put_18 rfl rfl ?_
  refine z_bipush (v := 24) dX0_put_19 (by decide) ?_
  refine z_irem dX0_put_21 (by decide) ?_
  rw [krem24 (by omega)]
  refine z_ishl dX0_put_22 ?_
  refine z_ior dX0_put_23 ?_
  refine z_iast dX0_put_24 hka hkk (zvin (by omega) (by omega)) ?_
  simp only [zcl (show S / 24 ≤ 100000 by omega)]
  refine z_aload_n (i := 0) dX0_put_25 rfl rfl ?_
  refine z_gR zf0_15.g dX0_put_26 ha hk hr1 ?_
  refine z_iload_n (i := 1) dX0_put_29 rfl rfl ?_
  refine z_bipush (v := 24) dX0_put_30 (by decide) ?_
  refine z_idiv dX0_put_32 (by decide) ?_
  rw [kdiv24 (by omega)]
  refine z_dup2 dX0_put_33 rfl rfl ?_
  refine z_iald dX0_put_34 hza hzk (zvin (by omega) (by omega)) ?_
  rw [zcl (by omega), zu_ne _ _ _ hkz.symm]
  refine z_iload_n (i := 2) dX0_put_35 rfl rfl ?_
  refine z_ior dX0_put_36 ?_
  refine z_iast dX0_put_37 hza hzk (zvin (by omega) (by omega)) ?_
  simp only [zcl (show S / 24 ≤ 100000 by omega)]
  refine z_vret dX0_put_38 rfl ?_
  subst hQ0
  exact ⟨rfl, rfl⟩
abbrev x0_drop : ZX := (RX0, cX0_drop, 3, none, "drop", 1, 40, false)
set_option maxHeartbeats 4000000 in
theorem c0_drop (n : Nat) (K : Nat → Nat × Nat) (I : Nat → Nat → Int32) (L : Nat → Nat → Int64) (R : Nat → Nat → Option Nat) (b k z S : Nat) (cl : Int32) (hB : kBd n K R b k z) (hS : S < 168) : Zm yX0_drop cX0_drop 3 none 1 40 0 0 [.ref b, .int (nI S), .int cl] ((n, K, I, L, R)) (kQ none n K (kdrop I k z S cl) L R) := by
  refine Zm_of (lg := false) (by decide) (fun _ => by simp [Value.category]) (fun _ => Nat.le_of_ble_eq_true rfl) ?_
  show Zf x0_drop 0 0 0 (zargs [.ref b, .int (nI S), .int cl]) [] ((n, K, I, L, R)) _
  generalize hQ0 : (kQ none n K (kdrop I k z S cl) L R : Option Value → ZH → Prop) = Q0
  obtain ⟨ha, hka, hza, hk, hkk, hzk, hr0, hr1, hkz⟩ := id hB
  refine z_iload_n (i := 1) dX0_drop_0 rfl rfl ?_
  refine z_callS (st := []) (mc2 := 0) (ms2 := 0) zi0_18 zs_yX0_isSlot (c0_isSlot _ _ _ _ _ _) dX0_drop_1 rfl rfl (by decide) (by decide) (Nat.le_of_ble_eq_true rfl) (by decide) (by decide) (fun r h2 hq => ?_)
  obtain ⟨rfl, rfl⟩ := hq
  rw [kisS hS]
  refine z_if_eq 42 dX0_drop_4 (by decide) (fun c_1 => absurd c_1 (by decide)) (fun _ => ?_)
  refine z_aload_n (i := 0) dX0_drop_7 rfl rfl ?_
  refine z_gR zf0_9.g dX0_drop_8 ha hk hr0 ?_
  refine z_iload_n (i := 1) dX0_drop_11 rfl rfl ?_
  refine z_bipush (v := 24) dX0_drop_12 (by decide) ?_
  refine z_idiv dX0_drop_14 (by decide) ?_
  rw [kdiv24 (by omega)]
  refine z_dup2 dX0_drop_15 rfl rfl ?_
  refine z_iald dX0_drop_16 hka hkk (zvin (by omega) (by omega)) ?_
  rw [zcl (by omega)]
  refine z_iconst (v := 1) dX0_drop_17 (by decide) ?_
  refine z_iload_n (i := 1) dX0_drop_18 rfl rfl ?_
  refine z_bipush (v := 24) dX0_drop_19 (by decide) ?_
  refine z_irem dX0_drop_21 (by decide) ?_
  rw [krem24 (by omega)]
  refine z_ishl dX0_drop_22 ?_
  refine z_iconst (v := (-1)) dX0_drop_23 (by decide) ?_
  refine z_ixor dX0_drop_24 ?_
  refine z_iand dX0_drop_25 ?_
  refine z_iast dX0_drop_26 hka hkk (zvin (by omega) (by omega)) ?_
  simp only [zcl (show S / 24 ≤ 100000 by omega)]
  refine z_aload_n (i := 0) dX0_drop_27 rfl rfl ?_
  refine z_gR zf0_15.g dX0_drop_28 ha hk hr1 ?_
  refine z_iload_n (i := 1) dX0_drop_31 rfl rfl ?_
  refine z_bipush (v := 24) dX0_drop_32 (by decide) ?_
  refine z_idiv dX0_drop_34 (by decide) ?_
  rw [kdiv24 (by omega)]
  refine z_dup2 dX0_drop_35 rfl rfl ?_
  refine z_iald dX0_drop_36 hza hzk (zvin (by omega) (by omega)) ?_
  rw [zcl (by omega), zu_ne _ _ _ hkz.symm]
  refine z_iload_n (i := 2) dX0_drop_37 rfl rfl ?_
  refine z_iconst (v := (-1)) dX0_drop_38 (by decide) ?_
  refine z_ixor dX0_drop_39 ?_
  refine z_iand dX0_drop_40 ?_
  refine z_iast dX0_drop_41 hza hzk (zvin (by omega) (by omega)) ?_
  simp only [zcl (show S / 24 ≤ 100000 by omega)]
  refine z_vret dX0_drop_42 rfl ?_
  subst hQ0
  exact ⟨rfl, rfl⟩
abbrev x0_has : ZX := (RX0, cX0_has, 2, (some .boolean), "has", 1, 40, false)
set_option maxHeartbeats 4000000 in
theorem c0_has (n : Nat) (K : Nat → Nat × Nat) (I : Nat → Nat → Int32) (L : Nat → Nat → Int64) (R : Nat → Nat → Option Nat) (b k z S : Nat) (hB : kBd n K R b k z) (hS : S < 168) : Zm yX0_has cX0_has 2 (some .boolean) 1 40 0 0 [.ref b, .int (nI S)] ((n, K, I, L, R)) (kQ (some (.int (zb (zbt (I k (S / 24)) (S % 24))))) n K I L R) := by
  refine Zm_of (lg := false) (by decide) (fun _ => by simp [Value.category]) (fun _ => Nat.le_of_ble_eq_true rfl) ?_
  show Zf x0_has 0 0 0 (zargs [.ref b, .int (nI S)]) [] ((n, K, I, L, R)) _
  generalize hQ0 : (kQ (some (.int (zb (zbt (I k (S / 24)) (S % 24))))) n K I L R : Option Value → ZH → Prop) = Q0
  obtain ⟨ha, hka, hza, hk, hkk, hzk, hr0, hr1, hkz⟩ := id hB
  refine z_iload_n (i := 1) dX0_has_0 rfl rfl ?_
  refine z_callS (st := []) (mc2 := 0) (ms2 := 0) zi0_18 zs_yX0_isSlot (c0_isSlot _ _ _ _ _ _) dX0_has_1 rfl rfl (by decide) (by decide) (Nat.le_of_ble_eq_true rfl) (by decide) (by decide) (fun r h2 hq => ?_)
  obtain ⟨rfl, rfl⟩ := hq
  rw [kisS hS]
  refine z_if_eq 30 dX0_has_4 (by decide) (fun c_1 => absurd c_1 (by decide)) (fun _ => ?_)
  refine z_aload_n (i := 0) dX0_has_7 rfl rfl ?_
  refine z_gR zf0_9.g dX0_has_8 ha hk hr0 ?_
  refine z_iload_n (i := 1) dX0_has_11 rfl rfl ?_
  refine z_bipush (v := 24) dX0_has_12 (by decide) ?_
  refine z_idiv dX0_has_14 (by decide) ?_
  rw [kdiv24 (by omega)]
  refine z_iald dX0_has_15 hka hkk (zvin (by omega) (by omega)) ?_
  rw [zcl (by omega)]
  refine z_iload_n (i := 1) dX0_has_16 rfl rfl ?_
  refine z_bipush (v := 24) dX0_has_17 (by decide) ?_
  refine z_irem dX0_has_19 (by decide) ?_
  rw [krem24 (by omega)]
  refine z_iushr dX0_has_20 rfl ?_
  refine z_iconst (v := 1) dX0_has_21 (by decide) ?_
  refine z_iand dX0_has_22 ?_
  refine z_if_eq 30 dX0_has_23 (by decide) (fun c_2 => ?_) (fun c_2 => ?_)
  · skip
    refine z_iconst (v := 0) dX0_has_30 (by decide) ?_
    refine z_zret dX0_has_31 rfl (by decide) ?_
    subst hQ0
    have h := (zbt_a1 _).mp c_2
    rw [zbt_ushr _ (by omega), Nat.add_zero] at h
    rw [h]
    exact ⟨rfl, rfl⟩
  · skip
    refine z_iconst (v := 1) dX0_has_26 (by decide) ?_
    refine z_goto 31 dX0_has_27 (by decide) ?_
    refine z_zret dX0_has_31 rfl (by decide) ?_
    subst hQ0
    have h : zbt (I k (S / 24)) (S % 24) = true := by
      rcases hh : zbt (I k (S / 24)) (S % 24) with _ | _
      · exact absurd ((zbt_a1 _).mpr (by rw [zbt_ushr _ (by omega), Nat.add_zero]; exact hh)) c_2
      · rfl
    rw [h]
    exact ⟨rfl, rfl⟩
def kclr (I : Nat → Nat → Int32) (k z m : Nat) : Nat → Nat → Int32 := fun a j => if (a = k ∨ a = z) ∧ j < m then 0 else I a j
theorem kclr_0 (I : Nat → Nat → Int32) (k z : Nat) : kclr I k z 0 = I := by
  funext a j
  unfold kclr
  rw [if_neg (by omega)]
theorem kclr_s (I : Nat → Nat → Int32) (k z m : Nat) : zu (zu (kclr I k z m) k m 0) z m 0 = kclr I k z (m + 1) := by
  funext a j
  rw [zu_apply, zu_apply]
  unfold kclr
  by_cases h1 : a = z ∧ j = m
  · rw [if_pos h1, if_pos (by omega)]
  · rw [if_neg h1]
    by_cases h2 : a = k ∧ j = m
    · rw [if_pos h2, if_pos (by omega)]
    · rw [if_neg h2]
      by_cases h3 : (a = k ∨ a = z) ∧ j < m
      · rw [if_pos h3, if_pos (by omega)]
      · rw [if_neg h3, if_neg (by omega)]
abbrev x0_clear : ZX := (RX0, cX0_clear, 2, none, "clear", 0, 0, false)
set_option maxHeartbeats 4000000 in
theorem l0_clear {n : Nat} {K : Nat → Nat × Nat} {I : Nat → Nat → Int32} {L : Nat → Nat → Int64} {R : Nat → Nat → Option Nat} {Q : Option Value → ZH → Prop} {b k z : Nat} (hB : kBd n K R b k z) (hQ : Q none (n, K, kclr I k z 7, L, R)) : ∀ (m j : Nat), 7 - j < m → j ≤ 7 → ∀ (J : Nat → Nat → Int32) (ls : Nat → Option Value), J = kclr I k z j → ls 0 = some (.ref b) → ls 1 = some (.int (nI j)) → Zf x0_clear 0 0 2 ls [] (n, K, J, L, R) Q := by
  intro m
  induction m with
  | zero => intro j h; omega
  | succ m ih =>
  intro j hm hj J ls hJ hl0 hl1
  subst hJ
  obtain ⟨ha, hka, hza, hk, hkk, hzk, hr0, hr1, hkz⟩ := id hB
  refine z_iload_n (i := 1) dX0_clear_2 rfl hl1 ?_
  refine z_bipush (v := 7) dX0_clear_3 (by decide) ?_
  rw [zl7]
  refine z_icmp_ge 28 dX0_clear_5 (by decide) (fun c_1 => ?_) (fun c_1 => ?_)
  · skip
    refine z_vret dX0_clear_28 rfl ?_
    have h1 := (zle (by omega) (by omega)).mp c_1
    have h2 : j = 7 := by omega
    subst h2
    exact hQ
  · skip
    have h1 : ¬ 7 ≤ j := fun q => c_1 ((zle (by omega) (by omega)).mpr q)
    refine z_aload_n (i := 0) dX0_clear_8 rfl hl0 ?_
    refine z_gR zf0_9.g dX0_clear_9 ha hk hr0 ?_
    refine z_iload_n (i := 1) dX0_clear_12 rfl hl1 ?_
    refine z_iconst (v := 0) dX0_clear_13 (by decide) ?_
    refine z_iast dX0_clear_14 hka hkk (zvin (by omega) (by omega)) ?_
    refine z_aload_n (i := 0) dX0_clear_15 rfl hl0 ?_
    refine z_gR zf0_15.g dX0_clear_16 ha hk hr1 ?_
    refine z_iload_n (i := 1) dX0_clear_19 rfl hl1 ?_
    refine z_iconst (v := 0) dX0_clear_20 (by decide) ?_
    refine z_iast dX0_clear_21 hza hzk (zvin (by omega) (by omega)) ?_
    refine z_iinc dX0_clear_22 hl1 rfl ?_
    refine z_goto 2 dX0_clear_25 (by decide) ?_
    rw [zinc]
    exact ih (j + 1) (by omega) (by omega) _ _ (by simp only [zcl (show j ≤ 100000 by omega)]; exact kclr_s I k z j) hl0 rfl
set_option maxHeartbeats 4000000 in
theorem c0_clear (n : Nat) (K : Nat → Nat × Nat) (I : Nat → Nat → Int32) (L : Nat → Nat → Int64) (R : Nat → Nat → Option Nat) (b k z : Nat) (hB : kBd n K R b k z) : Zm yX0_clear cX0_clear 2 none 0 0 0 0 [.ref b] ((n, K, I, L, R)) (kQ none n K (kclr I k z 7) L R) := by
  refine Zm_of (lg := false) (by decide) (fun _ => by simp [Value.category]) (fun _ => Nat.le_of_ble_eq_true rfl) ?_
  show Zf x0_clear 0 0 0 (zargs [.ref b]) [] ((n, K, I, L, R)) _
  refine z_iconst (v := 0) dX0_clear_0 (by decide) ?_
  refine z_istore_n (i := 1) dX0_clear_1 rfl (by decide) rfl ?_
  exact l0_clear hB ⟨rfl, rfl⟩ 8 0 (by omega) (by omega) _ _ (kclr_0 I k z).symm rfl rfl
def kso (ps hs : Int32) : Nat → Int32
  | 0 => 0
  | h + 1 => if zbt hs h = true then kso ps hs h ||| ((ps &&& 63) <<< (nI (6 * h) &&& 31)) else kso ps hs h
theorem kso_b (ps hs : Int32) : ∀ (h i : Nat), h ≤ 4 → i < 32 → zbt (kso ps hs h) i = (decide (i < 6 * h) && zbt hs (i / 6) && zbt ps (i % 6))
  | 0, i, _, _ => by simp [kso, zbt_0]
  | h + 1, i, hh, hi => by
    have ih := kso_b ps hs h i (by omega) hi
    simp only [kso]
    by_cases e : zbt hs h = true
    · rw [if_pos e, zbt_or, ih, zbt_shl _ (by omega) hi]
      by_cases h1 : i < 6 * h
      · rw [decide_eq_true h1, decide_eq_false (show ¬ 6 * h ≤ i by omega), decide_eq_true (show i < 6 * (h + 1) by omega)]
        simp
      · rw [decide_eq_false h1, decide_eq_true (show 6 * h ≤ i by omega), zbt_and, zbt_63 _ (by omega)]
        by_cases h2 : i < 6 * (h + 1)
        · rw [decide_eq_true h2, decide_eq_true (show i - 6 * h < 6 by omega), show i / 6 = h by omega, show i % 6 = i - 6 * h by omega, e]
          simp
        · rw [decide_eq_false h2, decide_eq_false (show ¬ i - 6 * h < 6 by omega)]
          simp
    · rw [if_neg e, ih]
      by_cases h1 : i < 6 * h
      · rw [decide_eq_true h1, decide_eq_true (show i < 6 * (h + 1) by omega)]
      · rw [decide_eq_false h1]
        by_cases h2 : i < 6 * (h + 1)
        · rw [decide_eq_true h2, show i / 6 = h by omega]
          have : zbt hs h = false := by
            rcases hh : zbt hs h with _ | _
            · rfl
            · exact absurd hh e
          rw [this]; simp
        · rw [decide_eq_false h2]
abbrev x0_slotsOfDay : ZX := (RX0, cX0_slotsOfDay, 4, (some .int), "slotsOfDay", 0, 0, false)
set_option maxHeartbeats 4000000 in
theorem l0_so {n : Nat} {K : Nat → Nat × Nat} {I : Nat → Nat → Int32} {L : Nat → Nat → Int64} {R : Nat → Nat → Option Nat} {Q : Option Value → ZH → Prop} {ps hs : Int32} (hQ : Q (some (.int (kso ps hs 4))) (n, K, I, L, R)) : ∀ (m j : Nat), 4 - j < m → j ≤ 4 → ∀ ls : Nat → Option Value, ls 0 = some (.int ps) → ls 1 = some (.int hs) → ls 2 = some (.int (kso ps hs j)) → ls 3 = some (.int (nI j)) → Zf x0_slotsOfDay 0 0 4 ls [] (n, K, I, L, R) Q := by
  intro m
  induction m with
  | zero => intro j h; omega
  | succ m ih =>
  intro j hm hj ls hl0 hl1 hl2 hl3
  refine z_iload_n (i := 3) dX0_slotsOfDay_4 rfl hl3 ?_
  refine z_iconst (v := 4) dX0_slotsOfDay_5 (by decide) ?_
  rw [zl4]
  refine z_icmp_ge 35 dX0_slotsOfDay_6 (by decide) (fun c_1 => ?_) (fun c_1 => ?_)
  · skip
    refine z_iload_n (i := 2) dX0_slotsOfDay_35 rfl hl2 ?_
    refine z_iret dX0_slotsOfDay_36 rfl ?_
    have h1 := (zle (by omega) (by omega)).mp c_1
    have h2 : j = 4 := by omega
    subst h2
    exact hQ
  · skip
    have h1 : ¬ 4 ≤ j := fun q => c_1 ((zle (by omega) (by omega)).mpr q)
    refine z_iload_n (i := 1) dX0_slotsOfDay_9 rfl hl1 ?_
    refine z_iload_n (i := 3) dX0_slotsOfDay_10 rfl hl3 ?_
    refine z_iushr dX0_slotsOfDay_11 rfl ?_
    refine z_iconst (v := 1) dX0_slotsOfDay_12 (by decide) ?_
    refine z_iand dX0_slotsOfDay_13 ?_
    refine z_if_eq 29 dX0_slotsOfDay_14 (by decide) (fun c_2 => ?_) (fun c_2 => ?_)
    · skip
      refine z_iinc dX0_slotsOfDay_29 hl3 rfl ?_
      refine z_goto 4 dX0_slotsOfDay_32 (by decide) ?_
      have h := (zbt_a1 _).mp c_2
      rw [zbt_ushr _ (by omega), Nat.add_zero] at h
      rw [zinc]
      exact ih (j + 1) (by omega) (by omega) _ hl0 hl1 (by rw [show kso ps hs (j + 1) = kso ps hs j by simp only [kso]; rw [if_neg (by rw [h]; decide)]]; exact hl2) rfl
    · skip
      refine z_iload_n (i := 2) dX0_slotsOfDay_17 rfl hl2 ?_
      refine z_iload_n (i := 0) dX0_slotsOfDay_18 rfl hl0 ?_
      refine z_bipush (v := 63) dX0_slotsOfDay_19 (by decide) ?_
      refine z_iand dX0_slotsOfDay_21 ?_
      refine z_iload_n (i := 3) dX0_slotsOfDay_22 rfl hl3 ?_
      refine z_bipush (v := 6) dX0_slotsOfDay_23 (by decide) ?_
      refine z_imul dX0_slotsOfDay_25 ?_
      rw [zl6, pk_mul, Nat.mul_comm j 6]
      refine z_ishl dX0_slotsOfDay_26 ?_
      refine z_ior dX0_slotsOfDay_27 ?_
      refine z_istore_n (i := 2) dX0_slotsOfDay_28 rfl (by decide) rfl ?_
      refine z_iinc dX0_slotsOfDay_29 hl3 rfl ?_
      refine z_goto 4 dX0_slotsOfDay_32 (by decide) ?_
      have h : zbt hs j = true := by
        rcases hh : zbt hs j with _ | _
        · exact absurd ((zbt_a1 _).mpr (by rw [zbt_ushr _ (by omega), Nat.add_zero]; exact hh)) c_2
        · rfl
      rw [zinc]
      exact ih (j + 1) (by omega) (by omega) _ hl0 hl1 (by rw [show kso ps hs (j + 1) = kso ps hs j ||| ((ps &&& 63) <<< (nI (6 * j) &&& 31)) by simp only [kso]; rw [if_pos h]]; rfl) rfl
set_option maxHeartbeats 4000000 in
theorem c0_slotsOfDay (n : Nat) (K : Nat → Nat × Nat) (I : Nat → Nat → Int32) (L : Nat → Nat → Int64) (R : Nat → Nat → Option Nat) (ps hs : Int32) : Zm yX0_slotsOfDay cX0_slotsOfDay 4 (some .int) 0 0 0 0 [.int ps, .int hs] ((n, K, I, L, R)) (kQ (some (.int (kso ps hs 4))) n K I L R) := by
  refine Zm_of (lg := false) (by decide) (fun _ => by simp [Value.category]) (fun _ => Nat.le_of_ble_eq_true rfl) ?_
  show Zf x0_slotsOfDay 0 0 0 (zargs [.int ps, .int hs]) [] ((n, K, I, L, R)) _
  refine z_iconst (v := 0) dX0_slotsOfDay_0 (by decide) ?_
  refine z_istore_n (i := 2) dX0_slotsOfDay_1 rfl (by decide) rfl ?_
  refine z_iconst (v := 0) dX0_slotsOfDay_2 (by decide) ?_
  refine z_istore_n (i := 3) dX0_slotsOfDay_3 rfl (by decide) rfl ?_
  exact l0_so ⟨rfl, rfl⟩ 5 0 (by omega) (by omega) _ rfl rfl rfl rfl
/-- the lowest bit from j on, at most 23 -/
def klb (x : Int32) : Nat → Nat → Nat
  | 0, j => j
  | m + 1, j => if j < 23 ∧ zbt x j = false then klb x m (j + 1) else j
abbrev x0_lowestBit : ZX := (RX0, cX0_lowestBit, 2, (some .int), "lowestBit", 0, 0, false)
set_option maxHeartbeats 4000000 in
theorem l0_lb {n : Nat} {K : Nat → Nat × Nat} {I : Nat → Nat → Int32} {L : Nat → Nat → Int64} {R : Nat → Nat → Option Nat} {Q : Option Value → ZH → Prop} {x : Int32} {r : Nat} (hQ : Q (some (.int (nI r))) (n, K, I, L, R)) : ∀ (m j : Nat), 23 - j < m → j ≤ 23 → klb x m j = r → ∀ ls : Nat → Option Value, ls 0 = some (.int x) → ls 1 = some (.int (nI j)) → Zf x0_lowestBit 0 0 2 ls [] (n, K, I, L, R) Q := by
  intro m
  induction m with
  | zero => intro j h; omega
  | succ m ih =>
  intro j hm hj he ls hl0 hl1
  simp only [klb] at he
  refine z_iload_n (i := 1) dX0_lowestBit_2 rfl hl1 ?_
  refine z_bipush (v := 23) dX0_lowestBit_3 (by decide) ?_
  rw [show (23 : Int32) = nI 23 from rfl]
  refine z_icmp_ge 22 dX0_lowestBit_5 (by decide) (fun c_1 => ?_) (fun c_1 => ?_)
  · skip
    refine z_iload_n (i := 1) dX0_lowestBit_22 rfl hl1 ?_
    refine z_iret dX0_lowestBit_23 rfl ?_
    have h1 := (zle (by omega) (by omega)).mp c_1
    rw [if_neg (by omega)] at he
    subst he
    exact hQ
  · skip
    have h1 : ¬ 23 ≤ j := fun q => c_1 ((zle (by omega) (by omega)).mpr q)
    refine z_iload_n (i := 0) dX0_lowestBit_8 rfl hl0 ?_
    refine z_iload_n (i := 1) dX0_lowestBit_9 rfl hl1 ?_
    refine z_iushr dX0_lowestBit_10 rfl ?_
    refine z_iconst (v := 1) dX0_lowestBit_11 (by decide) ?_
    refine z_iand dX0_lowestBit_12 ?_
    refine z_if_ne 22 dX0_lowestBit_13 (by decide) (fun c_2 => ?_) (fun c_2 => ?_)
    · skip
      refine z_iload_n (i := 1) dX0_lowestBit_22 rfl hl1 ?_
      refine z_iret dX0_lowestBit_23 rfl ?_
      rw [if_neg (fun q => c_2 ((zbt_a1 _).mpr (by rw [zbt_ushr _ (by omega), Nat.add_zero]; exact q.2)))] at he
      subst he
      exact hQ
    · skip
      refine z_iinc dX0_lowestBit_16 hl1 rfl ?_
      refine z_goto 2 dX0_lowestBit_19 (by decide) ?_
      have h := (zbt_a1 _).mp c_2
      rw [zbt_ushr _ (by omega), Nat.add_zero] at h
      rw [if_pos ⟨by omega, h⟩] at he
      rw [zinc]
      exact ih (j + 1) (by omega) (by omega) he _ hl0 rfl
set_option maxHeartbeats 4000000 in
theorem c0_lowestBit (n : Nat) (K : Nat → Nat × Nat) (I : Nat → Nat → Int32) (L : Nat → Nat → Int64) (R : Nat → Nat → Option Nat) (x : Int32) : Zm yX0_lowestBit cX0_lowestBit 2 (some .int) 0 0 0 0 [.int x] ((n, K, I, L, R)) (kQ (some (.int (nI (klb x 24 0)))) n K I L R) := by
  refine Zm_of (lg := false) (by decide) (fun _ => by simp [Value.category]) (fun _ => Nat.le_of_ble_eq_true rfl) ?_
  show Zf x0_lowestBit 0 0 0 (zargs [.int x]) [] ((n, K, I, L, R)) _
  refine z_iconst (v := 0) dX0_lowestBit_0 (by decide) ?_
  refine z_istore_n (i := 1) dX0_lowestBit_1 rfl (by decide) rfl ?_
  exact l0_lb ⟨rfl, rfl⟩ 24 0 (by omega) (by omega) rfl _ rfl rfl
