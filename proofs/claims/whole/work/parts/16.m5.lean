def mlays (I : Nat → Nat → Int32) (g : Nat) (s : Int32) : Nat → Nat → Int32 := zu (zu I 31 g 1) 32 g s
def munl (I : Nat → Nat → Int32) (g : Nat) : Nat → Nat → Int32 := zu (zu I 31 g 0) 32 g (-1)
def mWk (I : Nat → Nat → Int32) (g : Nat) : Nat := (I 29 g).toNatClampNeg
/-- k gives way to g: the ints behind it, or none -/
def mgw (I : Nat → Nat → Int32) (P G D k g : Nat) : Option (Nat → Nat → Int32) :=
  if mfs (munl I k) P G g (mWk I g) D true (-1) < 0 then none
  else if mfs (mlays (munl I k) g (mfs (munl I k) P G g (mWk I g) D true (-1))) P G k (mWk I k) D true (I 32 k) < 0 then none
  else some (mlays (mlays (munl I k) g (mfs (munl I k) P G g (mWk I g) D true (-1))) k (mfs (mlays (munl I k) g (mfs (munl I k) P G g (mWk I g) D true (-1))) P G k (mWk I k) D true (I 32 k)))
def mlk (I : Nat → Nat → Int32) (P G D g : Nat) : Nat → Nat → Option (Nat → Nat → Int32)
  | _, 0 => none
  | k, m + 1 => if I 31 k = 1 ∧ I 29 k = I 29 g then (match mgw I P G D k g with
    | some J => some J
    | none => mlk I P G D g (k + 1) m) else mlk I P G D g (k + 1) m
def mlo (I : Nat → Nat → Int32) (P G D g : Nat) : Option (Nat → Nat → Int32) := if mfs I P G g (mWk I g) D true (-1) < 0 then mlk I P G D g 0 G else some (mlays I g (mfs I P G g (mWk I g) D true (-1)))
/-- the answer of a method that may change the ints -/
abbrev mQo (I : Nat → Nat → Int32) (o : Option (Nat → Nat → Int32)) (L : Nat → Nat → Int64) : Option Value → ZH → Prop := mQ (some (.int (zb o.isSome))) (o.getD I) L
theorem zu_id {α : Type} (I : Nat → Nat → α) (a k : Nat) : zu I a k (I a k) = I := by
  funext b j
  rw [zu_apply]
  by_cases h : b = a ∧ j = k
  · rw [if_pos h, h.1, h.2]
  · rw [if_neg h]
theorem zu_zu {α : Type} (I : Nat → Nat → α) (a k : Nat) (v w : α) : zu (zu I a k v) a k w = zu I a k w := by
  funext b j
  rw [zu_apply, zu_apply, zu_apply]
  by_cases h : b = a ∧ j = k
  · rw [if_pos h, if_pos h]
  · rw [if_neg h, if_neg h, if_neg h]
theorem zu_comm {α : Type} (I : Nat → Nat → α) {a k b l : Nat} (v w : α) (h : ¬ (a = b ∧ k = l)) : zu (zu I a k v) b l w = zu (zu I b l w) a k v := by
  funext c j
  rw [zu_apply, zu_apply, zu_apply, zu_apply]
  by_cases h1 : c = b ∧ j = l
  · rw [if_pos h1, if_neg (fun h2 => h ⟨h2.1.symm.trans h1.1, h2.2.symm.trans h1.2⟩), if_pos h1]
  · rw [if_neg h1, if_neg h1]
theorem zu_set {α : Type} {I : Nat → Nat → α} {a k : Nat} {v : α} (h : I a k = v) : zu I a k v = I := by rw [← h]; exact zu_id I a k
theorem mback1 {I : Nat → Nat → Int32} {k : Nat} (h : I 31 k = 1) : mlays (munl I k) k (I 32 k) = I := by
  unfold mlays munl
  rw [zu_comm (zu I 31 k 0) (-1) 1 (by omega), zu_zu, zu_zu, zu_set h, zu_id]
theorem mback2 {I : Nat → Nat → Int32} {k g : Nat} {s : Int32} (h : I 31 k = 1) (h1 : I 31 g = 0) (h2 : I 32 g = -1) (hn : k ≠ g) : mlays (munl (mlays (munl I k) g s) g) k (I 32 k) = I := by
  have e : munl (mlays (munl I k) g s) g = munl I k := by
    have a1 : munl I k 31 g = 0 := by
      unfold munl
      rw [zu_apply, if_neg (by omega), zu_apply, if_neg (by omega)]; exact h1
    have a2 : munl I k 32 g = -1 := by
      unfold munl
      rw [zu_apply, if_neg (by omega), zu_apply, if_neg (by omega)]; exact h2
    show zu (zu (zu (zu (munl I k) 31 g 1) 32 g s) 31 g 0) 32 g (-1) = munl I k
    rw [zu_comm (zu (munl I k) 31 g 1) s 0 (by omega), zu_zu, zu_zu, zu_set a1, zu_set a2]
  rw [e]
  exact mback1 h
theorem mWk_of {I : Nat → Nat → Int32} {g W : Nat} (h : I 29 g = nI W) (hW : W ≤ 50) : mWk I g = W := by unfold mWk; rw [h]; exact zcl (by omega)
abbrev x9_givesWay : ZX := (RX9, cX9_givesWay, 6, (some .boolean), "givesWay", 4, 160, false)
set_option maxHeartbeats 4000000 in
theorem c9_givesWay (I : Nat → Nat → Int32) (L : Nat → Nat → Int64) (P G D : Nat) (hP : P ≤ 6) (hG : G ≤ 60) (hD : D ≤ 357) (h24 : I 0 24 = nI P) (h35 : I 0 35 = nI G) (h34 : I 0 34 = nI D) (k g Wk Wg : Nat) (hk : k < G) (hg : g < G) (hkg : k ≠ g) (hWk : Wk ≤ 50) (hWg : Wg ≤ 50) (h29 : I 29 g = nI Wg) (h29k : I 29 k = nI Wk) (hk1 : I 31 k = 1) (hg0 : I 31 g = 0) (hg1 : I 32 g = -1) : Zm yX9_givesWay cX9_givesWay 6 (some .boolean) 4 160 0 0 [.ref 0, .int (nI k), .int (nI g)] (mh I L) (mQo I (mgw I P G D k g) L) := by
  refine Zm_of (lg := false) (by decide) (fun _ => by simp [Value.category]) (fun _ => Nat.le_of_ble_eq_true rfl) ?_
  show Zf x9_givesWay 0 0 0 (zargs [.ref 0, .int (nI k), .int (nI g)]) [] (mh I L) _
  have eg := mWk_of h29 hWg
  have ek := mWk_of h29k hWk
  have z1 : zb true = 1 := rfl
  refine z_aload_n (i := 0) dX9_givesWay_0 rfl rfl ?_
  refine z_gR zf9_128.g dX9_givesWay_1 (by decide) rfl rfl ?_
  refine z_iload_n (i := 1) dX9_givesWay_4 rfl rfl ?_
  refine z_iald dX9_givesWay_5 (by decide) rfl (zvin (by omega) (by omega)) ?_
  rw [zcl (show k ≤ 100000 by omega)]
  refine z_istore_n (i := 3) dX9_givesWay_6 rfl (by decide) rfl ?_
  refine z_aload_n (i := 0) dX9_givesWay_7 rfl rfl ?_
  refine z_gR zf9_125.g dX9_givesWay_8 (by decide) rfl rfl ?_
  refine z_iload_n (i := 1) dX9_givesWay_11 rfl rfl ?_
  refine z_iconst (v := 0) dX9_givesWay_12 (by decide) ?_
  refine z_iast dX9_givesWay_13 (by decide) rfl (zvin (by omega) (by omega)) ?_
  refine z_aload_n (i := 0) dX9_givesWay_14 rfl rfl ?_
  refine z_gR zf9_128.g dX9_givesWay_15 (by decide) rfl rfl ?_
  refine z_iload_n (i := 1) dX9_givesWay_18 rfl rfl ?_
  refine z_iconst (v := (-1)) dX9_givesWay_19 (by decide) ?_
  refine z_iast dX9_givesWay_20 (by decide) rfl (zvin (by omega) (by omega)) ?_
  simp only [zcl (show k ≤ 100000 by omega)]
  refine z_aload_n (i := 0) dX9_givesWay_21 rfl rfl ?_
  refine z_iload_n (i := 2) dX9_givesWay_22 rfl rfl ?_
  refine z_aload_n (i := 0) dX9_givesWay_23 rfl rfl ?_
  refine z_gI zf9_239.g dX9_givesWay_24 (by decide) rfl ?_
  refine z_iconst (v := 1) dX9_givesWay_27 (by decide) ?_
  refine z_iconst (v := (-1)) dX9_givesWay_28 (by decide) ?_
  rw [show zu (zu I 31 k 0) 32 k (-1) 0 34 = I 0 34 from rfl, h34, ← z1]
  refine z_callV (st := []) (mc2 := 0) (ms2 := 0) zi9_269 zv_yX9_firstSlot (c9_firstSlot (munl I k) L P G g Wg D true (-1) hP hG hg hWg (by omega) h24 h35 h29) dX9_givesWay_29 (show (0 : Nat) < 35 by decide) rfl rfl rfl rfl (by decide) (by decide) (Nat.le_of_ble_eq_true rfl) (by decide) (by decide) (fun r h2 hq => ?_)
  obtain ⟨rfl, rfl⟩ := hq
  refine z_istore (i := 4) dX9_givesWay_32 (by decide) rfl ?_
  refine z_iload dX9_givesWay_34 rfl ?_
  refine z_if_lt 87 dX9_givesWay_36 (by decide) (fun c_1 => ?_) (fun c_1 => ?_)
  · skip
    try simp only [zcl (show g ≤ 100000 by omega)]
    refine z_aload_n (i := 0) dX9_givesWay_87 rfl rfl ?_
    refine z_iload_n (i := 1) dX9_givesWay_88 rfl rfl ?_
    refine z_iload_n (i := 3) dX9_givesWay_89 rfl rfl ?_
    refine z_callV (st := []) (mc2 := 0) (ms2 := 0) zi9_273 zv_yX9_lays (c9_lays (munl I k) L k (I 32 k) (by omega)) dX9_givesWay_90 (show (0 : Nat) < 35 by decide) rfl rfl rfl rfl (by decide) (by decide) (Nat.le_of_ble_eq_true rfl) (by decide) (by decide) (fun r h2 hq => ?_)
    obtain ⟨rfl, rfl⟩ := hq
    try simp only [Option.toList, List.nil_append]
    refine z_iconst (v := 0) dX9_givesWay_93 (by decide) ?_
    refine z_zret dX9_givesWay_94 rfl (by decide) ?_
    have e : mgw I P G D k g = none := by unfold mgw; rw [eg]; exact if_pos c_1
    rw [e]
    exact ⟨rfl, by rw [show zu (zu (munl I k) 31 k 1) 32 k (I 32 k) = I from mback1 hk1]; rfl⟩
  · skip
    refine z_aload_n (i := 0) dX9_givesWay_39 rfl rfl ?_
    refine z_iload_n (i := 2) dX9_givesWay_40 rfl rfl ?_
    refine z_iload dX9_givesWay_41 rfl ?_
    refine z_callV (st := []) (mc2 := 0) (ms2 := 0) zi9_273 zv_yX9_lays (c9_lays (munl I k) L g (mfs (munl I k) P G g Wg D true (-1)) (by omega)) dX9_givesWay_43 (show (0 : Nat) < 35 by decide) rfl rfl rfl rfl (by decide) (by decide) (Nat.le_of_ble_eq_true rfl) (by decide) (by decide) (fun r h2 hq => ?_)
    obtain ⟨rfl, rfl⟩ := hq
    try simp only [Option.toList, List.nil_append]
    refine z_aload_n (i := 0) dX9_givesWay_46 rfl rfl ?_
    refine z_iload_n (i := 1) dX9_givesWay_47 rfl rfl ?_
    refine z_aload_n (i := 0) dX9_givesWay_48 rfl rfl ?_
    refine z_gI zf9_239.g dX9_givesWay_49 (by decide) rfl ?_
    refine z_iconst (v := 1) dX9_givesWay_52 (by decide) ?_
    refine z_iload_n (i := 3) dX9_givesWay_53 rfl rfl ?_
    rw [show zu (zu (munl I k) 31 g 1) 32 g (mfs (munl I k) P G g Wg D true (-1)) 0 34 = I 0 34 from rfl, h34, ← z1]
    refine z_callV (st := []) (mc2 := 0) (ms2 := 0) zi9_269 zv_yX9_firstSlot (c9_firstSlot (mlays (munl I k) g (mfs (munl I k) P G g Wg D true (-1))) L P G k Wk D true _ hP hG hk hWk (by omega) h24 h35 h29k) dX9_givesWay_54 (show (0 : Nat) < 35 by decide) rfl rfl rfl rfl (by decide) (by decide) (Nat.le_of_ble_eq_true rfl) (by decide) (by decide) (fun r h2 hq => ?_)
    obtain ⟨rfl, rfl⟩ := hq
    refine z_istore (i := 5) dX9_givesWay_57 (by decide) rfl ?_
    refine z_iload dX9_givesWay_59 rfl ?_
    refine z_if_lt 73 dX9_givesWay_61 (by decide) (fun c_2 => ?_) (fun c_2 => ?_)
    · skip
      refine z_aload_n (i := 0) dX9_givesWay_73 rfl rfl ?_
      refine z_gR zf9_125.g dX9_givesWay_74 (by decide) rfl rfl ?_
      refine z_iload_n (i := 2) dX9_givesWay_77 rfl rfl ?_
      refine z_iconst (v := 0) dX9_givesWay_78 (by decide) ?_
      refine z_iast dX9_givesWay_79 (by decide) rfl (zvin (by omega) (by omega)) ?_
      refine z_aload_n (i := 0) dX9_givesWay_80 rfl rfl ?_
      refine z_gR zf9_128.g dX9_givesWay_81 (by decide) rfl rfl ?_
      refine z_iload_n (i := 2) dX9_givesWay_84 rfl rfl ?_
      refine z_iconst (v := (-1)) dX9_givesWay_85 (by decide) ?_
      refine z_iast dX9_givesWay_86 (by decide) rfl (zvin (by omega) (by omega)) ?_
      try simp only [zcl (show g ≤ 100000 by omega)]
      refine z_aload_n (i := 0) dX9_givesWay_87 rfl rfl ?_
      refine z_iload_n (i := 1) dX9_givesWay_88 rfl rfl ?_
      refine z_iload_n (i := 3) dX9_givesWay_89 rfl rfl ?_
      refine z_callV (st := []) (mc2 := 0) (ms2 := 0) zi9_273 zv_yX9_lays (c9_lays (munl (mlays (munl I k) g (mfs (munl I k) P G g Wg D true (-1))) g) L k (I 32 k) (by omega)) dX9_givesWay_90 (show (0 : Nat) < 35 by decide) rfl rfl rfl rfl (by decide) (by decide) (Nat.le_of_ble_eq_true rfl) (by decide) (by decide) (fun r h2 hq => ?_)
      obtain ⟨rfl, rfl⟩ := hq
      try simp only [Option.toList, List.nil_append]
      refine z_iconst (v := 0) dX9_givesWay_93 (by decide) ?_
      refine z_zret dX9_givesWay_94 rfl (by decide) ?_
      have e : mgw I P G D k g = none := by unfold mgw; rw [eg, ek, if_neg c_1]; exact if_pos c_2
      rw [e]
      exact ⟨rfl, by rw [show zu (zu (munl (mlays (munl I k) g (mfs (munl I k) P G g Wg D true (-1))) g) 31 k 1) 32 k (I 32 k) = I from mback2 hk1 hg0 hg1 hkg]; rfl⟩
    · skip
      refine z_aload_n (i := 0) dX9_givesWay_64 rfl rfl ?_
      refine z_iload_n (i := 1) dX9_givesWay_65 rfl rfl ?_
      refine z_iload dX9_givesWay_66 rfl ?_
      refine z_callV (st := []) (mc2 := 0) (ms2 := 0) zi9_273 zv_yX9_lays (c9_lays (mlays (munl I k) g (mfs (munl I k) P G g Wg D true (-1))) L k _ (by omega)) dX9_givesWay_68 (show (0 : Nat) < 35 by decide) rfl rfl rfl rfl (by decide) (by decide) (Nat.le_of_ble_eq_true rfl) (by decide) (by decide) (fun r h2 hq => ?_)
      obtain ⟨rfl, rfl⟩ := hq
      try simp only [Option.toList, List.nil_append]
      refine z_iconst (v := 1) dX9_givesWay_71 (by decide) ?_
      refine z_zret dX9_givesWay_72 rfl (by decide) ?_
      unfold mgw
      rw [eg, ek, if_neg c_1, if_neg c_2]
      exact ⟨rfl, rfl⟩
abbrev x9_laysOne : ZX := (RX9, cX9_laysOne, 4, (some .boolean), "laysOne", 5, 200, false)
set_option maxHeartbeats 4000000 in
theorem l9_laysOne {I : Nat → Nat → Int32} {L : Nat → Nat → Int64} {Q : Option Value → ZH → Prop} {P G D : Nat} (hP : P ≤ 6) (hG : G ≤ 60) (hD : D ≤ 357) (h24 : I 0 24 = nI P) (h35 : I 0 35 = nI G) (h34 : I 0 34 = nI D) {g : Nat} (hw : ∀ g, g < G → ∃ W, W ≤ 50 ∧ I 29 g = nI W) (hg : g < G) (hg0 : I 31 g = 0) (hg1 : I 32 g = -1) (hQ : mQo I (mlk I P G D g 0 G) L = Q) : ∀ (m j : Nat), G - j < m → j ≤ G → mlk I P G D g j (G - j) = mlk I P G D g 0 G → ∀ ls : Nat → Option Value, ls 0 = some (.ref 0) → ls 1 = some (.int (nI g)) → ls 3 = some (.int (nI j)) → Zf x9_laysOne 0 0 26 ls [] (mh I L) Q := by
  intro m
  induction m with
  | zero => intro j h; omega
  | succ m ih =>
  intro j hm hj hk ls hl0 hl1 hl3
  obtain ⟨Wg, hWg, h29⟩ := hw g hg
  refine z_iload_n (i := 3) dX9_laysOne_26 rfl hl3 ?_
  refine z_aload_n (i := 0) dX9_laysOne_27 rfl hl0 ?_
  refine z_gI zf9_253.g dX9_laysOne_28 (by decide) rfl ?_
  rw [h35]
  refine z_icmp_ge 76 dX9_laysOne_31 (by decide) (fun c_1 => ?_) (fun c_1 => ?_)
  · skip
    refine z_iconst (v := 0) dX9_laysOne_76 (by decide) ?_
    refine z_zret dX9_laysOne_77 rfl (by decide) ?_
    have h1 := (zle (by omega) (by omega)).mp c_1
    rw [show G - j = 0 by omega] at hk
    rw [← hQ, ← hk]
    exact ⟨rfl, rfl⟩
  · skip
    have h1 : ¬ G ≤ j := fun q => c_1 ((zle (by omega) (by omega)).mpr q)
    obtain ⟨q, hq⟩ : ∃ q, G - j = q + 1 := ⟨G - j - 1, by omega⟩
    have hq2 : G - (j + 1) = q := by omega
    have hs : mlk I P G D g j (q + 1) = if I 31 j = 1 ∧ I 29 j = I 29 g then (match mgw I P G D j g with | some J => some J | none => mlk I P G D g (j + 1) q) else mlk I P G D g (j + 1) q := rfl
    rw [hq] at hk
    obtain ⟨Wj, hWj, h29j⟩ := hw j (by omega)
    refine z_aload_n (i := 0) dX9_laysOne_34 rfl hl0 ?_
    refine z_gR zf9_125.g dX9_laysOne_35 (by decide) rfl rfl ?_
    refine z_iload_n (i := 3) dX9_laysOne_38 rfl hl3 ?_
    refine z_iald dX9_laysOne_39 (by decide) rfl (zvin (by omega) (by omega)) ?_
    rw [zcl (by omega)]
    refine z_iconst (v := 1) dX9_laysOne_40 (by decide) ?_
    refine z_icmp_ne 70 dX9_laysOne_41 (by decide) (fun c_2 => ?_) (fun c_2 => ?_)
    · skip
      refine z_iinc dX9_laysOne_70 hl3 rfl ?_
      refine z_goto 26 dX9_laysOne_73 (by decide) ?_
      rw [zinc]
      rw [if_neg (fun h => c_2 h.1)] at hs
      exact ih (j + 1) (by omega) (by omega) (by rw [hq2, ← hk, hs]) _ hl0 hl1 rfl
    · skip
      refine z_aload_n (i := 0) dX9_laysOne_44 rfl hl0 ?_
      refine z_gR zf9_119.g dX9_laysOne_45 (by decide) rfl rfl ?_
      refine z_iload_n (i := 3) dX9_laysOne_48 rfl hl3 ?_
      refine z_iald dX9_laysOne_49 (by decide) rfl (zvin (by omega) (by omega)) ?_
      rw [zcl (by omega)]
      refine z_aload_n (i := 0) dX9_laysOne_50 rfl hl0 ?_
      refine z_gR zf9_119.g dX9_laysOne_51 (by decide) rfl rfl ?_
      refine z_iload_n (i := 1) dX9_laysOne_54 rfl hl1 ?_
      refine z_iald dX9_laysOne_55 (by decide) rfl (zvin (by omega) (by omega)) ?_
      rw [zcl (by omega)]
      refine z_icmp_ne 70 dX9_laysOne_56 (by decide) (fun c_3 => ?_) (fun c_3 => ?_)
      · skip
        refine z_iinc dX9_laysOne_70 hl3 rfl ?_
        refine z_goto 26 dX9_laysOne_73 (by decide) ?_
        rw [zinc]
        rw [if_neg (fun h => c_3 h.2)] at hs
        exact ih (j + 1) (by omega) (by omega) (by rw [hq2, ← hk, hs]) _ hl0 hl1 rfl
      · skip
        refine z_aload_n (i := 0) dX9_laysOne_59 rfl hl0 ?_
        refine z_iload_n (i := 3) dX9_laysOne_60 rfl hl3 ?_
        refine z_iload_n (i := 1) dX9_laysOne_61 rfl hl1 ?_
        refine z_callV (st := []) (mc2 := 0) (ms2 := 0) zi9_276 zv_yX9_givesWay (c9_givesWay I L P G D hP hG hD h24 h35 h34 j g Wj Wg (by omega) hg (fun e => by subst e; rw [hg0] at c_2; exact absurd c_2 (by decide)) hWj hWg h29 h29j c_2 hg0 hg1) dX9_laysOne_62 (show (0 : Nat) < 35 by decide) rfl rfl rfl rfl (by decide) (by decide) (Nat.le_of_ble_eq_true rfl) (by decide) (by decide) (fun r h2 hq3 => ?_)
        obtain ⟨rfl, rfl⟩ := hq3
        rw [if_pos ⟨c_2, c_3⟩] at hs
        refine z_if_eq 70 dX9_laysOne_65 (by decide) (fun c_4 => ?_) (fun c_4 => ?_)
        · skip
          refine z_iinc dX9_laysOne_70 hl3 rfl ?_
          refine z_goto 26 dX9_laysOne_73 (by decide) ?_
          have hb := (zb_0 _).mp c_4
          cases hgw : mgw I P G D j g with
          | some J => rw [hgw] at hb; cases hb
          | none =>
            rw [hgw] at hs
            rw [zinc]
            exact ih (j + 1) (by omega) (by omega) (by rw [hq2, ← hk, hs]) _ hl0 hl1 rfl
        · skip
          refine z_iconst (v := 1) dX9_laysOne_68 (by decide) ?_
          refine z_zret dX9_laysOne_69 rfl (by decide) ?_
          have hb := (zb_n _).mp c_4
          cases hgw : mgw I P G D j g with
          | none => rw [hgw] at hb; cases hb
          | some J =>
            rw [hgw] at hs
            rw [← hQ, ← hk, hs]
            exact ⟨rfl, rfl⟩
set_option maxHeartbeats 4000000 in
theorem c9_laysOne (I : Nat → Nat → Int32) (L : Nat → Nat → Int64) (P G D : Nat) (hP : P ≤ 6) (hG : G ≤ 60) (hD : D ≤ 357) (h24 : I 0 24 = nI P) (h35 : I 0 35 = nI G) (h34 : I 0 34 = nI D) (g : Nat) (hw : ∀ g, g < G → ∃ W, W ≤ 50 ∧ I 29 g = nI W) (hg : g < G) (hg0 : I 31 g = 0) (hg1 : I 32 g = -1) : Zm yX9_laysOne cX9_laysOne 4 (some .boolean) 5 200 0 0 [.ref 0, .int (nI g)] (mh I L) (mQo I (mlo I P G D g) L) := by
  refine Zm_of (lg := false) (by decide) (fun _ => by simp [Value.category]) (fun _ => Nat.le_of_ble_eq_true rfl) ?_
  show Zf x9_laysOne 0 0 0 (zargs [.ref 0, .int (nI g)]) [] (mh I L) _
  obtain ⟨Wg, hWg, h29⟩ := hw g hg
  have eg := mWk_of h29 hWg
  have z1 : zb true = 1 := rfl
  refine z_aload_n (i := 0) dX9_laysOne_0 rfl rfl ?_
  refine z_iload_n (i := 1) dX9_laysOne_1 rfl rfl ?_
  refine z_aload_n (i := 0) dX9_laysOne_2 rfl rfl ?_
  refine z_gI zf9_239.g dX9_laysOne_3 (by decide) rfl ?_
  refine z_iconst (v := 1) dX9_laysOne_6 (by decide) ?_
  refine z_iconst (v := (-1)) dX9_laysOne_7 (by decide) ?_
  rw [h34, ← z1]
  refine z_callV (st := []) (mc2 := 0) (ms2 := 0) zi9_269 zv_yX9_firstSlot (c9_firstSlot I L P G g Wg D true (-1) hP hG hg hWg (by omega) h24 h35 h29) dX9_laysOne_8 (show (0 : Nat) < 35 by decide) rfl rfl rfl rfl (by decide) (by decide) (Nat.le_of_ble_eq_true rfl) (by decide) (by decide) (fun r h2 hq => ?_)
  obtain ⟨rfl, rfl⟩ := hq
  refine z_istore_n (i := 2) dX9_laysOne_11 rfl (by decide) rfl ?_
  refine z_iload_n (i := 2) dX9_laysOne_12 rfl rfl ?_
  refine z_if_lt 24 dX9_laysOne_13 (by decide) (fun c_1 => ?_) (fun c_1 => ?_)
  · skip
    refine z_iconst (v := 0) dX9_laysOne_24 (by decide) ?_
    refine z_istore_n (i := 3) dX9_laysOne_25 rfl (by decide) rfl ?_
    have e : mlo I P G D g = mlk I P G D g 0 G := by unfold mlo; rw [eg]; exact if_pos c_1
    rw [e]
    exact l9_laysOne hP hG hD h24 h35 h34 hw hg hg0 hg1 rfl (G + 1) 0 (by omega) (by omega) rfl _ rfl rfl rfl
  · skip
    refine z_aload_n (i := 0) dX9_laysOne_16 rfl rfl ?_
    refine z_iload_n (i := 1) dX9_laysOne_17 rfl rfl ?_
    refine z_iload_n (i := 2) dX9_laysOne_18 rfl rfl ?_
    refine z_callV (st := []) (mc2 := 0) (ms2 := 0) zi9_273 zv_yX9_lays (c9_lays I L g _ (by omega)) dX9_laysOne_19 (show (0 : Nat) < 35 by decide) rfl rfl rfl rfl (by decide) (by decide) (Nat.le_of_ble_eq_true rfl) (by decide) (by decide) (fun r h2 hq => ?_)
    obtain ⟨rfl, rfl⟩ := hq
    try simp only [Option.toList, List.nil_append]
    refine z_iconst (v := 1) dX9_laysOne_22 (by decide) ?_
    refine z_zret dX9_laysOne_23 rfl (by decide) ?_
    unfold mlo
    rw [eg, if_neg c_1]
    exact ⟨rfl, rfl⟩
abbrev x9_movesOn : ZX := (RX9, cX9_movesOn, 3, none, "movesOn", 4, 160, false)
set_option maxHeartbeats 4000000 in
theorem c9_movesOn (I : Nat → Nat → Int32) (L : Nat → Nat → Int64) (P G D : Nat) (hP : P ≤ 6) (hG : G ≤ 60) (hD : D ≤ 357) (h24 : I 0 24 = nI P) (h35 : I 0 35 = nI G) (h34 : I 0 34 = nI D) (g W : Nat) (hW : W ≤ 50) (hg : g < G) (h29 : I 29 g = nI W) : Zm yX9_movesOn cX9_movesOn 3 none 4 160 0 0 [.ref 0, .int (nI g)] (mh I L) (mQ none (if mfs I P G g W (D + 1) false (-1) < 0 then zu (zu I 31 g 3) 32 g (-1) else zu (mlays I g (mfs I P G g W (D + 1) false (-1))) 33 g (I 33 g + 1)) L) := by
  refine Zm_of (lg := false) (by decide) (fun _ => by simp [Value.category]) (fun _ => Nat.le_of_ble_eq_true rfl) ?_
  show Zf x9_movesOn 0 0 0 (zargs [.ref 0, .int (nI g)]) [] (mh I L) _
  generalize hQ0 : (mQ none (if mfs I P G g W (D + 1) false (-1) < 0 then zu (zu I 31 g 3) 32 g (-1) else zu (mlays I g (mfs I P G g W (D + 1) false (-1))) 33 g (I 33 g + 1)) L : Option Value → ZH → Prop) = Q0
  have z1 : zb false = 0 := rfl
  refine z_aload_n (i := 0) dX9_movesOn_0 rfl rfl ?_
  refine z_iload_n (i := 1) dX9_movesOn_1 rfl rfl ?_
  refine z_aload_n (i := 0) dX9_movesOn_2 rfl rfl ?_
  refine z_gI zf9_239.g dX9_movesOn_3 (by decide) rfl ?_
  rw [h34]
  refine z_iconst (v := 1) dX9_movesOn_6 (by decide) ?_
  refine z_iadd dX9_movesOn_7 ?_
  refine z_top (y := .int (nI (D + 1))) (by rw [zl1, nI_add]) ?_
  refine z_iconst (v := 0) dX9_movesOn_8 (by decide) ?_
  refine z_iconst (v := (-1)) dX9_movesOn_9 (by decide) ?_
  rw [← z1]
  refine z_callV (st := []) (mc2 := 0) (ms2 := 0) zi9_269 zv_yX9_firstSlot (c9_firstSlot I L P G g W (D + 1) false (-1) hP hG hg hW (by omega) h24 h35 h29) dX9_movesOn_10 (show (0 : Nat) < 35 by decide) rfl rfl rfl rfl (by decide) (by decide) (Nat.le_of_ble_eq_true rfl) (by decide) (by decide) (fun r h2 hq => ?_)
  obtain ⟨rfl, rfl⟩ := hq
  refine z_istore_n (i := 2) dX9_movesOn_13 rfl (by decide) rfl ?_
  refine z_iload_n (i := 2) dX9_movesOn_14 rfl rfl ?_
  refine z_if_lt 37 dX9_movesOn_15 (by decide) (fun c_1 => ?_) (fun c_1 => ?_)
  · skip
    refine z_aload_n (i := 0) dX9_movesOn_37 rfl rfl ?_
    refine z_gR zf9_125.g dX9_movesOn_38 (by decide) rfl rfl ?_
    refine z_iload_n (i := 1) dX9_movesOn_41 rfl rfl ?_
    refine z_iconst (v := 3) dX9_movesOn_42 (by decide) ?_
    refine z_iast dX9_movesOn_43 (by decide) rfl (zvin (by omega) (by omega)) ?_
    refine z_aload_n (i := 0) dX9_movesOn_44 rfl rfl ?_
    refine z_gR zf9_128.g dX9_movesOn_45 (by decide) rfl rfl ?_
    refine z_iload_n (i := 1) dX9_movesOn_48 rfl rfl ?_
    refine z_iconst (v := (-1)) dX9_movesOn_49 (by decide) ?_
    refine z_iast dX9_movesOn_50 (by decide) rfl (zvin (by omega) (by omega)) ?_
    refine z_vret dX9_movesOn_51 rfl ?_
    subst hQ0
    rw [if_pos c_1, zcl (by omega)]
    exact ⟨rfl, rfl⟩
  · skip
    refine z_aload_n (i := 0) dX9_movesOn_18 rfl rfl ?_
    refine z_iload_n (i := 1) dX9_movesOn_19 rfl rfl ?_
    refine z_iload_n (i := 2) dX9_movesOn_20 rfl rfl ?_
    refine z_callV (st := []) (mc2 := 0) (ms2 := 0) zi9_273 zv_yX9_lays (c9_lays I L g _ (by omega)) dX9_movesOn_21 (show (0 : Nat) < 35 by decide) rfl rfl rfl rfl (by decide) (by decide) (Nat.le_of_ble_eq_true rfl) (by decide) (by decide) (fun r h2 hq => ?_)
    obtain ⟨rfl, rfl⟩ := hq
    try simp only [Option.toList, List.nil_append]
    refine z_aload_n (i := 0) dX9_movesOn_24 rfl rfl ?_
    refine z_gR zf9_131.g dX9_movesOn_25 (by decide) rfl rfl ?_
    refine z_iload_n (i := 1) dX9_movesOn_28 rfl rfl ?_
    refine z_dup2 dX9_movesOn_29 rfl rfl ?_
    refine z_iald dX9_movesOn_30 (by decide) rfl (zvin (by omega) (by omega)) ?_
    rw [zcl (by omega)]
    refine z_iconst (v := 1) dX9_movesOn_31 (by decide) ?_
    refine z_iadd dX9_movesOn_32 ?_
    refine z_iast dX9_movesOn_33 (by decide) rfl (zvin (by omega) (by omega)) ?_
    refine z_goto 51 dX9_movesOn_34 (by decide) ?_
    refine z_vret dX9_movesOn_51 rfl ?_
    subst hQ0
    rw [if_neg c_1, zcl (by omega)]
    exact ⟨rfl, rfl⟩
