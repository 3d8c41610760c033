theorem klb_spec (x : Int32) : ∀ (m j : Nat), 23 - j < m → j ≤ 23 → (∃ y, j ≤ y ∧ y < 24 ∧ zbt x y = true) → j ≤ klb x m j ∧ klb x m j ≤ 23 ∧ zbt x (klb x m j) = true ∧ ∀ y, j ≤ y → y < klb x m j → zbt x y = false
  | 0, j, h, _, _ => by omega
  | m + 1, j, h, hj, ⟨y, h1, h2, h3⟩ => by
    simp only [klb]
    by_cases e : j < 23 ∧ zbt x j = false
    · rw [if_pos e]
      have hy : j + 1 ≤ y := by
        rcases Nat.lt_or_ge j y with q | q
        · exact q
        · have : y = j := by omega
          rw [this, e.2] at h3
          cases h3
      obtain ⟨a1, a2, a3, a4⟩ := klb_spec x m (j + 1) (by omega) (by omega) ⟨y, hy, h2, h3⟩
      refine ⟨by omega, a2, a3, fun w hw hw2 => ?_⟩
      by_cases e2 : w = j
      · rw [e2]; exact e.2
      · exact a4 w (by omega) hw2
    · rw [if_neg e]
      refine ⟨by omega, hj, ?_, fun w hw hw2 => by omega⟩
      by_cases e2 : j < 23
      · rcases hh : zbt x j with _ | _
        · exact absurd ⟨e2, hh⟩ e
        · rfl
      · have : y = j := by omega
        rw [← this]; exact h3
/-- the slot S of the week suits: by what is taken, who is busy -/
def kfP (I : Nat → Nat → Int32) (k z : Nat) (cl ps ws but : Int32) (S : Nat) : Bool := decide (I z (S / 24) &&& cl = 0) && zbt ps (S % 6) && zbt ws (4 * (S / 24) + S / 6 % 4) && !zbt (I k (S / 24)) (S % 24) && decide (¬ nI S = but)
theorem kfP_S (I : Nat → Nat → Int32) (k z : Nat) (cl ps ws but : Int32) {d x : Nat} (hx : x < 24) : kfP I k z cl ps ws but (24 * d + x) = (decide (I z d &&& cl = 0) && zbt ps (x % 6) && zbt ws (4 * d + x / 6) && !zbt (I k d) x && decide (¬ nI (24 * d + x) = but)) := by
  unfold kfP
  rw [show (24 * d + x) / 24 = d by omega, show (24 * d + x) % 24 = x by omega, show (24 * d + x) % 6 = x % 6 by omega, show (24 * d + x) / 6 % 4 = x / 6 by omega]
abbrev x0_firstSlot : ZX := (RX0, cX0_firstSlot, 8, (some .int), "firstSlot", 1, 40, false)
set_option maxHeartbeats 4000000 in
theorem l0_fs81 {n : Nat} {K : Nat → Nat × Nat} {I : Nat → Nat → Int32} {L : Nat → Nat → Int64} {R : Nat → Nat → Option Nat} {Q : Option Value → ZH → Prop} {d : Nat} {o Vv : Int32} {p : Nat → Bool} (hd : d < 7) (hbits : ∀ x, x < 24 → zbt o x = p (24 * d + x)) (hhi : ∀ x, 24 ≤ x → x < 32 → zbt o x = false) (hV : mfind p (24 * d) (168 - 24 * d) = Vv) (hQ : Q (some (.int Vv)) (n, K, I, L, R)) (ls : Nat → Option Value) (hl6 : ls 6 = some (.int (nI d))) (hl7 : ls 7 = some (.int o)) (hnx : mfind p (24 * (d + 1)) (168 - 24 * (d + 1)) = Vv → Zf x0_firstSlot 0 0 8 (va_up ls 6 (some (.int (nI (d + 1))))) [] (n, K, I, L, R) Q) : Zf x0_firstSlot 0 0 81 ls [] (n, K, I, L, R) Q := by
  refine z_iload dX0_firstSlot_81 hl7 ?_
  refine z_if_eq 98 dX0_firstSlot_83 (by decide) (fun c_1 => ?_) (fun c_1 => ?_)
  · skip
    refine z_iinc dX0_firstSlot_98 hl6 rfl ?_
    refine z_goto 8 dX0_firstSlot_101 (by decide) ?_
    have h0 := c_1
    rw [zinc]
    refine hnx ?_
    rw [mfind_skip 24 (24 * d) _ (fun S h1 h2 => by rw [show S = 24 * d + (S - 24 * d) by omega, ← hbits _ (by omega), h0, zbt_0]) (by omega)] at hV
    rw [← hV, show 24 * (d + 1) = 24 * d + 24 by omega, show 168 - (24 * d + 24) = 168 - 24 * d - 24 by omega]
  · skip
    have ho : ∃ y, 0 ≤ y ∧ y < 24 ∧ zbt o y = true := by
      rcases Classical.em (∃ y, 0 ≤ y ∧ y < 24 ∧ zbt o y = true) with q | q
      · exact q
      · refine absurd ((zbt_z o).mpr (fun i hi => ?_)) c_1
        rcases Nat.lt_or_ge i 24 with h1 | h1
        · rcases hh : zbt o i with _ | _
          · rfl
          · exact absurd ⟨i, by omega, h1, hh⟩ q
        · exact hhi i h1 hi
    obtain ⟨a1, a2, a3, a4⟩ := klb_spec o 24 0 (by omega) (by omega) ho
    refine z_iload dX0_firstSlot_86 hl6 ?_
    refine z_bipush (v := 24) dX0_firstSlot_88 (by decide) ?_
    refine z_imul dX0_firstSlot_90 ?_
    refine z_iload dX0_firstSlot_91 hl7 ?_
    refine z_callS (st := [_]) (mc2 := 0) (ms2 := 0) zi0_31 zs_yX0_lowestBit (c0_lowestBit n K I L R o) dX0_firstSlot_93 rfl rfl (by decide) (by decide) (Nat.le_of_ble_eq_true rfl) (by decide) (by decide) (fun r h2 hq => ?_)
    obtain ⟨rfl, rfl⟩ := hq
    refine z_iadd dX0_firstSlot_96 ?_
    refine z_iret dX0_firstSlot_97 rfl ?_
    rw [zl24, pk_mul, nI_add, Nat.mul_comm d 24]
    rw [mfind_skip (klb o 24 0) (24 * d) _ (fun S h1 h2 => by have := a4 (S - 24 * d) (by omega) (by omega); rw [hbits _ (by omega), show 24 * d + (S - 24 * d) = S by omega] at this; exact this) (by omega), mfind_hit (by rw [← hbits _ (by omega)]; exact a3) (by omega)] at hV
    rw [hV]
    exact hQ
set_option maxHeartbeats 4000000 in
theorem l0_fs {n : Nat} {K : Nat → Nat × Nat} {I : Nat → Nat → Int32} {L : Nat → Nat → Int64} {R : Nat → Nat → Option Nat} {Q : Option Value → ZH → Prop} {b k z : Nat} {cl ps ws but Vv : Int32} (hB : kBd n K R b k z) (hbut : but = -1 ∨ ∃ t, t < 168 ∧ but = nI t) (hQ : Q (some (.int Vv)) (n, K, I, L, R)) : ∀ (m d : Nat), 7 - d < m → d ≤ 7 → mfind (kfP I k z cl ps ws but) (24 * d) (168 - 24 * d) = Vv → ∀ ls : Nat → Option Value, ls 0 = some (.ref b) → ls 1 = some (.int cl) → ls 2 = some (.int ps) → ls 3 = some (.int ws) → ls 5 = some (.int but) → ls 6 = some (.int (nI d)) → Zf x0_firstSlot 0 0 8 ls [] (n, K, I, L, R) Q := by
  intro m
  induction m with
  | zero => intro d h; omega
  | succ m ih =>
  intro d hm hd hV ls hl0 hl1 hl2 hl3 hl5 hl6
  obtain ⟨ha, hka, hza, hk, hkk, hzk, hr0, hr1, hkz⟩ := id hB
  refine z_iload dX0_firstSlot_8 hl6 ?_
  refine z_bipush (v := 7) dX0_firstSlot_10 (by decide) ?_
  rw [zl7]
  refine z_icmp_ge 104 dX0_firstSlot_12 (by decide) (fun c_1 => ?_) (fun c_1 => ?_)
  · skip
    refine z_iconst (v := (-1)) dX0_firstSlot_104 (by decide) ?_
    refine z_iret dX0_firstSlot_105 rfl ?_
    have h1 := (zle (by omega) (by omega)).mp c_1
    have h2 : d = 7 := by omega
    subst h2
    rw [show (168 - 24 * 7 : Nat) = 0 from rfl] at hV
    rw [show (-1 : Int32) = Vv from hV]
    exact hQ
  · skip
    have h1 : ¬ 7 ≤ d := fun q => c_1 ((zle (by omega) (by omega)).mpr q)
    refine z_aload_n (i := 0) dX0_firstSlot_15 rfl hl0 ?_
    refine z_gR zf0_15.g dX0_firstSlot_16 ha hk hr1 ?_
    refine z_iload dX0_firstSlot_19 hl6 ?_
    refine z_iald dX0_firstSlot_21 hza hzk (zvin (by omega) (by omega)) ?_
    rw [zcl (by omega)]
    refine z_iload_n (i := 1) dX0_firstSlot_22 rfl hl1 ?_
    refine z_iand dX0_firstSlot_23 ?_
    refine z_if_ne 98 dX0_firstSlot_24 (by decide) (fun c_2 => ?_) (fun c_2 => ?_)
    · skip
      refine z_iinc dX0_firstSlot_98 hl6 rfl ?_
      refine z_goto 8 dX0_firstSlot_101 (by decide) ?_
      have hbz : decide (I z d &&& cl = 0) = false := decide_eq_false c_2
      rw [zinc]
      refine ih (d + 1) (by omega) (by omega) ?_ _ hl0 hl1 hl2 hl3 hl5 rfl
      rw [← hV, mfind_skip 24 (24 * d) (168 - 24 * d) (fun S h1 h2 => by rw [show S = 24 * d + (S - 24 * d) by omega, kfP_S I k z cl ps ws but (by omega), hbz]; simp) (by omega), show 24 * (d + 1) = 24 * d + 24 by omega, show 168 - (24 * d + 24) = 168 - 24 * d - 24 by omega]
    · skip
      have hbz : decide (I z d &&& cl = 0) = true := decide_eq_true c_2
      refine z_iload_n (i := 2) dX0_firstSlot_27 rfl hl2 ?_
      refine z_iload_n (i := 3) dX0_firstSlot_28 rfl hl3 ?_
      refine z_iload dX0_firstSlot_29 hl6 ?_
      refine z_iconst (v := 4) dX0_firstSlot_31 (by decide) ?_
      refine z_imul dX0_firstSlot_32 ?_
      rw [zl4, pk_mul, Nat.mul_comm d 4]
      refine z_iushr dX0_firstSlot_33 rfl ?_
      refine z_callS (st := []) (mc2 := 0) (ms2 := 0) zi0_28 zs_yX0_slotsOfDay (c0_slotsOfDay n K I L R _ _) dX0_firstSlot_34 rfl rfl (by decide) (by decide) (Nat.le_of_ble_eq_true rfl) (by decide) (by decide) (fun r h2 hq => ?_)
      obtain ⟨rfl, rfl⟩ := hq
      refine z_aload_n (i := 0) dX0_firstSlot_37 rfl hl0 ?_
      refine z_gR zf0_9.g dX0_firstSlot_38 ha hk hr0 ?_
      refine z_iload dX0_firstSlot_41 hl6 ?_
      refine z_iald dX0_firstSlot_43 hka hkk (zvin (by omega) (by omega)) ?_
      rw [zcl (by omega)]
      refine z_iconst (v := (-1)) dX0_firstSlot_44 (by decide) ?_
      refine z_ixor dX0_firstSlot_45 ?_
      refine z_iand dX0_firstSlot_46 ?_
      refine z_istore (i := 7) dX0_firstSlot_47 (by decide) rfl ?_
      refine z_iload dX0_firstSlot_49 hl5 ?_
      refine z_callS (st := []) (mc2 := 0) (ms2 := 0) zi0_18 zs_yX0_isSlot (c0_isSlot n K I L R but) dX0_firstSlot_51 rfl rfl (by decide) (by decide) (Nat.le_of_ble_eq_true rfl) (by decide) (by decide) (fun r h2 hq => ?_)
      obtain ⟨rfl, rfl⟩ := hq
      refine z_if_eq 81 dX0_firstSlot_54 (by decide) (fun c_3 => ?_) (fun c_3 => ?_)
      · skip
        refine l0_fs81 (p := kfP I k z cl ps ws but) (by omega) (fun x hx => ?_) (fun x hx hx2 => ?_) hV hQ _ hl6 rfl (fun hV2 => ih (d + 1) (by omega) (by omega) hV2 _ hl0 hl1 hl2 hl3 hl5 rfl)
        · rw [kfP_S I k z cl ps ws but hx, hbz]
          rw [zbt_and, kso_b _ _ 4 x (by omega) (by omega), decide_eq_true (by omega), zbt_ushr _ (by omega), zbt_not _ (by omega), decide_eq_true (show ¬ nI (24 * d + x) = but from (fun q => by
            rw [← q, if_neg (by rw [zl0, zlt (by omega) (by omega)]; omega), if_neg (by rw [show (168 : Int32) = nI 168 from rfl, zle (by omega) (by omega)]; omega)] at c_3
            exact absurd c_3 (by decide)))]
          cases zbt ps (x % 6) <;> cases zbt ws (4 * d + x / 6) <;> simp
        · rw [zbt_and, kso_b _ _ 4 x (by omega) hx2, decide_eq_false (by omega)]; simp
      · skip
        obtain ⟨t, ht, rfl⟩ : ∃ t, t < 168 ∧ but = nI t := by
          rcases hbut with q | q
          · rw [q] at c_3
            exact absurd (show (if (-1 : Int32) < 0 then (0 : Int32) else if 168 ≤ (-1 : Int32) then 0 else 1) = 0 by decide) c_3
          · exact q
        refine z_iload dX0_firstSlot_57 hl5 ?_
        refine z_bipush (v := 24) dX0_firstSlot_59 (by decide) ?_
        refine z_idiv dX0_firstSlot_61 (by decide) ?_
        rw [kdiv24 (by omega)]
        refine z_iload dX0_firstSlot_62 hl6 ?_
        refine z_icmp_ne 81 dX0_firstSlot_64 (by decide) (fun c_4 => ?_) (fun c_4 => ?_)
        · skip
          refine l0_fs81 (p := kfP I k z cl ps ws (nI t)) (by omega) (fun x hx => ?_) (fun x hx hx2 => ?_) hV hQ _ hl6 rfl (fun hV2 => ih (d + 1) (by omega) (by omega) hV2 _ hl0 hl1 hl2 hl3 hl5 rfl)
          · rw [kfP_S I k z cl ps ws (nI t) hx, hbz]
            rw [zbt_and, kso_b _ _ 4 x (by omega) (by omega), decide_eq_true (by omega), zbt_ushr _ (by omega), zbt_not _ (by omega), decide_eq_true (show ¬ nI (24 * d + x) = nI t from (fun q => by
              have := (zeq (by omega) (by omega)).mp q
              exact c_4 (by rw [show t / 24 = d by omega])))]
            cases zbt ps (x % 6) <;> cases zbt ws (4 * d + x / 6) <;> simp
          · rw [zbt_and, kso_b _ _ 4 x (by omega) hx2, decide_eq_false (by omega)]; simp
        · skip
          refine z_iload dX0_firstSlot_67 rfl ?_
          refine z_iconst (v := 1) dX0_firstSlot_69 (by decide) ?_
          refine z_iload dX0_firstSlot_70 hl5 ?_
          refine z_bipush (v := 24) dX0_firstSlot_72 (by decide) ?_
          refine z_irem dX0_firstSlot_74 (by decide) ?_
          rw [krem24 (by omega)]
          refine z_ishl dX0_firstSlot_75 ?_
          refine z_iconst (v := (-1)) dX0_firstSlot_76 (by decide) ?_
          refine z_ixor dX0_firstSlot_77 ?_
          refine z_iand dX0_firstSlot_78 ?_
          refine z_istore (i := 7) dX0_firstSlot_79 (by decide) rfl ?_
          refine l0_fs81 (p := kfP I k z cl ps ws (nI t)) (by omega) (fun x hx => ?_) (fun x hx hx2 => ?_) hV hQ _ hl6 rfl (fun hV2 => ih (d + 1) (by omega) (by omega) hV2 _ hl0 hl1 hl2 hl3 hl5 rfl)
          · rw [kfP_S I k z cl ps ws (nI t) hx, hbz]
            have ht2 : t / 24 = d := (zeq (by omega) (by omega)).mp c_4
            rw [zbt_and, zbt_and, kso_b _ _ 4 x (by omega) (by omega), decide_eq_true (by omega), zbt_ushr _ (by omega), zbt_not _ (by omega), zbt_not _ (by omega), zbt_bit (by omega) (by omega)]
            have e9 : decide (¬ nI (24 * d + x) = nI t) = !decide (x = t % 24) := by
              by_cases q : x = t % 24
              · rw [decide_eq_true q, decide_eq_false (fun w => w (by rw [show 24 * d + x = t by omega]))]; rfl
              · rw [decide_eq_false q, decide_eq_true (show ¬ nI (24 * d + x) = nI t from fun w => by have := (zeq (by omega) (by omega)).mp w; omega)]; rfl
            rw [e9]
            cases zbt ps (x % 6) <;> cases zbt ws (4 * d + x / 6) <;> simp
          · rw [zbt_and, zbt_and, kso_b _ _ 4 x (by omega) hx2, decide_eq_false (by omega)]; simp
set_option maxHeartbeats 4000000 in
theorem c0_firstSlot (n : Nat) (K : Nat → Nat × Nat) (I : Nat → Nat → Int32) (L : Nat → Nat → Int64) (R : Nat → Nat → Option Nat) (b k z F : Nat) (cl ps ws fd but : Int32) (hB : kBd n K R b k z) (hF : F ≤ 7) (hfd : (if 0 < fd then fd else 0) = nI F) (hbut : but = -1 ∨ ∃ t, t < 168 ∧ but = nI t) : Zm yX0_firstSlot cX0_firstSlot 8 (some .int) 1 40 0 0 [.ref b, .int cl, .int ps, .int ws, .int fd, .int but] ((n, K, I, L, R)) (kQ (some (.int (mfind (kfP I k z cl ps ws but) (24 * F) (168 - 24 * F)))) n K I L R) := by
  refine Zm_of (lg := false) (by decide) (fun _ => by simp [Value.category]) (fun _ => Nat.le_of_ble_eq_true rfl) ?_
  show Zf x0_firstSlot 0 0 0 (zargs [.ref b, .int cl, .int ps, .int ws, .int fd, .int but]) [] ((n, K, I, L, R)) _
  obtain ⟨ha, hka, hza, hk, hkk, hzk, hr0, hr1, hkz⟩ := id hB
  refine z_iconst (v := 0) dX0_firstSlot_0 (by decide) ?_
  refine z_iload dX0_firstSlot_1 rfl ?_
  refine z_mmax dX0_firstSlot_3 kl0_22 ks_mmax kmI kc_mmax (Nat.le_of_ble_eq_true rfl) (Nat.le_of_ble_eq_true rfl) (Nat.le_of_ble_eq_true rfl) ?_
  rw [hfd]
  refine z_istore (i := 6) dX0_firstSlot_6 (by decide) rfl ?_
  exact l0_fs hB hbut ⟨rfl, rfl⟩ 8 F (by omega) hF rfl _ rfl rfl rfl rfl rfl rfl
