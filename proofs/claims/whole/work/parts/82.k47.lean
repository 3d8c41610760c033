/-! an hour of the keeper -/
def kDs (J I : Nat → Nat → Int32) (P G D C W : Nat) (pa ga : Nat → Nat) (ru : Nat) (ts : List MLn) (warm wet : Int32) : Prop := kD J I P G D pa ga ∧ kOk I P G C ∧ kBw J I G W ∧ kTxt J ru (ru + 1) (ru + 2) (ru + 3) ts ∧ (J 7 0 = wet ∧ J 7 1 = warm ∧ J 7 5 = nI (D % 7)) ∧ kIe I P
theorem kTxt_h {J M : Nat → Nat → Int32} {ru : Nat} {ts : List MLn} (h : kTxt J ru (ru + 1) (ru + 2) (ru + 3) ts) (hr : ∀ a, ru ≤ a → a ≤ ru + 3 → M a = J a) : kTxt M ru (ru + 1) (ru + 2) (ru + 3) ts := by
  obtain ⟨h1, h2, h3, h4⟩ := h
  exact ⟨kTx_cong (hr _ (by omega) (by omega)) (hr _ (by omega) (by omega)) (hr _ (by omega) (by omega)) ts 0 0 h1, by rw [hr ru (by omega) (by omega)]; exact h2, h3, h4⟩
theorem kOk_le {I : Nat → Nat → Int32} {P G C C' : Nat} (h : kOk I P G C) (hC : C ≤ C') : kOk I P G C' := ⟨h.1, fun g hg h2 => by
  obtain ⟨S, q1, q2⟩ := h.2 g hg h2
  exact ⟨S, by omega, q2⟩⟩
theorem mhour_e (I : Nat → Nat → Int32) (P G D : Nat) (ts : List MLn) (h p : Nat) (warm wet : Int32) {gg : Int32} (hgg : mga I (nI (24 * D + 6 * h + p)) G = gg) {x : (Nat → Nat → Int32) × Bool} (hx : mshut ts (mkn I D h p warm wet gg) (nI p) = x) : mhour I P G D ts h p warm wet = if x.2 = true then (if gg < 0 then zu x.1 24 p (x.1 24 p + 1) else mmv (mlost (mlost (zu x.1 24 p (x.1 24 p + 1)) (zu x.1 24 p (x.1 24 p + 1) 25 gg.toNatClampNeg).toNatClampNeg) (zu x.1 24 p (x.1 24 p + 1) 26 gg.toNatClampNeg).toNatClampNeg) P G D gg.toNatClampNeg) else (if gg < 0 then x.1 else mplay2 (mplay x.1 p gg.toNatClampNeg wet) p gg.toNatClampNeg wet) := by
  subst hgg
  subst hx
  rfl
theorem mshut_kn {I : Nat → Nat → Int32} {D h p : Nat} {warm wet gg : Int32} {ts : List MLn} (hp : p < 6) (hl : kLok ts) {x : (Nat → Nat → Int32) × Bool} (hx : mshut ts (mkn I D h p warm wet gg) (nI p) = x) : x.2 = kshv (kkn I D h p warm wet (if 0 ≤ gg then I 27 gg.toNatClampNeg else -1)) ts (nI p) ∧ ∀ a, a ≠ 14 → a ≠ 15 → x.1 a = I a := by
  subst hx
  refine ⟨mshut_kshv ts _ p hp hl (mkn_kn I D h p warm wet gg), fun a h1 h2 => ?_⟩
  rw [mshut_ne ts _ _ a h2]
  unfold mkn
  rw [zu_ne _ _ _ h1, zu_ne _ _ _ h1, zu_ne _ _ _ h1, zu_ne _ _ _ h1, zu_ne _ _ _ h1, zu_ne _ _ _ h1, zu_ne _ _ _ h1, zu_ne _ _ _ h1]
abbrev kQph (n : Nat) (K : Nat → Nat × Nat) (J : Nat → Nat → Int32) (L : Nat → Nat → Int64) (R : Nat → Nat → Option Nat) (P G D C W : Nat) (pa ga : Nat → Nat) (ru : Nat) (ts : List MLn) (warm wet : Int32) (I' : Nat → Nat → Int32) : Option Value → ZH → Prop := fun r h => r = none ∧ ∃ M, h = (n, K, M, L, R) ∧ kDs M I' P G D C W pa ga ru ts warm wet ∧ M 11 = J 11 ∧ M 12 = J 12
abbrev x8_passHour : ZX := (RX8, cX8_passHour, 7, none, "passHour", 5, 200, false)
set_option maxHeartbeats 4000000 in
theorem l8_ph0 {n : Nat} {K : Nat → Nat × Nat} {J : Nat → Nat → Int32} {L : Nat → Nat → Int64} {R : Nat → Nat → Option Nat} {P G : Nat} {pa ga : Nat → Nat} {ru sp : Nat} (hG : kG n K R P G pa ga ru sp) {I : Nat → Nat → Int32} {D W h j wt : Nat} {ts : List MLn} {warm wet : Int32} (hD : D ≤ 356) (hWD : W = D / 7) (hh : h < 4) (hj : j < P) (hwt : wt ≤ 10) (hwet : wet = nI wt) (hs : kDs J I P G D (24 * D + 6 * h + j) W pa ga ru ts warm wet) (hga0 : mga I (nI (24 * D + 6 * h + j)) G = -1) (ls : Nat → Option Value) (hl0 : ls 0 = some (.ref 0)) (hl1 : ls 1 = some (.int (nI D))) (hl2 : ls 2 = some (.int (nI h))) (hl3 : ls 3 = some (.int (nI j))) : Zf x8_passHour 0 0 34 ls [.int (-1)] (n, K, J, L, R) (kQph n K J L R P G D (24 * D + 6 * h + j + 1) W pa ga ru ts warm wet (mhour I P G D ts h j warm wet)) := by
  generalize hQ0 : (kQph n K J L R P G D (24 * D + 6 * h + j + 1) W pa ga ru ts warm wet (mhour I P G D ts h j warm wet) : Option Value → ZH → Prop) = Q0
  obtain ⟨⟨hn28, hP6, hG60⟩, ⟨hk0, hk1, hk2, hk3, hk4, hk5, hk6, hk7⟩, ⟨hr0, hr1, hr2, hr3, hr4, hr5, hr6⟩, ⟨hr7, hr8, hr9, hr10, hr11, hr12⟩, hB8, ⟨hT11, hR17, hT13⟩, ⟨hU18, hU23, hrs⟩, ⟨hgm, hgi⟩, ⟨hpm, hpi⟩⟩ := id hG
  have hn0 : 0 < n := by omega
  have hn1 : 1 < n := by omega
  have hn2 : 2 < n := by omega
  have hn3 : 3 < n := by omega
  have hn4 : 4 < n := by omega
  have hn5 : 5 < n := by omega
  have hn6 : 6 < n := by omega
  have hn7 : 7 < n := by omega
  have hn8 : 8 < n := by omega
  have hk8 : K 8 = (5, 0) := hB8.2.2.2.1
  have hn11 : 11 < n := by omega
  have hk11 : K 11 = (10, 0) := hT11.2.2.1
  obtain ⟨hKD, hok, hB, hx, ⟨t0, t1, t5⟩, hie⟩ := id hs
  obtain ⟨hpr, hpb⟩ := hpm j hj
  obtain ⟨hp28, hp5, hpk, htn0, htr0, hpn, hpo⟩ := id hpb
  obtain ⟨htna, hcna, htnk, hcnk, htn⟩ := id htn0
  obtain ⟨htra, hcoa, htrk, hcok, htr⟩ := id htr0
  have hpa : pa j < n := by omega
  have hrr : ru = 18 ∨ ru = 23 := hrs.imp (fun q => q.1) (fun q => q.1)
  generalize hxe : mshut ts (mkn I D h j warm wet (-1)) (nI j) = x
  obtain ⟨hx2, hxI⟩ := mshut_kn (show j < 6 by omega) hx.2.2.2 hxe
  have hmh := mhour_e I P G D ts h j warm wet hga0 hxe
  have hok1 : kOk x.1 P G (24 * D + 6 * h + j) := kOk_I hok (fun a u v => hxI a (by omega) (by omega))
  have hie1 : kIe x.1 P := kIe_cong hie (hxI 18 (by decide) (by decide)) (hxI 19 (by decide) (by decide))
  rw [if_pos (show (-1 : Int32) < 0 by decide), if_pos (show (-1 : Int32) < 0 by decide)] at hmh
  refine z_istore (i := 5) dX8_passHour_34 (by decide) rfl ?_
  refine z_aload_n (i := 0) dX8_passHour_36 rfl hl0 ?_
  refine z_gR zf8_11.g dX8_passHour_37 hn0 hk0 hr0 ?_
  refine z_iload_n (i := 3) dX8_passHour_40 rfl hl3 ?_
  refine z_aaldP dX8_passHour_41 hn1 hk1 (zvin (by omega) (by omega)) (by rw [zcl (by omega)]; exact hpr) ?_
  refine z_astore (i := 6) dX8_passHour_42 (by decide) rfl ?_
  refine z_aload_n (i := 0) dX8_passHour_44 rfl hl0 ?_
  refine z_iload_n (i := 3) dX8_passHour_45 rfl hl3 ?_
  refine z_iload_n (i := 2) dX8_passHour_46 rfl hl2 ?_
  refine z_iload dX8_passHour_47 rfl ?_
  refine z_iconst (v := (-1)) dX8_passHour_49 (by decide) ?_
  refine z_icmp_ne 57 dX8_passHour_50 (by decide) (fun c_1 => absurd c_1 (fun q => q rfl)) (fun _ => ?_)
  refine z_iconst (v := (-1)) dX8_passHour_53 (by decide) ?_
  refine z_goto 67 dX8_passHour_54 (by decide) ?_
  refine z_callV (st := []) (mc2 := 0) (ms2 := 0) zi8_250 zv_yX8_isShut (c8_isShut n K J L R P G pa ga ru sp hG I D hKD ts hx j h hj warm wet (-1) t0 t1 t5) dX8_passHour_67 hn0 (congrArg Prod.fst hk0) rfl rfl rfl (by decide) (by decide) (Nat.le_of_ble_eq_true rfl) (by decide) (by decide) (fun r h2 hq => ?_)
  obtain ⟨rfl, M, rfl, hFt⟩ := hq
  rw [show kshv (kkn I D h j warm wet (-1)) ts (nI j) = kshv (kkn I D h j warm wet (if 0 ≤ (-1 : Int32) then I 27 (-1 : Int32).toNatClampNeg else -1)) ts (nI j) by rw [if_neg (show ¬ (0 : Int32) ≤ -1 by decide)], ← hx2]
  have KD1 : kD M x.1 P G D pa ga := kD_I (kD_out hG hKD (fun a ha => hFt.1 a (fun q => ha (by unfold kOut; omega)) (fun q => ha (by unfold kOut; omega)) (fun q => ha (by unfold kOut; omega)))) (fun a u v => hxI a (by omega) (by omega))
  have B1 : kBw M x.1 G W := kBw_I (kBw_cong hB (hFt.1 9 (by decide) (by omega) (by omega)) (hFt.1 10 (by decide) (by omega) (by omega))) (fun a ha => hxI a (by omega) (by omega)) (fun k _ => by unfold mth; rw [hxI 31 (by decide) (by decide)])
  have X1 := kTxt_ft hrr hFt hx
  have T1 : M 7 0 = wet ∧ M 7 1 = warm ∧ M 7 5 = nI (D % 7) := ⟨hFt.2.2.1.trans t0, hFt.2.2.2.1.trans t1, hFt.2.2.2.2.trans t5⟩
  have e11 : M 11 = J 11 := hFt.1 11 (by decide) (by omega) (by omega)
  have e12 : M 12 = J 12 := hFt.1 12 (by decide) (by omega) (by omega)
  have KDc := kD_cnt hG KD1 hj (Or.inr (Or.inr ⟨rfl, rfl⟩)) (x.1 24 j + 1)
  have v4 : M (pa j) 4 = x.1 24 j := (KD1.2.2.1 j hj).1.2.2
  have hu : ∀ a, a < 28 → zu M (pa j) 4 (x.1 24 j + 1) a = M a := fun a ha => zu_ne _ _ _ (by omega)
  refine z_if_eq 108 dX8_passHour_70 (by decide) (fun c_2 => ?_) (fun c_2 => ?_)
  · skip
    refine z_iload dX8_passHour_108 rfl ?_
    refine z_iconst (v := (-1)) dX8_passHour_110 (by decide) ?_
    refine z_icmp_eq 127 dX8_passHour_111 (by decide) (fun _ => ?_) (fun c_3 => absurd c_3 (fun q => q rfl))
    refine z_vret dX8_passHour_127 rfl ?_
    subst hQ0
    unfold kQph
    rw [hmh, (zb_0 _).mp c_2, if_neg (show ¬ (false = true) by decide)]
    exact ⟨rfl, M, rfl, ⟨KD1, kOk_le hok1 (by omega), B1, X1, T1, hie1⟩, e11, e12⟩
  · skip
    refine z_aload (i := 6) dX8_passHour_73 rfl ?_
    refine z_dup dX8_passHour_75 rfl ?_
    refine z_gI zf8_196.g dX8_passHour_76 hpa hpk ?_
    rw [v4]
    refine z_iconst (v := 1) dX8_passHour_79 (by decide) ?_
    refine z_iadd dX8_passHour_80 ?_
    refine z_putI zf8_196 dX8_passHour_81 (fun h => by cases h) hpa hpk ?_
    refine z_iload dX8_passHour_84 rfl ?_
    refine z_iconst (v := (-1)) dX8_passHour_86 (by decide) ?_
    refine z_icmp_eq 127 dX8_passHour_87 (by decide) (fun _ => ?_) (fun c_4 => absurd c_4 (fun q => q rfl))
    refine z_vret dX8_passHour_127 rfl ?_
    subst hQ0
    unfold kQph
    rw [hmh, (zb_n _).mp c_2, if_pos rfl]
    refine ⟨rfl, _, rfl, ⟨KDc, kOk_I (kOk_le hok1 (by omega)) (fun a u v => zu_ne _ _ _ (by omega)), kBw_I (kBw_cong B1 (hu 9 (by decide)) (hu 10 (by decide))) (fun a ha => zu_ne _ _ _ (by omega)) (fun k _ => by unfold mth; rw [zu_ne _ _ _ (by decide)]), kTxt_h X1 (fun a u v => hu a (by omega)), by rw [hu 7 (by decide)]; exact T1, kIe_cong hie1 (zu_ne _ _ _ (by decide)) (zu_ne _ _ _ (by decide))⟩, by rw [hu 11 (by decide)]; exact e11, by rw [hu 12 (by decide)]; exact e12⟩
set_option maxHeartbeats 4000000 in
theorem l8_ph1 {n : Nat} {K : Nat → Nat × Nat} {J : Nat → Nat → Int32} {L : Nat → Nat → Int64} {R : Nat → Nat → Option Nat} {P G : Nat} {pa ga : Nat → Nat} {ru sp : Nat} (hG : kG n K R P G pa ga ru sp) {I : Nat → Nat → Int32} {D W h j wt : Nat} {ts : List MLn} {warm wet : Int32} (hD : D ≤ 356) (hWD : W = D / 7) (hh : h < 4) (hj : j < P) (hwt : wt ≤ 10) (hwet : wet = nI wt) (hs : kDs J I P G D (24 * D + 6 * h + j) W pa ga ru ts warm wet) {g : Nat} (hg : g < G) (mg : mth I g = true) (h32 : I 32 g = nI (24 * D + 6 * h + j)) (hga0 : mga I (nI (24 * D + 6 * h + j)) G = nI g) (ls : Nat → Option Value) (hl0 : ls 0 = some (.ref 0)) (hl1 : ls 1 = some (.int (nI D))) (hl2 : ls 2 = some (.int (nI h))) (hl3 : ls 3 = some (.int (nI j))) : Zf x8_passHour 0 0 34 ls [.int (nI g)] (n, K, J, L, R) (kQph n K J L R P G D (24 * D + 6 * h + j + 1) W pa ga ru ts warm wet (mhour I P G D ts h j warm wet)) := by
  generalize hQ0 : (kQph n K J L R P G D (24 * D + 6 * h + j + 1) W pa ga ru ts warm wet (mhour I P G D ts h j warm wet) : Option Value → ZH → Prop) = Q0
  obtain ⟨⟨hn28, hP6, hG60⟩, ⟨hk0, hk1, hk2, hk3, hk4, hk5, hk6, hk7⟩, ⟨hr0, hr1, hr2, hr3, hr4, hr5, hr6⟩, ⟨hr7, hr8, hr9, hr10, hr11, hr12⟩, hB8, ⟨hT11, hR17, hT13⟩, ⟨hU18, hU23, hrs⟩, ⟨hgm, hgi⟩, ⟨hpm, hpi⟩⟩ := id hG
  have hn0 : 0 < n := by omega
  have hn1 : 1 < n := by omega
  have hn2 : 2 < n := by omega
  have hn3 : 3 < n := by omega
  have hn4 : 4 < n := by omega
  have hn5 : 5 < n := by omega
  have hn6 : 6 < n := by omega
  have hn7 : 7 < n := by omega
  have hn8 : 8 < n := by omega
  have hk8 : K 8 = (5, 0) := hB8.2.2.2.1
  have hn11 : 11 < n := by omega
  have hk11 : K 11 = (10, 0) := hT11.2.2.1
  obtain ⟨hKD, hok, hB, hx, ⟨t0, t1, t5⟩, hie⟩ := id hs
  obtain ⟨hpr, hpb⟩ := hpm j hj
  obtain ⟨hp28, hp5, hpk, htn0, htr0, hpn, hpo⟩ := id hpb
  obtain ⟨htna, hcna, htnk, hcnk, htn⟩ := id htn0
  obtain ⟨htra, hcoa, htrk, hcok, htr⟩ := id htr0
  have hpa : pa j < n := by omega
  have hrr : ru = 18 ∨ ru = 23 := hrs.imp (fun q => q.1) (fun q => q.1)
  generalize hxe : mshut ts (mkn I D h j warm wet (nI g)) (nI j) = x
  obtain ⟨hx2, hxI⟩ := mshut_kn (show j < 6 by omega) hx.2.2.2 hxe
  have hmh := mhour_e I P G D ts h j warm wet hga0 hxe
  have hok1 : kOk x.1 P G (24 * D + 6 * h + j) := kOk_I hok (fun a u v => hxI a (by omega) (by omega))
  have hie1 : kIe x.1 P := kIe_cong hie (hxI 18 (by decide) (by decide)) (hxI 19 (by decide) (by decide))
  rw [if_neg (nIneg (show g ≤ 1000000 by omega)), if_neg (nIneg (show g ≤ 1000000 by omega)), zcl (show g ≤ 100000 by omega)] at hmh
  obtain ⟨hgr, hg28, hga, hgk⟩ := hgm g hg
  have hig := hok.1.1 g hg
  obtain ⟨⟨a, b, ha, hb, hab, h25, h26⟩, ⟨ag, hag, h27⟩, -, -, -⟩ := id hig
  obtain ⟨w', S0, hw', h29, hS0, -, h32'⟩ := kthere hig mg
  have hsl : 168 * w' + S0 = 24 * D + 6 * h + j := (zeq (by omega) (by omega)).mp (h32'.symm.trans h32)
  have hwW : W = w' := by omega
  subst hwW
  have hst1 : I 31 g = 1 := by
    unfold mth at mg
    rw [Bool.or_eq_true, decide_eq_true_iff, decide_eq_true_iff] at mg
    rcases mg with q | q
    · exact q
    · obtain ⟨S, q1, q2⟩ := hok.2 g hg q
      rw [h32, zeq (by omega) (by omega)] at q2
      omega
  have e3 : J (ga g) 3 = I 27 g := (hKD.2.1 g hg).1.2.2.2.1
  have y25 : x.1 25 g = nI a := by rw [hxI 25 (by decide) (by decide)]; exact h25
  have y26 : x.1 26 g = nI b := by rw [hxI 26 (by decide) (by decide)]; exact h26
  have y27 : x.1 27 g = nI ag := by rw [hxI 27 (by decide) (by decide)]; exact h27
  have y29 : x.1 29 g = nI W := by rw [hxI 29 (by decide) (by decide)]; exact h29
  have y31 : x.1 31 g = 1 := by rw [hxI 31 (by decide) (by decide)]; exact hst1
  have y32 : x.1 32 g = nI (168 * W + S0) := by rw [hxI 32 (by decide) (by decide)]; exact h32'
  have ne1 : ¬ nI g = -1 := nIne1 (by omega)
  refine z_istore (i := 5) dX8_passHour_34 (by decide) rfl ?_
  refine z_aload_n (i := 0) dX8_passHour_36 rfl hl0 ?_
  refine z_gR zf8_11.g dX8_passHour_37 hn0 hk0 hr0 ?_
  refine z_iload_n (i := 3) dX8_passHour_40 rfl hl3 ?_
  refine z_aaldP dX8_passHour_41 hn1 hk1 (zvin (by omega) (by omega)) (by rw [zcl (by omega)]; exact hpr) ?_
  refine z_astore (i := 6) dX8_passHour_42 (by decide) rfl ?_
  refine z_aload_n (i := 0) dX8_passHour_44 rfl hl0 ?_
  refine z_iload_n (i := 3) dX8_passHour_45 rfl hl3 ?_
  refine z_iload_n (i := 2) dX8_passHour_46 rfl hl2 ?_
  refine z_iload dX8_passHour_47 rfl ?_
  refine z_iconst (v := (-1)) dX8_passHour_49 (by decide) ?_
  refine z_icmp_ne 57 dX8_passHour_50 (by decide) (fun _ => ?_) (fun c_1 => absurd c_1 ne1)
  refine z_aload_n (i := 0) dX8_passHour_57 rfl hl0 ?_
  refine z_gR zf8_17.g dX8_passHour_58 hn0 hk0 hr1 ?_
  refine z_iload dX8_passHour_61 rfl ?_
  refine z_aaldQ dX8_passHour_63 hn2 hk2 (zvin (by omega) (by omega)) (by rw [zcl (by omega)]; exact hgr) ?_
  refine z_gI zf8_227 dX8_passHour_64 hga hgk ?_
  rw [e3]
  refine z_callV (st := []) (mc2 := 0) (ms2 := 0) zi8_250 zv_yX8_isShut (c8_isShut n K J L R P G pa ga ru sp hG I D hKD ts hx j h hj warm wet (I 27 g) t0 t1 t5) dX8_passHour_67 hn0 (congrArg Prod.fst hk0) rfl rfl rfl (by decide) (by decide) (Nat.le_of_ble_eq_true rfl) (by decide) (by decide) (fun r h2 hq => ?_)
  obtain ⟨rfl, M, rfl, hFt⟩ := hq
  rw [show kshv (kkn I D h j warm wet (I 27 g)) ts (nI j) = kshv (kkn I D h j warm wet (if 0 ≤ (nI g : Int32) then I 27 (nI g : Int32).toNatClampNeg else -1)) ts (nI j) by rw [if_pos (nI_pos' (by omega)), zcl (by omega)], ← hx2]
  have KD1 : kD M x.1 P G D pa ga := kD_I (kD_out hG hKD (fun a ha => hFt.1 a (fun q => ha (by unfold kOut; omega)) (fun q => ha (by unfold kOut; omega)) (fun q => ha (by unfold kOut; omega)))) (fun a u v => hxI a (by omega) (by omega))
  have B1 : kBw M x.1 G W := kBw_I (kBw_cong hB (hFt.1 9 (by decide) (by omega) (by omega)) (hFt.1 10 (by decide) (by omega) (by omega))) (fun a ha => hxI a (by omega) (by omega)) (fun k _ => by unfold mth; rw [hxI 31 (by decide) (by decide)])
  have X1 := kTxt_ft hrr hFt hx
  have T1 : M 7 0 = wet ∧ M 7 1 = warm ∧ M 7 5 = nI (D % 7) := ⟨hFt.2.2.1.trans t0, hFt.2.2.2.1.trans t1, hFt.2.2.2.2.trans t5⟩
  have e11 : M 11 = J 11 := hFt.1 11 (by decide) (by omega) (by omega)
  have e12 : M 12 = J 12 := hFt.1 12 (by decide) (by omega) (by omega)
  have KDc := kD_cnt hG KD1 hj (Or.inr (Or.inr ⟨rfl, rfl⟩)) (x.1 24 j + 1)
  have v4 : M (pa j) 4 = x.1 24 j := (KD1.2.2.1 j hj).1.2.2
  have hu : ∀ a, a < 28 → zu M (pa j) 4 (x.1 24 j + 1) a = M a := fun a ha => zu_ne _ _ _ (by omega)
  refine z_if_eq 108 dX8_passHour_70 (by decide) (fun c_2 => ?_) (fun c_2 => ?_)
  · skip
    refine z_iload dX8_passHour_108 rfl ?_
    refine z_iconst (v := (-1)) dX8_passHour_110 (by decide) ?_
    refine z_icmp_eq 127 dX8_passHour_111 (by decide) (fun c_3 => absurd c_3 ne1) (fun _ => ?_)
    have hpl := c8_playGame n K M L R P G pa ga ru sp hG x.1 D g j a b wet KD1 hg hj y31 ha hb hab y25 y26 T1.1
    refine z_aload_n (i := 0) dX8_passHour_114 rfl hl0 ?_
    refine z_aload_n (i := 0) dX8_passHour_115 rfl hl0 ?_
    refine z_gR zf8_17.g dX8_passHour_116 hn0 hk0 hr1 ?_
    refine z_iload dX8_passHour_119 rfl ?_
    refine z_aaldQ dX8_passHour_121 hn2 hk2 (zvin (by omega) (by omega)) (by rw [zcl (by omega)]; exact hgr) ?_
    refine z_aload (i := 6) dX8_passHour_122 rfl ?_
    refine z_callV (st := []) (mc2 := 0) (ms2 := 0) zi8_258 zv_yX8_playGame hpl dX8_passHour_124 hn0 (congrArg Prod.fst hk0) rfl rfl rfl (by decide) (by decide) (Nat.le_of_ble_eq_true rfl) (by decide) (by decide) (fun r h2 hq => ?_)
    obtain ⟨rfl, M2, rfl, hFp, KD2⟩ := hq
    try simp only [Option.toList, List.nil_append]
    refine z_vret dX8_passHour_127 rfl ?_
    subst hQ0
    unfold kQph
    rw [hmh, (zb_0 _).mp c_2, if_neg (show ¬ (false = true) by decide)]
    have ok3 : kOk (mplay2 (mplay x.1 j g wet) j g wet) P G (24 * D + 6 * h + j + 1) := kOk_I (kOk_play hok1 y31 y32 (show 168 * W + S0 < 24 * D + 6 * h + j + 1 by omega) (by omega)) (fun q u v => by
      by_cases e : q = 31
      · rw [e]; exact mplay_31 x.1 j g wet
      · rw [mplay2_ne _ _ _ _ (by omega), mplay_ne _ _ _ _ (by omega), zu_ne _ _ _ e])
    have B3 : kBw M2 (mplay2 (mplay x.1 j g wet) j g wet) G W := kBw_I (kBw_cong B1 (hFp 9 (by decide) (by decide)) (hFp 10 (by decide) (by decide))) (fun q hq => by rw [mplay2_ne _ _ _ _ (by omega), mplay_ne _ _ _ _ (by omega)]) (fun k _ => by
      unfold mth
      rw [mplay_31, zu_apply]
      by_cases e : k = g
      · rw [if_pos ⟨rfl, e⟩, e, y31]; rfl
      · rw [if_neg (fun w => e w.2)])
    exact ⟨rfl, M2, rfl, ⟨KD2, ok3, B3, kTxt_h X1 (fun q u v => hFp q (by omega) (by omega)), by rw [hFp 7 (by decide) (by decide)]; exact T1, kIe_play hie1 hag y27 hwt hwet⟩, (hFp 11 (by decide) (by decide)).trans e11, (hFp 12 (by decide) (by decide)).trans e12⟩
  · skip
    refine z_aload (i := 6) dX8_passHour_73 rfl ?_
    refine z_dup dX8_passHour_75 rfl ?_
    refine z_gI zf8_196.g dX8_passHour_76 hpa hpk ?_
    rw [v4]
    refine z_iconst (v := 1) dX8_passHour_79 (by decide) ?_
    refine z_iadd dX8_passHour_80 ?_
    refine z_putI zf8_196 dX8_passHour_81 (fun h => by cases h) hpa hpk ?_
    refine z_iload dX8_passHour_84 rfl ?_
    refine z_iconst (v := (-1)) dX8_passHour_86 (by decide) ?_
    refine z_icmp_eq 127 dX8_passHour_87 (by decide) (fun c_4 => absurd c_4 ne1) (fun _ => ?_)
    have z : ∀ q, q ≠ 24 → zu x.1 24 j (x.1 24 j + 1) q = x.1 q := fun q hq => zu_ne _ _ _ hq
    have Bc : kBw (zu M (pa j) 4 (x.1 24 j + 1)) (zu x.1 24 j (x.1 24 j + 1)) G W := kBw_I (kBw_cong B1 (hu 9 (by decide)) (hu 10 (by decide))) (fun q hq => z q (by omega)) (fun k _ => by unfold mth; rw [z 31 (by decide)])
    have okc : kOk (zu x.1 24 j (x.1 24 j + 1)) P G (24 * D + 6 * h + j) := kOk_I hok1 (fun q u v => z q (by omega))
    have hsa := c8_sendAway n K (zu M (pa j) 4 (x.1 24 j + 1)) L R P G pa ga ru sp hG (zu x.1 24 j (x.1 24 j + 1)) D (24 * D + 6 * h + j) W g S0 a b (by omega) (by omega) (by omega) KDc okc Bc hg (by rw [z 29 (by decide)]; exact y29) (by rw [z 31 (by decide)]; exact y31) hS0 (by rw [z 32 (by decide)]; exact y32) (by omega) ha hb hab (by rw [z 25 (by decide)]; exact y25) (by rw [z 26 (by decide)]; exact y26)
    refine z_aload_n (i := 0) dX8_passHour_90 rfl hl0 ?_
    refine z_aload_n (i := 0) dX8_passHour_91 rfl hl0 ?_
    refine z_gR zf8_17.g dX8_passHour_92 hn0 hk0 hr1 ?_
    refine z_iload dX8_passHour_95 rfl ?_
    refine z_aaldQ dX8_passHour_97 hn2 hk2 (zvin (by omega) (by omega)) (by rw [zcl (by omega)]; exact hgr) ?_
    refine z_iload_n (i := 1) dX8_passHour_98 rfl hl1 ?_
    refine z_bipush (v := 7) dX8_passHour_99 (by decide) ?_
    refine z_irem dX8_passHour_101 (by decide) ?_
    refine z_top (y := .int (nI (D % 7))) (by rw [zl7, zrem (by omega) (by omega) (by omega)]) ?_
    refine z_callV (st := []) (mc2 := 0) (ms2 := 0) zi8_254 zv_yX8_sendAway hsa dX8_passHour_102 hn0 (congrArg Prod.fst hk0) rfl rfl rfl (by decide) (by decide) (Nat.le_of_ble_eq_true rfl) (by decide) (by decide) (fun r h2 hq => ?_)
    obtain ⟨rfl, M2, rfl, hFh, KD2, ok2, B2⟩ := hq
    try simp only [Option.toList, List.nil_append]
    refine z_goto 127 dX8_passHour_105 (by decide) ?_
    refine z_vret dX8_passHour_127 rfl ?_
    subst hQ0
    unfold kQph
    rw [hmh, (zb_n _).mp c_2, if_pos rfl, z 25 (by decide), z 26 (by decide), y25, y26, zcl (by omega), zcl (by omega)]
    have mF : ∀ q, q ≠ 31 → q ≠ 32 → q ≠ 33 → q ≠ 34 → mmv (mlost (mlost (zu x.1 24 j (x.1 24 j + 1)) a) b) P G D g q = zu x.1 24 j (x.1 24 j + 1) q := fun q u1 u2 u3 u4 => by
      unfold mmv
      split
      · rw [zu_ne _ _ _ u2, zu_ne _ _ _ u1]
        unfold mlost
        rw [zu_ne _ _ _ u4, zu_ne _ _ _ u4]
      · rw [zu_ne _ _ _ u3, mF2_lays _ _ _ q u1 u2]
        unfold mlost
        rw [zu_ne _ _ _ u4, zu_ne _ _ _ u4]
    have hM : ∀ q, q < 28 → q ≠ 4 → q ≠ 5 → q ≠ 6 → q ≠ 9 → q ≠ 10 → M2 q = M q := fun q u1 u2 u3 u4 u5 u6 => (hFh q u1 u2 u3 u4 u5 u6).trans (hu q u1)
    exact ⟨rfl, M2, rfl, ⟨KD2, kOk_le ok2 (by omega), B2, kTxt_h X1 (fun q u v => hM q (by omega) (by omega) (by omega) (by omega) (by omega) (by omega)), by rw [hM 7 (by decide) (by decide) (by decide) (by decide) (by decide) (by decide)]; exact T1, kIe_cong hie1 (by rw [mF 18 (by decide) (by decide) (by decide) (by decide), z 18 (by decide)]) (by rw [mF 19 (by decide) (by decide) (by decide) (by decide), z 19 (by decide)])⟩, (hM 11 (by decide) (by decide) (by decide) (by decide) (by decide) (by decide)).trans e11, (hM 12 (by decide) (by decide) (by decide) (by decide) (by decide) (by decide)).trans e12⟩
