def mcl (I : Nat → Nat → Int32) (G : Nat) : Prop := ∀ g, g < G → ∃ a b, a < 16 ∧ b < 16 ∧ I 25 g = nI a ∧ I 26 g = nI b
def mpre (I : Nat → Nat → Int32) (P G D hd : Nat) (ts : List MLn) : Prop := mok I P G D ∧ mtx I hd ts ∧ mcl I G
theorem mpre_cong {I J : Nat → Nat → Int32} {P G D hd : Nat} {ts : List MLn} (h : mpre I P G D hd ts) (hJ : ∀ a, (a = 6 ∨ a = 7 ∨ a = 8 ∨ a = 9 ∨ a = 10 ∨ a = 25 ∨ a = 26 ∨ a = 29) → J a = I a) (h0 : ∀ k, k = 15 ∨ k = 24 ∨ k = 34 ∨ k = 35 → J 0 k = I 0 k) (hn : ∀ g, g < G → J 31 g = 0 → J 32 g = -1) : mpre J P G D hd ts := by
  obtain ⟨⟨h1, h2, h3, h4, h5, h6, h7, h8⟩, ht, hc⟩ := h
  refine ⟨⟨h1, h2, h3, by rw [h0 24 (by omega)]; exact h4, by rw [h0 35 (by omega)]; exact h5, by rw [h0 34 (by omega)]; exact h6, fun g hg => by rw [hJ 29 (by omega)]; exact h7 g hg, hn⟩, mtx_cong ht (h0 15 (by omega)) (hJ 6 (by omega)) (hJ 7 (by omega)) (hJ 8 (by omega)) (hJ 9 (by omega)) (hJ 10 (by omega)), fun g hg => by rw [hJ 25 (by omega), hJ 26 (by omega)]; exact hc g hg⟩
/-- a row that no word of mpre speaks of -/
theorem mpre_zu {I : Nat → Nat → Int32} {P G D hd : Nat} {ts : List MLn} (h : mpre I P G D hd ts) (a k : Nat) (v : Int32) (ha : a ≠ 0 ∧ a ≠ 6 ∧ a ≠ 7 ∧ a ≠ 8 ∧ a ≠ 9 ∧ a ≠ 10 ∧ a ≠ 25 ∧ a ≠ 26 ∧ a ≠ 29 ∧ a ≠ 31 ∧ a ≠ 32) : mpre (zu I a k v) P G D hd ts :=
  mpre_cong h (fun b hb => zu_ne _ _ _ (by omega)) (fun k _ => congrFun (zu_ne _ _ _ (by omega)) k) (fun g hg h0 => by
    rw [zu_ne _ _ _ (by omega)] at h0 ⊢
    exact h.1.2.2.2.2.2.2.2 g hg h0)
theorem mpre_lays {I : Nat → Nat → Int32} {P G D hd : Nat} {ts : List MLn} (h : mpre I P G D hd ts) (g : Nat) (s : Int32) : mpre (mlays I g s) P G D hd ts :=
  ⟨mok_lays h.1 g s, (mpre_cong (J := mlays I g s) h (fun b hb => by unfold mlays; rw [zu_ne _ _ _ (by omega), zu_ne _ _ _ (by omega)]) (fun k _ => rfl) (mok_lays h.1 g s).2.2.2.2.2.2.2).2⟩
theorem mpre_off {I : Nat → Nat → Int32} {P G D hd : Nat} {ts : List MLn} (h : mpre I P G D hd ts) (g : Nat) : mpre (zu (zu I 31 g 3) 32 g (-1)) P G D hd ts :=
  mpre_cong h (fun b hb => by rw [zu_ne _ _ _ (by omega), zu_ne _ _ _ (by omega)]) (fun k _ => rfl) (fun q hq h0 => by
    rw [zu_apply, if_neg (by omega), zu_apply] at h0
    rw [zu_apply]
    by_cases e : q = g
    · rw [if_pos ⟨rfl, e⟩]
    · rw [if_neg (by omega)] at h0
      rw [if_neg (by omega), zu_apply, if_neg (by omega)]
      exact h.1.2.2.2.2.2.2.2 q hq h0)
theorem mpre_pl {I : Nat → Nat → Int32} {P G D hd : Nat} {ts : List MLn} (h : mpre I P G D hd ts) (g : Nat) : mpre (zu I 31 g 2) P G D hd ts :=
  mpre_cong h (fun b hb => by rw [zu_ne _ _ _ (by omega)]) (fun k _ => rfl) (fun q hq h0 => by
    rw [zu_apply] at h0
    rw [zu_apply, if_neg (by omega)]
    by_cases e : q = g
    · rw [if_pos ⟨rfl, e⟩] at h0; exact absurd h0 (by decide)
    · rw [if_neg (by omega)] at h0
      exact h.1.2.2.2.2.2.2.2 q hq h0)
theorem mwI_ne (I : Nat → Nat → Int32) {A p : Nat} {how age wet : Int32} {m a : Nat} (h : a ≠ A) : mwI I A p how age wet m a = I a := by
  funext j
  unfold mwI
  rw [if_neg (fun q => h q.1)]
theorem mpre_row {I J : Nat → Nat → Int32} {P G D hd : Nat} {ts : List MLn} (h : mpre I P G D hd ts) (A : Nat) (hA : 11 ≤ A ∧ A ≤ 24) (hJ : ∀ a, a ≠ A → J a = I a) : mpre J P G D hd ts :=
  mpre_cong h (fun b hb => hJ b (by omega)) (fun k _ => by rw [hJ 0 (by omega)]) (fun g hg h0 => by
    rw [hJ 31 (by omega)] at h0
    rw [hJ 32 (by omega)]
    exact h.1.2.2.2.2.2.2.2 g hg h0)
theorem mpre_hour {I : Nat → Nat → Int32} {P G D hd : Nat} {ts : List MLn} (h : mpre I P G D hd ts) (hr p : Nat) (warm wet : Int32) : mpre (mhour I P G D ts hr p warm wet) P G D hd ts := by
  have h1 : mpre (mkn I D hr p warm wet (mga I (nI (24 * D + 6 * hr + p)) G)) P G D hd ts := mpre_row h 14 (by omega) (fun a ha => by unfold mkn; simp only [zu_ne _ _ _ ha])
  have h2 : mpre (mshut ts (mkn I D hr p warm wet (mga I (nI (24 * D + 6 * hr + p)) G)) (nI p)).1 P G D hd ts := mpre_row h1 15 (by omega) (fun a ha => mshut_ne _ _ _ a ha)
  unfold mhour
  dsimp only
  split
  · have h3 := mpre_zu h2 24 p ((mshut ts (mkn I D hr p warm wet (mga I (nI (24 * D + 6 * hr + p)) G)) (nI p)).1 24 p + 1) (by omega)
    split
    · exact h3
    · have h4 := fun c => mpre_zu h3 34 c (zu (mshut ts (mkn I D hr p warm wet (mga I (nI (24 * D + 6 * hr + p)) G)) (nI p)).1 24 p ((mshut ts (mkn I D hr p warm wet (mga I (nI (24 * D + 6 * hr + p)) G)) (nI p)).1 24 p + 1) 34 c + 1) (by omega)
      have h5 : ∀ (J : Nat → Nat → Int32) (c : Nat), mpre J P G D hd ts → mpre (mlost J c) P G D hd ts := fun J c q => mpre_zu q 34 c _ (by omega)
      have h6 : ∀ (J : Nat → Nat → Int32) (g : Nat), mpre J P G D hd ts → mpre (mmv J P G D g) P G D hd ts := fun J g q => by
        unfold mmv
        split
        · exact mpre_off q g
        · exact mpre_zu (mpre_lays q _ _) 33 _ _ (by omega)
      exact h6 _ _ (h5 _ _ (h5 _ _ h3))
  · split
    · exact h2
    · have h5 : ∀ (J : Nat → Nat → Int32) (g : Nat), mpre J P G D hd ts → mpre (mplay J p g wet) P G D hd ts := fun J g q => by
        unfold mplay
        refine mpre_zu ?_ 20 _ _ (by omega)
        refine mpre_row ?_ 18 (by omega) (fun a ha => mwI_ne _ ha)
        exact mpre_zu (mpre_zu (mpre_pl q g) 22 _ _ (by omega)) 23 _ _ (by omega)
      have h6 : ∀ (J : Nat → Nat → Int32) (g : Nat), mpre J P G D hd ts → mpre (mplay2 J p g wet) P G D hd ts := fun J g q => by
        unfold mplay2
        refine mpre_zu ?_ 21 _ _ (by omega)
        exact mpre_row q 19 (by omega) (fun a ha => mwI_ne _ ha)
      exact h6 _ _ (h5 _ _ h2)
def mpn (I : Nat → Nat → Int32) (D m : Nat) : Nat → Nat → Int32 := fun a j => if a = 23 ∧ j < m ∧ D % 7 = 0 then 0 else I a j
theorem mpn_0 (I : Nat → Nat → Int32) (D : Nat) : mpn I D 0 = I := by
  funext a j
  unfold mpn
  rw [if_neg (by omega)]
theorem mpn_s (I : Nat → Nat → Int32) (D m : Nat) {v : Int32} (hv : v = if D % 7 = 0 then 0 else I 23 m) : zu (mpn I D m) 23 m v = mpn I D (m + 1) := by
  funext a j
  rw [zu_apply]
  unfold mpn
  by_cases h : a = 23 ∧ j = m
  · obtain ⟨rfl, rfl⟩ := h
    rw [if_pos ⟨rfl, rfl⟩, hv]
    by_cases hd : D % 7 = 0
    · rw [if_pos hd, if_pos ⟨rfl, by omega, hd⟩]
    · rw [if_neg hd, if_neg (fun q => hd q.2.2)]
  · rw [if_neg h]
    by_cases h2 : a = 23 ∧ j < m ∧ D % 7 = 0
    · rw [if_pos h2, if_pos ⟨h2.1, by omega, h2.2.2⟩]
    · rw [if_neg h2, if_neg (fun q => h2 ⟨q.1, by
        have := q.1
        have : ¬ j = m := fun e => h ⟨q.1, e⟩
        omega, q.2.2⟩)]
theorem mpn_ne (I : Nat → Nat → Int32) (D m : Nat) {a : Nat} (h : a ≠ 23) : mpn I D m a = I a := by
  funext j
  unfold mpn
  rw [if_neg (fun q => h q.1)]
def mdp (I : Nat → Nat → Int32) (P G D : Nat) (ts : List MLn) (h : Nat) (warm wet : Int32) : Nat → Nat → Nat → Int32
  | 0 => I
  | j + 1 => mhour (mdp I P G D ts h warm wet j) P G D ts h j warm wet
def mdh (I : Nat → Nat → Int32) (P G D : Nat) (ts : List MLn) (warm wet : Int32) : Nat → Nat → Nat → Int32
  | 0 => I
  | i + 1 => mdp (mdh I P G D ts warm wet i) P G D ts i warm wet P
theorem mpre_dp {I : Nat → Nat → Int32} {P G D hd : Nat} {ts : List MLn} (h : mpre I P G D hd ts) (hr : Nat) (warm wet : Int32) : ∀ j, mpre (mdp I P G D ts hr warm wet j) P G D hd ts
  | 0 => h
  | j + 1 => mpre_hour (mpre_dp h hr warm wet j) hr j warm wet
theorem mpre_dh {I : Nat → Nat → Int32} {P G D hd : Nat} {ts : List MLn} (h : mpre I P G D hd ts) (warm wet : Int32) : ∀ i, mpre (mdh I P G D ts warm wet i) P G D hd ts
  | 0 => h
  | i + 1 => mpre_dp (mpre_dh h warm wet i) i warm wet P
abbrev x9_day : ZX := (RX9, cX9_day, 5, (some .int), "day", 6, 240, false)
set_option maxHeartbeats 4000000 in
theorem l9_dayN {I : Nat → Nat → Int32} {L : Nat → Nat → Int64} {Q : Option Value → ZH → Prop} {P G D hd : Nat} {ts : List MLn} {warm wet : Int32} (hI : mpre I P G D hd ts) (hx : ∀ ls : Nat → Option Value, ls 0 = some (.ref 0) → ls 1 = some (.int warm) → ls 2 = some (.int wet) → Zf x9_day 0 0 79 ls [] (mh (mpn I D P) L) Q) : ∀ (m j : Nat), P - j < m → j ≤ P → ∀ (J : Nat → Nat → Int32) (ls : Nat → Option Value), J = mpn I D j → ls 0 = some (.ref 0) → ls 1 = some (.int warm) → ls 2 = some (.int wet) → ls 3 = some (.int (nI j)) → Zf x9_day 0 0 39 ls [] (mh J L) Q := by
  intro m
  induction m with
  | zero => intro j h; omega
  | succ m ih =>
  intro j hm hj J ls hJ hl0 hl1 hl2 hl3
  subst hJ
  obtain ⟨hP, hG, hD, h24, h35, h34, hw, hn⟩ := hI.1
  have e24 : mpn I D j 0 24 = nI P := (congrFun (mpn_ne I D j (by decide)) 24).trans h24
  have e34 : mpn I D j 0 34 = nI D := (congrFun (mpn_ne I D j (by decide)) 34).trans h34
  have e23 : mpn I D j 23 j = I 23 j := by unfold mpn; rw [if_neg (by omega)]
  refine z_iload_n (i := 3) dX9_day_39 rfl hl3 ?_
  refine z_aload_n (i := 0) dX9_day_40 rfl hl0 ?_
  refine z_gI zf9_236.g dX9_day_41 (by decide) rfl ?_
  rw [e24]
  refine z_icmp_ge 79 dX9_day_44 (by decide) (fun c_1 => ?_) (fun c_1 => ?_)
  · skip
    have h1 := (zle (by omega) (by omega)).mp c_1
    have h2 : j = P := by omega
    subst h2
    exact hx _ hl0 hl1 hl2
  · skip
    have h1 : ¬ P ≤ j := fun q => c_1 ((zle (by omega) (by omega)).mpr q)
    refine z_aload_n (i := 0) dX9_day_47 rfl hl0 ?_
    refine z_gR zf9_101.g dX9_day_48 (by decide) rfl rfl ?_
    refine z_iload_n (i := 3) dX9_day_51 rfl hl3 ?_
    refine z_aload_n (i := 0) dX9_day_52 rfl hl0 ?_
    refine z_gI zf9_239.g dX9_day_53 (by decide) rfl ?_
    rw [e34]
    refine z_bipush (v := 7) dX9_day_56 (by decide) ?_
    refine z_irem dX9_day_58 (by decide) ?_
    rw [zl7, zrem (by omega) (by omega) (by omega)]
    refine z_if_ne 66 dX9_day_59 (by decide) (fun c_2 => ?_) (fun c_2 => ?_)
    · skip
      refine z_aload_n (i := 0) dX9_day_66 rfl hl0 ?_
      refine z_gR zf9_101.g dX9_day_67 (by decide) rfl rfl ?_
      refine z_iload_n (i := 3) dX9_day_70 rfl hl3 ?_
      refine z_iald dX9_day_71 (by decide) rfl (zvin (by omega) (by omega)) ?_
      try rw [zcl (show j ≤ 100000 by omega), e23]
      refine z_iast dX9_day_72 (by decide) rfl (zvin (by omega) (by omega)) ?_
      refine z_iinc dX9_day_73 hl3 rfl ?_
      refine z_goto 39 dX9_day_76 (by decide) ?_
      rw [zinc]
      have hD7 : ¬ D % 7 = 0 := fun e => c_2 (by rw [e]; rfl)
      exact ih (j + 1) (by omega) (by omega) _ _ (by rw [zcl (by omega)]; exact mpn_s I D j (by rw [if_neg hD7])) hl0 hl1 hl2 rfl
    · skip
      refine z_iconst (v := 0) dX9_day_62 (by decide) ?_
      refine z_goto 72 dX9_day_63 (by decide) ?_
      try rw [zcl (show j ≤ 100000 by omega), e23]
      refine z_iast dX9_day_72 (by decide) rfl (zvin (by omega) (by omega)) ?_
      refine z_iinc dX9_day_73 hl3 rfl ?_
      refine z_goto 39 dX9_day_76 (by decide) ?_
      rw [zinc]
      have hD7 : D % 7 = 0 := by
        have := c_2
        rw [show (0 : Int32) = nI 0 from rfl, zeq (by omega) (by omega)] at this
        exact this
      exact ih (j + 1) (by omega) (by omega) _ _ (by rw [zcl (by omega)]; exact mpn_s I D j (by rw [if_pos hD7])) hl0 hl1 hl2 rfl
set_option maxHeartbeats 4000000 in
theorem l9_dayP {I : Nat → Nat → Int32} {L : Nat → Nat → Int64} {Q : Option Value → ZH → Prop} {P G D hd : Nat} {ts : List MLn} {warm wet : Int32} {h : Nat} (hh : h < 4) (hI : mpre I P G D hd ts) (hx : ∀ ls : Nat → Option Value, ls 0 = some (.ref 0) → ls 1 = some (.int warm) → ls 2 = some (.int wet) → ls 3 = some (.int (nI h)) → Zf x9_day 0 0 113 ls [] (mh (mdp I P G D ts h warm wet P) L) Q) : ∀ (m j : Nat), P - j < m → j ≤ P → ∀ (J : Nat → Nat → Int32) (ls : Nat → Option Value), J = mdp I P G D ts h warm wet j → ls 0 = some (.ref 0) → ls 1 = some (.int warm) → ls 2 = some (.int wet) → ls 3 = some (.int (nI h)) → ls 4 = some (.int (nI j)) → Zf x9_day 0 0 89 ls [] (mh J L) Q := by
  intro m
  induction m with
  | zero => intro j h; omega
  | succ m ih =>
  intro j hm hj J ls hJ hl0 hl1 hl2 hl3 hl4
  subst hJ
  obtain ⟨ok, ht, hcl⟩ := mpre_dp hI h warm wet j
  obtain ⟨hP, hG, hD, h24, h35, h34, hw, hn⟩ := id ok
  refine z_iload dX9_day_89 hl4 ?_
  refine z_aload_n (i := 0) dX9_day_91 rfl hl0 ?_
  refine z_gI zf9_236.g dX9_day_92 (by decide) rfl ?_
  rw [h24]
  refine z_icmp_ge 113 dX9_day_95 (by decide) (fun c_1 => ?_) (fun c_1 => ?_)
  · skip
    have h1 := (zle (by omega) (by omega)).mp c_1
    have h2 : j = P := by omega
    subst h2
    exact hx _ hl0 hl1 hl2 hl3
  · skip
    have h1 : ¬ P ≤ j := fun q => c_1 ((zle (by omega) (by omega)).mpr q)
    refine z_aload_n (i := 0) dX9_day_98 rfl hl0 ?_
    refine z_iload_n (i := 3) dX9_day_99 rfl hl3 ?_
    refine z_iload dX9_day_100 hl4 ?_
    refine z_iload_n (i := 1) dX9_day_102 rfl hl1 ?_
    refine z_iload_n (i := 2) dX9_day_103 rfl hl2 ?_
    refine z_callV (st := []) (mc2 := 0) (ms2 := 0) zi9_302 zv_yX9_hour (c9_hour _ L P G D ok hd ts ht hcl h j hh (by omega) warm wet) dX9_day_104 (show (0 : Nat) < 35 by decide) rfl rfl rfl rfl (by decide) (by decide) (Nat.le_of_ble_eq_true rfl) (by decide) (by decide) (fun r h2 hq => ?_)
    obtain ⟨rfl, rfl⟩ := hq
    try simp only [Option.toList, List.nil_append]
    refine z_iinc dX9_day_107 hl4 rfl ?_
    refine z_goto 89 dX9_day_110 (by decide) ?_
    rw [zinc]
    exact ih (j + 1) (by omega) (by omega) _ _ rfl hl0 hl1 hl2 hl3 rfl
set_option maxHeartbeats 4000000 in
theorem l9_dayH {I : Nat → Nat → Int32} {L : Nat → Nat → Int64} {Q : Option Value → ZH → Prop} {P G D hd : Nat} {ts : List MLn} {warm wet : Int32} (hI : mpre I P G D hd ts) (hx : ∀ ls : Nat → Option Value, ls 0 = some (.ref 0) → ls 1 = some (.int warm) → ls 2 = some (.int wet) → Zf x9_day 0 0 119 ls [] (mh (mdh I P G D ts warm wet 4) L) Q) : ∀ (m j : Nat), 4 - j < m → j ≤ 4 → ∀ (J : Nat → Nat → Int32) (ls : Nat → Option Value), J = mdh I P G D ts warm wet j → ls 0 = some (.ref 0) → ls 1 = some (.int warm) → ls 2 = some (.int wet) → ls 3 = some (.int (nI j)) → Zf x9_day 0 0 81 ls [] (mh J L) Q := by
  intro m
  induction m with
  | zero => intro j h; omega
  | succ m ih =>
  intro j hm hj J ls hJ hl0 hl1 hl2 hl3
  subst hJ
  refine z_iload_n (i := 3) dX9_day_81 rfl hl3 ?_
  refine z_iconst (v := 4) dX9_day_82 (by decide) ?_
  rw [zl4]
  refine z_icmp_ge 119 dX9_day_83 (by decide) (fun c_1 => ?_) (fun c_1 => ?_)
  · skip
    have h1 := (zle (by omega) (by omega)).mp c_1
    have h2 : j = 4 := by omega
    subst h2
    exact hx _ hl0 hl1 hl2
  · skip
    have h1 : ¬ 4 ≤ j := fun q => c_1 ((zle (by omega) (by omega)).mpr q)
    refine z_iconst (v := 0) dX9_day_86 (by decide) ?_
    refine z_istore (i := 4) dX9_day_87 (by decide) rfl ?_
    refine l9_dayP (h := j) (by omega) (mpre_dh hI warm wet j) (fun ls2 a0 a1 a2 a3 => ?_) (P + 1) 0 (by omega) (by omega) _ _ rfl hl0 hl1 hl2 hl3 rfl
    refine z_iinc dX9_day_113 a3 rfl ?_
    refine z_goto 81 dX9_day_116 (by decide) ?_
    rw [zinc]
    exact ih (j + 1) (by omega) (by omega) _ _ rfl a0 a1 a2 rfl
def mdayI (I : Nat → Nat → Int32) (P G D : Nat) (ts : List MLn) (warm wet : Int32) : Nat → Nat → Int32 := zu (mgI (mgI (mdh (mpn (zu I 0 0 0) D P) P G D ts warm wet 4) 18 warm wet (24 * P)) 19 warm wet (24 * P)) 0 34 (nI (D + 1))
abbrev mdayB (I : Nat → Nat → Int32) (warm wet : Int32) : Prop := warm < 0 ∨ 10 < warm ∨ wet < 0 ∨ 10 < wet ∨ I 0 34 = 357
theorem mpre_thr {I : Nat → Nat → Int32} {P G D hd : Nat} {ts : List MLn} (h : mpre I P G D hd ts) (v : Int32) : mpre (zu I 0 0 v) P G D hd ts :=
  mpre_cong h (fun b hb => zu_ne _ _ _ (by omega)) (fun k hk => by rw [zu_apply, if_neg (by omega)]) (fun g hg h0 => h.1.2.2.2.2.2.2.2 g hg h0)
set_option maxHeartbeats 4000000 in
theorem c9_day (I : Nat → Nat → Int32) (L : Nat → Nat → Int64) (P G D hd : Nat) (ts : List MLn) (warm wet : Int32) (hI : mpre I P G D hd ts) : Zm yX9_day cX9_day 5 (some .int) 6 240 0 0 [.ref 0, .int warm, .int wet] (mh I L) (mQ (some (.int (if mdayB I warm wet then -1 else nI D))) (if mdayB I warm wet then zu I 0 0 0 else mdayI I P G D ts warm wet) L) := by
  refine Zm_of (lg := false) (by decide) (fun _ => by simp [Value.category]) (fun _ => Nat.le_of_ble_eq_true rfl) ?_
  show Zf x9_day 0 0 0 (zargs [.ref 0, .int warm, .int wet]) [] (mh I L) _
  generalize hQ0 : (mQ (some (.int (if mdayB I warm wet then -1 else nI D))) (if mdayB I warm wet then zu I 0 0 0 else mdayI I P G D ts warm wet) L : Option Value → ZH → Prop) = Q0
  obtain ⟨hP, hG, hD, h24, h35, h34, hw, hn⟩ := id hI.1
  have i34 : zu I 0 0 0 0 34 = nI D := h34
  refine z_aload_n (i := 0) dX9_day_0 rfl rfl ?_
  refine z_iconst (v := 0) dX9_day_1 (by decide) ?_
  refine z_putI zf9_137 dX9_day_2 (fun h => by cases h) (by decide) rfl ?_
  refine z_iload_n (i := 1) dX9_day_5 rfl rfl ?_
  refine z_if_lt 35 dX9_day_6 (by decide) (fun c_1 => ?_) (fun c_1 => ?_)
  · skip
    refine z_iconst (v := (-1)) dX9_day_35 (by decide) ?_
    refine z_iret dX9_day_36 rfl ?_
    subst hQ0
    have hb : mdayB I warm wet := by simp_all [mdayB]
    rw [if_pos hb, if_pos hb]
    exact ⟨rfl, rfl⟩
  · skip
    refine z_iload_n (i := 1) dX9_day_9 rfl rfl ?_
    refine z_bipush (v := 10) dX9_day_10 (by decide) ?_
    refine z_icmp_gt 35 dX9_day_12 (by decide) (fun c_2 => ?_) (fun c_2 => ?_)
    · skip
      refine z_iconst (v := (-1)) dX9_day_35 (by decide) ?_
      refine z_iret dX9_day_36 rfl ?_
      subst hQ0
      have hb : mdayB I warm wet := by simp_all [mdayB]
      rw [if_pos hb, if_pos hb]
      exact ⟨rfl, rfl⟩
    · skip
      refine z_iload_n (i := 2) dX9_day_15 rfl rfl ?_
      refine z_if_lt 35 dX9_day_16 (by decide) (fun c_3 => ?_) (fun c_3 => ?_)
      · skip
        refine z_iconst (v := (-1)) dX9_day_35 (by decide) ?_
        refine z_iret dX9_day_36 rfl ?_
        subst hQ0
        have hb : mdayB I warm wet := by simp_all [mdayB]
        rw [if_pos hb, if_pos hb]
        exact ⟨rfl, rfl⟩
      · skip
        refine z_iload_n (i := 2) dX9_day_19 rfl rfl ?_
        refine z_bipush (v := 10) dX9_day_20 (by decide) ?_
        refine z_icmp_gt 35 dX9_day_22 (by decide) (fun c_4 => ?_) (fun c_4 => ?_)
        · skip
          refine z_iconst (v := (-1)) dX9_day_35 (by decide) ?_
          refine z_iret dX9_day_36 rfl ?_
          subst hQ0
          have hb : mdayB I warm wet := by simp_all [mdayB]
          rw [if_pos hb, if_pos hb]
          exact ⟨rfl, rfl⟩
        · skip
          refine z_aload_n (i := 0) dX9_day_25 rfl rfl ?_
          refine z_gI zf9_239.g dX9_day_26 (by decide) rfl ?_
          refine z_sipush (v := 357) dX9_day_29 (by decide) ?_
          refine z_icmp_ne 37 dX9_day_32 (by decide) (fun c_5 => ?_) (fun c_5 => ?_)
          · skip
            refine z_iconst (v := 0) dX9_day_37 (by decide) ?_
            refine z_istore_n (i := 3) dX9_day_38 rfl (by decide) rfl ?_
            subst hQ0
            have hnb : ¬ mdayB I warm wet := by simp_all [mdayB]
            refine l9_dayN (D := D) (hd := hd) (ts := ts) (warm := warm) (wet := wet) (mpre_thr hI 0) (fun ls1 b0 b1 b2 => ?_) (P + 1) 0 (by omega) (by omega) _ _ (mpn_0 _ _).symm rfl rfl rfl rfl
            refine z_iconst (v := 0) dX9_day_79 (by decide) ?_
            refine z_istore_n (i := 3) dX9_day_80 rfl (by decide) rfl ?_
            have hI2 : mpre (mpn (zu I 0 0 0) D P) P G D hd ts := mpre_row (mpre_thr hI 0) 23 (by omega) (fun a ha => mpn_ne _ _ _ ha)
            refine l9_dayH hI2 (fun ls2 a0 a1 a2 => ?_) 5 0 (by omega) (by omega) _ _ rfl b0 b1 b2 rfl
            have hI3 := mpre_dh hI2 warm wet 4
            generalize hF : mdh (mpn (zu I 0 0 0) D P) P G D ts warm wet 4 = F at hI3 ⊢
            obtain ⟨-, -, -, f24, f35, f34, -⟩ := hI3.1
            refine z_aload_n (i := 0) dX9_day_119 rfl a0 ?_
            refine z_aload_n (i := 0) dX9_day_120 rfl a0 ?_
            refine z_gR zf9_86.g dX9_day_121 (by decide) rfl rfl ?_
            refine z_iload_n (i := 1) dX9_day_124 rfl a1 ?_
            refine z_iload_n (i := 2) dX9_day_125 rfl a2 ?_
            refine z_callV (st := []) (mc2 := 0) (ms2 := 0) zi9_306 zv_yX9_grows (c9_grows F L 18 P warm wet (by decide) (by decide) rfl hP f24) dX9_day_126 (show (0 : Nat) < 35 by decide) rfl rfl rfl rfl (by decide) (by decide) (Nat.le_of_ble_eq_true rfl) (by decide) (by decide) (fun r h2 hq => ?_)
            obtain ⟨rfl, rfl⟩ := hq
            try simp only [Option.toList, List.nil_append]
            refine z_aload_n (i := 0) dX9_day_129 rfl a0 ?_
            refine z_aload_n (i := 0) dX9_day_130 rfl a0 ?_
            refine z_gR zf9_89.g dX9_day_131 (by decide) rfl rfl ?_
            refine z_iload_n (i := 1) dX9_day_134 rfl a1 ?_
            refine z_iload_n (i := 2) dX9_day_135 rfl a2 ?_
            refine z_callV (st := []) (mc2 := 0) (ms2 := 0) zi9_306 zv_yX9_grows (c9_grows (mgI F 18 warm wet (24 * P)) L 19 P warm wet (by decide) (by decide) rfl hP (by rw [mgI_ne _ _ _ _ _ _ _ (by decide)]; exact f24)) dX9_day_136 (show (0 : Nat) < 35 by decide) rfl rfl rfl rfl (by decide) (by decide) (Nat.le_of_ble_eq_true rfl) (by decide) (by decide) (fun r h2 hq => ?_)
            obtain ⟨rfl, rfl⟩ := hq
            try simp only [Option.toList, List.nil_append]
            have g34 : mgI (mgI F 18 warm wet (24 * P)) 19 warm wet (24 * P) 0 34 = nI D := by rw [mgI_ne _ _ _ _ _ _ _ (by decide), mgI_ne _ _ _ _ _ _ _ (by decide)]; exact f34
            refine z_aload_n (i := 0) dX9_day_139 rfl a0 ?_
            refine z_dup dX9_day_140 rfl ?_
            refine z_gI zf9_239.g dX9_day_141 (by decide) rfl ?_
            refine z_iconst (v := 1) dX9_day_144 (by decide) ?_
            refine z_iadd dX9_day_145 ?_
            refine z_top (y := .int (nI (D + 1))) (by rw [g34, zl1, nI_add]) ?_
            refine z_putI zf9_239 dX9_day_146 (fun h => by cases h) (by decide) rfl ?_
            refine z_aload_n (i := 0) dX9_day_149 rfl a0 ?_
            refine z_gI zf9_239.g dX9_day_150 (by decide) rfl ?_
            refine z_iconst (v := 1) dX9_day_153 (by decide) ?_
            refine z_isub dX9_day_154 ?_
            refine z_top (y := .int (nI D)) (by rw [show zu (mgI (mgI F 18 warm wet (24 * P)) 19 warm wet (24 * P)) 0 34 (nI (D + 1)) 0 34 = nI (D + 1) from rfl, zsub1]) ?_
            refine z_iret dX9_day_155 rfl ?_
            rw [if_neg hnb]
            refine ⟨rfl, ?_⟩
            unfold mdayI
            rw [hF, if_neg hnb]
          · skip
            refine z_iconst (v := (-1)) dX9_day_35 (by decide) ?_
            refine z_iret dX9_day_36 rfl ?_
            subst hQ0
            have hb : mdayB I warm wet := by simp_all [mdayB]
            rw [if_pos hb, if_pos hb]
            exact ⟨rfl, rfl⟩
