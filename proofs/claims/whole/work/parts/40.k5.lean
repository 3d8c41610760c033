theorem kpf1 {I : Nat → Nat → Int32} {o r m : Nat} {v w : Int32} {a : Nat} (h1 : a ≠ o) (h2 : a ≠ r) : zu (zu I o m v) r 5 w a = I a := by rw [zu_ne _ _ _ h2, zu_ne _ _ _ h1]
theorem kpf2 {I : Nat → Nat → Int32} {o r m : Nat} {v w : Int32} (h : r ≠ o) : zu (zu I o m v) r 5 w o = va_up (I o) m v := by rw [zu_ne _ _ _ h.symm, zu_at]
theorem kpf3 {I : Nat → Nat → Int32} {o r m : Nat} {v w : Int32} : zu (zu I o m v) r 5 w r 5 = w := by rw [zu_apply, if_pos ⟨rfl, rfl⟩]
theorem kpf4 {I : Nat → Nat → Int32} {o r m : Nat} {v w : Int32} (h : r ≠ o) {j : Nat} (hj : j ≠ 5) : zu (zu I o m v) r 5 w r j = I r j := by rw [zu_apply, if_neg (by omega), zu_ne _ _ _ h]
/-- what a line's worth leaves alone -/
def kwF (o r : Nat) (I J : Nat → Nat → Int32) : Prop := (∀ a, a ≠ o → a ≠ r → J a = I a) ∧ ∀ j, j ≠ 5 → J r j = I r j
theorem kwF.rf (o r : Nat) (I : Nat → Nat → Int32) : kwF o r I I := ⟨fun _ _ _ => rfl, fun _ _ => rfl⟩
theorem kwF.tr {o r : Nat} {I J M : Nat → Nat → Int32} (h : kwF o r I J) (h2 : kwF o r J M) : kwF o r I M := ⟨fun a x y => (h2.1 a x y).trans (h.1 a x y), fun j x => (h2.2 j x).trans (h.2 j x)⟩
theorem kwF_p {I : Nat → Nat → Int32} {o r m : Nat} {v w : Int32} (h : r ≠ o) : kwF o r I (zu (zu I o m v) r 5 w) := ⟨fun a h1 h2 => kpf1 h1 h2, fun j hj => kpf4 h hj⟩
theorem kwF_5 {I : Nat → Nat → Int32} {o r : Nat} {w : Int32} : kwF o r I (zu I r 5 w) := ⟨fun a h1 h2 => zu_ne _ _ _ h2, fun j hj => by rw [zu_apply, if_neg (by omega)]⟩
def kcd (I : Nat → Nat → Int32) (c i : Nat) (cs : List (Nat × Int32)) : Prop := ∀ (j : Nat) (x : Nat × Int32), cs[j]? = some x → I c (i + j) = kenc x
theorem kcd_tl {I J : Nat → Nat → Int32} {c i : Nat} {x : Nat × Int32} {cs : List (Nat × Int32)} (h : kcd I c i (x :: cs)) (hJ : J c = I c) : kcd J c (i + 1) cs := fun j y hj => by
  have := h (j + 1) y (by simpa using hj)
  rw [hJ, show i + 1 + j = i + (j + 1) by omega]
  exact this
theorem kev_1 {kn : Nat → Int32} {x : Nat × Int32} {cs : List (Nat × Int32)} {st : List Int32} (h : x.1 = 1) : kev kn (x :: cs) st = kev kn cs (x.2 :: st) := by simp [kev, h]
theorem kev_2 {kn : Nat → Int32} {x : Nat × Int32} {cs : List (Nat × Int32)} {st : List Int32} (h : x.1 = 2) : kev kn (x :: cs) st = kev kn cs (kn x.2.toNatClampNeg :: st) := by simp [kev, h]
theorem kev_3 {kn : Nat → Int32} {x : Nat × Int32} {cs : List (Nat × Int32)} {a b : Int32} {st : List Int32} (h : 3 ≤ x.1) : kev kn (x :: cs) (b :: a :: st) = kev kn cs (mop x.1 a b :: st) := by
  simp only [kev]
  rw [if_neg (by omega), if_neg (by omega)]
  rfl
abbrev x4_worth : ZX := (RX4, cX4_worth, 8, (some .int), "worth", 1, 40, false)
set_option maxHeartbeats 4000000 in
theorem l4_worth {n : Nat} {K : Nat → Nat × Nat} {L : Nat → Nat → Int64} {R : Nat → Nat → Option Nat} {Q : Option Value → ZH → Prop} {r c e p o td T : Nat} {kn : Nat → Int32} (hU : kRu n K R r c e p o) (hta : td < n) (hkt : K td = (0, 8)) (hto : td ≠ o) (htr : td ≠ r) (hT : T ≤ 600) : ∀ (cs : List (Nat × Int32)) (I : Nat → Nat → Int32) (i : Nat) (st : List Int32) (ls : Nat → Option Value), kcd I c i cs → mrp cs st.length 1 → kSt (I o) st → I r 5 = nI st.length → st.length ≤ 16 → i + cs.length = T → (∀ j, j < 8 → I td j = kn j) → ls 0 = some (.ref r) → ls 2 = some (.int (nI T)) → ls 3 = some (.ref td) → ls 4 = some (.int (nI i)) → (∀ J, kwF o r I J → Q (some (.int ((kev kn cs st).getD 0 0))) (n, K, J, L, R)) → Zf x4_worth 0 0 8 ls [] (n, K, I, L, R) Q := by
  intro cs
  induction cs with
  | nil =>
    intro I i st ls hc hm hs h5 h16 hi hkn hl0 hl2 hl3 hl4 hQ
    obtain ⟨⟨ha, hca, hea, hpa, hoa⟩, ⟨hkr, hkc, hke, hkp, hko⟩, ⟨hr0, hr1, hr2, hr3⟩, ⟨nep, neo, npo⟩, ⟨nrc, nre, nrp, nro⟩, ⟨nce, ncp, nco⟩⟩ := id hU
    simp only [mrp] at hm
    simp only [List.length_nil, Nat.add_zero] at hi
    obtain ⟨v, rfl⟩ : ∃ v, st = [v] := by
      match st, hm with
      | [v], _ => exact ⟨v, rfl⟩
    have hv := (kSt_pop hs).2
    simp only [List.length_nil] at hv
    refine z_iload dX4_worth_8 hl4 ?_
    refine z_iload_n (i := 2) dX4_worth_10 rfl hl2 ?_
    refine z_icmp_ge 123 dX4_worth_11 (by decide) (fun _ => ?_) (fun c_1 => absurd (by rw [zle (by omega) (by omega)]; omega) c_1)
    refine z_aload_n (i := 0) dX4_worth_123 rfl hl0 ?_
    refine z_callV (st := []) (mc2 := 0) (ms2 := 0) zi4_42 zv_yX4_pop (c4_pop n K I L R r c e p o hU 0 (by omega) h5) dX4_worth_124 ha (congrArg Prod.fst hkr) rfl rfl rfl (by decide) (by decide) (Nat.le_of_ble_eq_true rfl) (by decide) (by decide) (fun r h2 hq => ?_)
    obtain ⟨rfl, rfl⟩ := hq
    refine z_iret dX4_worth_127 rfl ?_
    rw [hv]
    exact hQ _ kwF_5
  | cons x cs ih =>
    intro I i st ls hc hm hs h5 h16 hi hkn hl0 hl2 hl3 hl4 hQ
    obtain ⟨⟨ha, hca, hea, hpa, hoa⟩, ⟨hkr, hkc, hke, hkp, hko⟩, ⟨hr0, hr1, hr2, hr3⟩, ⟨nep, neo, npo⟩, ⟨nrc, nre, nrp, nro⟩, ⟨nce, ncp, nco⟩⟩ := id hU
    simp only [List.length_cons] at hi
    have hx : I c i = kenc x := by have := hc 0 x rfl; rwa [Nat.add_zero] at this
    simp only [mrp] at hm
    rcases hm with ⟨x1, ⟨⟨v, hv, xv⟩, h15⟩, hm⟩ | ⟨x1, ⟨⟨v, hv, xv⟩, h15⟩, hm⟩ | ⟨⟨x3, x7⟩, h2, hm⟩
    · have hx2 : kenc x = nI v := by unfold kenc; rw [if_pos x1]; exact xv
      rw [hx2] at hx
      rw [kev_1 x1, xv] at hQ
      refine z_iload dX4_worth_8 hl4 ?_
      refine z_iload_n (i := 2) dX4_worth_10 rfl hl2 ?_
      refine z_icmp_ge 123 dX4_worth_11 (by decide) (fun c_1 => absurd c_1 (by rw [zle (by omega) (by omega)]; omega)) (fun _ => ?_)
      refine z_iload dX4_worth_14 hl4 ?_
      refine z_aload_n (i := 0) dX4_worth_16 rfl hl0 ?_
      refine z_gR zf4_9.g dX4_worth_17 ha hkr hr0 ?_
      refine z_alenI dX4_worth_20 hca hkc rfl ?_
      refine z_icmp_ge 123 dX4_worth_21 (by decide) (fun c_2 => absurd c_2 (by rw [show Int32.ofNat 600 = nI 600 from rfl, zle (by omega) (by omega)]; omega)) (fun _ => ?_)
      refine z_aload_n (i := 0) dX4_worth_24 rfl hl0 ?_
      refine z_gR zf4_9.g dX4_worth_25 ha hkr hr0 ?_
      refine z_iload dX4_worth_28 hl4 ?_
      refine z_iald dX4_worth_30 hca hkc (zvin (by omega) (by omega)) ?_
      rw [zcl (by omega), hx]
      refine z_istore (i := 5) dX4_worth_31 (by decide) rfl ?_
      refine z_iload dX4_worth_33 rfl ?_
      refine z_sipush (v := 10000) dX4_worth_35 (by decide) ?_
      refine z_icmp_ge 50 dX4_worth_38 (by decide) (fun c_3 => absurd c_3 (by rw [show (10000 : Int32) = nI 10000 from rfl, zle (by omega) (by omega)]; omega)) (fun _ => ?_)
      refine z_aload_n (i := 0) dX4_worth_41 rfl hl0 ?_
      refine z_iload dX4_worth_42 rfl ?_
      refine z_callV (st := []) (mc2 := 0) (ms2 := 0) zi4_38 zv_yX4_push (c4_push n K I L R r c e p o hU st.length (nI v) h15 h5) dX4_worth_44 ha (congrArg Prod.fst hkr) rfl rfl rfl (by decide) (by decide) (Nat.le_of_ble_eq_true rfl) (by decide) (by decide) (fun r h2 hq => ?_)
      obtain ⟨rfl, rfl⟩ := hq
      try simp only [Option.toList, List.nil_append]
      refine z_goto 117 dX4_worth_47 (by decide) ?_
      refine z_iinc dX4_worth_117 hl4 rfl ?_
      refine z_goto 8 dX4_worth_120 (by decide) ?_
      rw [zinc]
      exact ih _ (i + 1) (nI v :: st) _ (kcd_tl hc (kpf1 nco nrc.symm)) hm (by rw [kpf2 nro]; exact kSt_push hs _) kpf3 (by simp only [List.length_cons]; omega) (by omega) (fun j hj => by rw [kpf1 hto htr]; exact hkn j hj) hl0 hl2 hl3 rfl (fun J hJ => hQ J ((kwF_p nro).tr hJ))
    · have hx2 : kenc x = nI (10000 + v) := by unfold kenc; rw [if_neg (by omega), if_pos x1, xv, show (10000 : Int32) = nI 10000 from rfl, nI_add]
      rw [hx2] at hx
      rw [kev_2 x1, xv, zcl (by omega)] at hQ
      refine z_iload dX4_worth_8 hl4 ?_
      refine z_iload_n (i := 2) dX4_worth_10 rfl hl2 ?_
      refine z_icmp_ge 123 dX4_worth_11 (by decide) (fun c_1 => absurd c_1 (by rw [zle (by omega) (by omega)]; omega)) (fun _ => ?_)
      refine z_iload dX4_worth_14 hl4 ?_
      refine z_aload_n (i := 0) dX4_worth_16 rfl hl0 ?_
      refine z_gR zf4_9.g dX4_worth_17 ha hkr hr0 ?_
      refine z_alenI dX4_worth_20 hca hkc rfl ?_
      refine z_icmp_ge 123 dX4_worth_21 (by decide) (fun c_2 => absurd c_2 (by rw [show Int32.ofNat 600 = nI 600 from rfl, zle (by omega) (by omega)]; omega)) (fun _ => ?_)
      refine z_aload_n (i := 0) dX4_worth_24 rfl hl0 ?_
      refine z_gR zf4_9.g dX4_worth_25 ha hkr hr0 ?_
      refine z_iload dX4_worth_28 hl4 ?_
      refine z_iald dX4_worth_30 hca hkc (zvin (by omega) (by omega)) ?_
      rw [zcl (by omega), hx]
      refine z_istore (i := 5) dX4_worth_31 (by decide) rfl ?_
      refine z_iload dX4_worth_33 rfl ?_
      refine z_sipush (v := 10000) dX4_worth_35 (by decide) ?_
      refine z_icmp_ge 50 dX4_worth_38 (by decide) (fun _ => ?_) (fun c_3 => absurd (by rw [show (10000 : Int32) = nI 10000 from rfl, zle (by omega) (by omega)]; omega) c_3)
      refine z_iload dX4_worth_50 rfl ?_
      refine z_sipush (v := 20000) dX4_worth_52 (by decide) ?_
      refine z_icmp_ge 88 dX4_worth_55 (by decide) (fun c_4 => absurd c_4 (by rw [show (20000 : Int32) = nI 20000 from rfl, zle (by omega) (by omega)]; omega)) (fun _ => ?_)
      refine z_iload dX4_worth_58 rfl ?_
      refine z_sipush (v := 10000) dX4_worth_60 (by decide) ?_
      refine z_isub dX4_worth_63 ?_
      refine z_top (y := .int (nI v)) (by rw [show (10000 : Int32) = nI 10000 from rfl, pk_sub (by omega), Nat.add_sub_cancel_left]) ?_
      refine z_istore (i := 6) dX4_worth_64 (by decide) rfl ?_
      refine z_aload_n (i := 0) dX4_worth_66 rfl hl0 ?_
      refine z_iload dX4_worth_67 rfl ?_
      refine z_aload_n (i := 3) dX4_worth_69 rfl hl3 ?_
      refine z_alenI dX4_worth_70 hta hkt rfl ?_
      refine z_icmp_ge 81 dX4_worth_71 (by decide) (fun c_5 => absurd c_5 (by rw [show Int32.ofNat 8 = nI 8 from rfl, zle (by omega) (by omega)]; omega)) (fun _ => ?_)
      refine z_aload_n (i := 3) dX4_worth_74 rfl hl3 ?_
      refine z_iload dX4_worth_75 rfl ?_
      refine z_iald dX4_worth_77 hta hkt (zvin (by omega) (by omega)) ?_
      rw [zcl (by omega), hkn v hv]
      refine z_goto 82 dX4_worth_78 (by decide) ?_
      refine z_callV (st := []) (mc2 := 0) (ms2 := 0) zi4_38 zv_yX4_push (c4_push n K I L R r c e p o hU st.length (kn v) h15 h5) dX4_worth_82 ha (congrArg Prod.fst hkr) rfl rfl rfl (by decide) (by decide) (Nat.le_of_ble_eq_true rfl) (by decide) (by decide) (fun r h2 hq => ?_)
      obtain ⟨rfl, rfl⟩ := hq
      try simp only [Option.toList, List.nil_append]
      refine z_goto 117 dX4_worth_85 (by decide) ?_
      refine z_iinc dX4_worth_117 hl4 rfl ?_
      refine z_goto 8 dX4_worth_120 (by decide) ?_
      rw [zinc]
      exact ih _ (i + 1) (kn v :: st) _ (kcd_tl hc (kpf1 nco nrc.symm)) hm (by rw [kpf2 nro]; exact kSt_push hs _) kpf3 (by simp only [List.length_cons]; omega) (by omega) (fun j hj => by rw [kpf1 hto htr]; exact hkn j hj) hl0 hl2 hl3 rfl (fun J hJ => hQ J ((kwF_p nro).tr hJ))
    · have hx2 : kenc x = 20000 + ksg x.1 := by unfold kenc; rw [if_neg (by omega), if_neg (by omega)]
      rw [hx2] at hx
      obtain ⟨g1, g2, g3⟩ := ksg_lt x.1 x3 x7
      obtain ⟨b, a, st, rfl⟩ : ∃ b a s, st = b :: a :: s := by
        match st, h2 with
        | b :: a :: s, _ => exact ⟨b, a, s, rfl⟩
      rw [kev_3 x3] at hQ
      simp only [List.length_cons] at h5 h16 hm
      obtain ⟨hs1, hb⟩ := kSt_pop hs
      obtain ⟨hs2, ha2⟩ := kSt_pop hs1
      simp only [List.length_cons] at hb
      have hA : zu I r 5 (nI (st.length + 1)) o st.length = a := by rw [zu_ne _ _ _ nro.symm]; exact ha2
      refine z_iload dX4_worth_8 hl4 ?_
      refine z_iload_n (i := 2) dX4_worth_10 rfl hl2 ?_
      refine z_icmp_ge 123 dX4_worth_11 (by decide) (fun c_1 => absurd c_1 (by rw [zle (by omega) (by omega)]; omega)) (fun _ => ?_)
      refine z_iload dX4_worth_14 hl4 ?_
      refine z_aload_n (i := 0) dX4_worth_16 rfl hl0 ?_
      refine z_gR zf4_9.g dX4_worth_17 ha hkr hr0 ?_
      refine z_alenI dX4_worth_20 hca hkc rfl ?_
      refine z_icmp_ge 123 dX4_worth_21 (by decide) (fun c_2 => absurd c_2 (by rw [show Int32.ofNat 600 = nI 600 from rfl, zle (by omega) (by omega)]; omega)) (fun _ => ?_)
      refine z_aload_n (i := 0) dX4_worth_24 rfl hl0 ?_
      refine z_gR zf4_9.g dX4_worth_25 ha hkr hr0 ?_
      refine z_iload dX4_worth_28 hl4 ?_
      refine z_iald dX4_worth_30 hca hkc (zvin (by omega) (by omega)) ?_
      rw [zcl (by omega), hx]
      refine z_istore (i := 5) dX4_worth_31 (by decide) rfl ?_
      refine z_iload dX4_worth_33 rfl ?_
      refine z_sipush (v := 10000) dX4_worth_35 (by decide) ?_
      refine z_icmp_ge 50 dX4_worth_38 (by decide) (fun _ => ?_) (fun c_3 => absurd (Int32.not_lt.mp g1) c_3)
      refine z_iload dX4_worth_50 rfl ?_
      refine z_sipush (v := 20000) dX4_worth_52 (by decide) ?_
      refine z_icmp_ge 88 dX4_worth_55 (by decide) (fun _ => ?_) (fun c_4 => absurd (Int32.not_lt.mp g2) c_4)
      refine z_aload_n (i := 0) dX4_worth_88 rfl hl0 ?_
      refine z_callV (st := []) (mc2 := 0) (ms2 := 0) zi4_42 zv_yX4_pop (c4_pop n K I L R r c e p o hU (st.length + 1) (by omega) h5) dX4_worth_89 ha (congrArg Prod.fst hkr) rfl rfl rfl (by decide) (by decide) (Nat.le_of_ble_eq_true rfl) (by decide) (by decide) (fun r h2 hq => ?_)
      obtain ⟨rfl, rfl⟩ := hq
      rw [hb]
      refine z_istore (i := 6) dX4_worth_92 (by decide) rfl ?_
      refine z_aload_n (i := 0) dX4_worth_94 rfl hl0 ?_
      refine z_callV (st := []) (mc2 := 0) (ms2 := 0) zi4_42 zv_yX4_pop (c4_pop n K _ L R r c e p o hU st.length (by omega) (by rw [zu_apply, if_pos ⟨rfl, rfl⟩])) dX4_worth_95 ha (congrArg Prod.fst hkr) rfl rfl rfl (by decide) (by decide) (Nat.le_of_ble_eq_true rfl) (by decide) (by decide) (fun r h2 hq => ?_)
      obtain ⟨rfl, rfl⟩ := hq
      rw [hA]
      refine z_istore (i := 7) dX4_worth_98 (by decide) rfl ?_
      refine z_aload_n (i := 0) dX4_worth_100 rfl hl0 ?_
      refine z_iload dX4_worth_101 rfl ?_
      refine z_sipush (v := 20000) dX4_worth_103 (by decide) ?_
      refine z_isub dX4_worth_106 ?_
      rw [g3]
      refine z_iload dX4_worth_107 rfl ?_
      refine z_iload dX4_worth_109 rfl ?_
      refine z_callS (st := [_]) (mc2 := 0) (ms2 := 0) zi4_46 zs_yX4_join (c4_join n K _ L R x.1 a b x3 x7) dX4_worth_111 rfl rfl (by decide) (by decide) (Nat.le_of_ble_eq_true rfl) (by decide) (by decide) (fun r h2 hq => ?_)
      obtain ⟨rfl, rfl⟩ := hq
      refine z_callV (st := []) (mc2 := 0) (ms2 := 0) zi4_38 zv_yX4_push (c4_push n K _ L R r c e p o hU st.length (mop x.1 a b) (by omega) (by rw [zu_apply, if_pos ⟨rfl, rfl⟩])) dX4_worth_114 ha (congrArg Prod.fst hkr) rfl rfl rfl (by decide) (by decide) (Nat.le_of_ble_eq_true rfl) (by decide) (by decide) (fun r h2 hq => ?_)
      obtain ⟨rfl, rfl⟩ := hq
      try simp only [Option.toList, List.nil_append]
      refine z_iinc dX4_worth_117 hl4 rfl ?_
      refine z_goto 8 dX4_worth_120 (by decide) ?_
      rw [zinc]
      have eo : ∀ q : Nat → Nat → Int32, q = zu (zu I r 5 (nI (st.length + 1))) r 5 (nI st.length) → (∀ a, a ≠ r → q a = I a) ∧ kwF o r I q := fun q hq => by
        subst hq
        exact ⟨fun a h => by rw [zu_ne _ _ _ h, zu_ne _ _ _ h], kwF_5.tr kwF_5⟩
      obtain ⟨eo1, eo2⟩ := eo _ rfl
      exact ih _ (i + 1) (mop x.1 a b :: st) _ (kcd_tl hc ((kpf1 nco nrc.symm).trans (eo1 c nrc.symm))) hm (by rw [kpf2 nro, eo1 o nro.symm]; exact kSt_push hs2 _) kpf3 (by simp only [List.length_cons]; omega) (by omega) (fun j hj => by rw [kpf1 hto htr, eo1 td htr]; exact hkn j hj) hl0 hl2 hl3 rfl (fun J hJ => hQ J (eo2.tr ((kwF_p nro).tr hJ)))
set_option maxHeartbeats 4000000 in
theorem c4_worth (n : Nat) (K : Nat → Nat × Nat) (I : Nat → Nat → Int32) (L : Nat → Nat → Int64) (R : Nat → Nat → Option Nat) (r c e p o td i : Nat) (kn : Nat → Int32) (cs : List (Nat × Int32)) (hU : kRu n K R r c e p o) (hta : td < n) (hkt : K td = (0, 8)) (hto : td ≠ o) (htr : td ≠ r) (hT : i + cs.length ≤ 600) (hc : kcd I c i cs) (hm : mrp cs 0 1) (hkn : ∀ j, j < 8 → I td j = kn j) : Zm yX4_worth cX4_worth 8 (some .int) 1 40 0 0 [.ref r, .int (nI i), .int (nI (i + cs.length)), .ref td] ((n, K, I, L, R)) (fun r2 h2 => r2 = some (.int ((kev kn cs []).getD 0 0)) ∧ ∃ J, h2 = (n, K, J, L, R) ∧ kwF o r I J) := by
  refine Zm_of (lg := false) (by decide) (fun _ => by simp [Value.category]) (fun _ => Nat.le_of_ble_eq_true rfl) ?_
  show Zf x4_worth 0 0 0 (zargs [.ref r, .int (nI i), .int (nI (i + cs.length)), .ref td]) [] ((n, K, I, L, R)) _
  obtain ⟨⟨ha, hca, hea, hpa, hoa⟩, ⟨hkr, hkc, hke, hkp, hko⟩, ⟨hr0, hr1, hr2, hr3⟩, ⟨nep, neo, npo⟩, ⟨nrc, nre, nrp, nro⟩, ⟨nce, ncp, nco⟩⟩ := id hU
  refine z_aload_n (i := 0) dX4_worth_0 rfl rfl ?_
  refine z_iconst (v := 0) dX4_worth_1 (by decide) ?_
  refine z_putI zf4_35 dX4_worth_2 (fun h => by cases h) ha hkr ?_
  refine z_iload_n (i := 1) dX4_worth_5 rfl rfl ?_
  refine z_istore (i := 4) dX4_worth_6 (by decide) rfl ?_
  refine l4_worth (T := i + cs.length) (kn := kn) hU hta hkt hto htr hT cs _ i [] _ (fun j x hj => by rw [zu_ne _ _ _ nrc.symm]; exact hc j x hj) hm (fun j hj => by simp at hj) (by rw [zu_apply, if_pos ⟨rfl, rfl⟩]; rfl) (by simp) rfl (fun j hj => by rw [zu_ne _ _ _ htr]; exact hkn j hj) rfl rfl rfl rfl (fun J hJ => ⟨rfl, J, rfl, kwF_5.tr hJ⟩)
