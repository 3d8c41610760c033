/-! the rules -/
def kRu (n : Nat) (K : Nat → Nat × Nat) (R : Nat → Nat → Option Nat) (r c e p o : Nat) : Prop := (r < n ∧ c < n ∧ e < n ∧ p < n ∧ o < n) ∧ (K r = (9, 0) ∧ K c = (0, 600) ∧ K e = (0, 16) ∧ K p = (0, 16) ∧ K o = (0, 16)) ∧ (R r 0 = some c ∧ R r 1 = some e ∧ R r 2 = some p ∧ R r 3 = some o) ∧ (e ≠ p ∧ e ≠ o ∧ p ≠ o) ∧ (r ≠ c ∧ r ≠ e ∧ r ≠ p ∧ r ≠ o) ∧ (c ≠ e ∧ c ≠ p ∧ c ≠ o)
def ksg (o : Nat) : Int32 := if o = 3 then 43 else if o = 4 then 45 else if o = 5 then 60 else if o = 6 then 61 else 6
def kenc (x : Nat × Int32) : Int32 := if x.1 = 1 then x.2 else if x.1 = 2 then 10000 + x.2 else 20000 + ksg x.1
def kev (kn : Nat → Int32) : List (Nat × Int32) → List Int32 → List Int32
  | [], st => st
  | c :: cs, st => if c.1 = 1 then kev kn cs (c.2 :: st) else if c.1 = 2 then kev kn cs (kn c.2.toNatClampNeg :: st) else kev kn cs (mop c.1 (st.getD 1 0) (st.getD 0 0) :: st.drop 2)
abbrev x4_clear : ZX := (RX4, cX4_clear, 1, none, "clear", 0, 0, false)
set_option maxHeartbeats 4000000 in
theorem c4_clear (n : Nat) (K : Nat → Nat × Nat) (I : Nat → Nat → Int32) (L : Nat → Nat → Int64) (R : Nat → Nat → Option Nat) (r c e p o : Nat) (hU : kRu n K R r c e p o) : Zm yX4_clear cX4_clear 1 none 0 0 0 0 [.ref r] ((n, K, I, L, R)) (kQ none n K (zu (zu I r 4 0) r 6 0) L R) := by
  refine Zm_of (lg := false) (by decide) (fun _ => by simp [Value.category]) (fun _ => Nat.le_of_ble_eq_true rfl) ?_
  show Zf x4_clear 0 0 0 (zargs [.ref r]) [] ((n, K, I, L, R)) _
  obtain ⟨⟨ha, hca, hea, hpa, hoa⟩, ⟨hkr, hkc, hke, hkp, hko⟩, ⟨hr0, hr1, hr2, hr3⟩, ⟨nep, neo, npo⟩, ⟨nrc, nre, nrp, nro⟩, ⟨nce, ncp, nco⟩⟩ := id hU
  refine z_aload_n (i := 0) dX4_clear_0 rfl rfl ?_
  refine z_iconst (v := 0) dX4_clear_1 (by decide) ?_
  refine z_putI zf4_24 dX4_clear_2 (fun h => by cases h) ha hkr ?_
  refine z_aload_n (i := 0) dX4_clear_5 rfl rfl ?_
  refine z_iconst (v := 0) dX4_clear_6 (by decide) ?_
  refine z_putI zf4_28 dX4_clear_7 (fun h => by cases h) ha hkr ?_
  refine z_vret dX4_clear_10 rfl ?_
  exact ⟨rfl, rfl⟩
abbrev x4_put : ZX := (RX4, cX4_put, 2, none, "put", 0, 0, false)
set_option maxHeartbeats 4000000 in
theorem c4_put (n : Nat) (K : Nat → Nat × Nat) (I : Nat → Nat → Int32) (L : Nat → Nat → Int64) (R : Nat → Nat → Option Nat) (r c e p o : Nat) (hU : kRu n K R r c e p o) (k : Nat) (v : Int32) (hk6 : k < 600) (h4 : I r 4 = nI k) : Zm yX4_put cX4_put 2 none 0 0 0 0 [.ref r, .int v] ((n, K, I, L, R)) (kQ none n K (zu (zu I c k v) r 4 (nI (k + 1))) L R) := by
  refine Zm_of (lg := false) (by decide) (fun _ => by simp [Value.category]) (fun _ => Nat.le_of_ble_eq_true rfl) ?_
  show Zf x4_put 0 0 0 (zargs [.ref r, .int v]) [] ((n, K, I, L, R)) _
  generalize hQ0 : (kQ none n K (zu (zu I c k v) r 4 (nI (k + 1))) L R : Option Value → ZH → Prop) = Q0
  obtain ⟨⟨ha, hca, hea, hpa, hoa⟩, ⟨hkr, hkc, hke, hkp, hko⟩, ⟨hr0, hr1, hr2, hr3⟩, ⟨nep, neo, npo⟩, ⟨nrc, nre, nrp, nro⟩, ⟨nce, ncp, nco⟩⟩ := id hU
  refine z_aload_n (i := 0) dX4_put_0 rfl rfl ?_
  refine z_gI zf4_24.g dX4_put_1 ha hkr ?_
  rw [h4]
  refine z_aload_n (i := 0) dX4_put_4 rfl rfl ?_
  refine z_gR zf4_9.g dX4_put_5 ha hkr hr0 ?_
  refine z_alenI dX4_put_8 hca hkc rfl ?_
  rw [show Int32.ofNat 600 = nI 600 from rfl]
  refine z_icmp_ge 32 dX4_put_9 (by decide) (fun c_1 => absurd c_1 (by rw [zle (by omega) (by omega)]; omega)) (fun _ => ?_)
  refine z_aload_n (i := 0) dX4_put_12 rfl rfl ?_
  refine z_gR zf4_9.g dX4_put_13 ha hkr hr0 ?_
  refine z_aload_n (i := 0) dX4_put_16 rfl rfl ?_
  refine z_gI zf4_24.g dX4_put_17 ha hkr ?_
  rw [h4]
  refine z_iload_n (i := 1) dX4_put_20 rfl rfl ?_
  refine z_iast dX4_put_21 hca hkc (zvin (by omega) (by omega)) ?_
  simp only [zcl (show k ≤ 100000 by omega)]
  refine z_aload_n (i := 0) dX4_put_22 rfl rfl ?_
  refine z_dup dX4_put_23 rfl ?_
  refine z_gI zf4_24.g dX4_put_24 ha hkr ?_
  rw [show zu I c k v r 4 = nI k by rw [zu_ne _ _ _ nrc]; exact h4]
  refine z_iconst (v := 1) dX4_put_27 (by decide) ?_
  refine z_iadd dX4_put_28 ?_
  refine z_top (y := .int (nI (k + 1))) (by rw [zl1, nI_add]) ?_
  refine z_putI zf4_24 dX4_put_29 (fun h => by cases h) ha hkr ?_
  refine z_vret dX4_put_32 rfl ?_
  subst hQ0
  exact ⟨rfl, rfl⟩
abbrev x4_endLine : ZX := (RX4, cX4_endLine, 2, none, "endLine", 0, 0, false)
set_option maxHeartbeats 4000000 in
theorem c4_endLine (n : Nat) (K : Nat → Nat × Nat) (I : Nat → Nat → Int32) (L : Nat → Nat → Int64) (R : Nat → Nat → Option Nat) (r c e p o : Nat) (hU : kRu n K R r c e p o) (k l : Nat) (v : Int32) (hl6 : l < 16) (h4 : I r 4 = nI k) (h6 : I r 6 = nI l) : Zm yX4_endLine cX4_endLine 2 none 0 0 0 0 [.ref r, .int v] ((n, K, I, L, R)) (kQ none n K (zu (zu (zu I e l (nI k)) p l v) r 6 (nI (l + 1))) L R) := by
  refine Zm_of (lg := false) (by decide) (fun _ => by simp [Value.category]) (fun _ => Nat.le_of_ble_eq_true rfl) ?_
  show Zf x4_endLine 0 0 0 (zargs [.ref r, .int v]) [] ((n, K, I, L, R)) _
  generalize hQ0 : (kQ none n K (zu (zu (zu I e l (nI k)) p l v) r 6 (nI (l + 1))) L R : Option Value → ZH → Prop) = Q0
  obtain ⟨⟨ha, hca, hea, hpa, hoa⟩, ⟨hkr, hkc, hke, hkp, hko⟩, ⟨hr0, hr1, hr2, hr3⟩, ⟨nep, neo, npo⟩, ⟨nrc, nre, nrp, nro⟩, ⟨nce, ncp, nco⟩⟩ := id hU
  refine z_aload_n (i := 0) dX4_endLine_0 rfl rfl ?_
  refine z_gI zf4_28.g dX4_endLine_1 ha hkr ?_
  rw [h6]
  refine z_bipush (v := 16) dX4_endLine_4 (by decide) ?_
  rw [zl16]
  refine z_icmp_ge 42 dX4_endLine_6 (by decide) (fun c_1 => absurd c_1 (by rw [zle (by omega) (by omega)]; omega)) (fun _ => ?_)
  refine z_aload_n (i := 0) dX4_endLine_9 rfl rfl ?_
  refine z_gR zf4_15.g dX4_endLine_10 ha hkr hr1 ?_
  refine z_aload_n (i := 0) dX4_endLine_13 rfl rfl ?_
  refine z_gI zf4_28.g dX4_endLine_14 ha hkr ?_
  rw [h6]
  refine z_aload_n (i := 0) dX4_endLine_17 rfl rfl ?_
  refine z_gI zf4_24.g dX4_endLine_18 ha hkr ?_
  rw [h4]
  refine z_iast dX4_endLine_21 hea hke (zvin (by omega) (by omega)) ?_
  simp only [zcl (show l ≤ 100000 by omega)]
  refine z_aload_n (i := 0) dX4_endLine_22 rfl rfl ?_
  refine z_gR zf4_18.g dX4_endLine_23 ha hkr hr2 ?_
  refine z_aload_n (i := 0) dX4_endLine_26 rfl rfl ?_
  refine z_gI zf4_28.g dX4_endLine_27 ha hkr ?_
  rw [show zu I e l (nI k) r 6 = nI l by rw [zu_ne _ _ _ nre]; exact h6]
  refine z_iload_n (i := 1) dX4_endLine_30 rfl rfl ?_
  refine z_iast dX4_endLine_31 hpa hkp (zvin (by omega) (by omega)) ?_
  simp only [zcl (show l ≤ 100000 by omega)]
  refine z_aload_n (i := 0) dX4_endLine_32 rfl rfl ?_
  refine z_dup dX4_endLine_33 rfl ?_
  refine z_gI zf4_28.g dX4_endLine_34 ha hkr ?_
  rw [show zu (zu I e l (nI k)) p l v r 6 = nI l by rw [zu_ne _ _ _ nrp, zu_ne _ _ _ nre]; exact h6]
  refine z_iconst (v := 1) dX4_endLine_37 (by decide) ?_
  refine z_iadd dX4_endLine_38 ?_
  refine z_top (y := .int (nI (l + 1))) (by rw [zl1, nI_add]) ?_
  refine z_putI zf4_28 dX4_endLine_39 (fun h => by cases h) ha hkr ?_
  refine z_vret dX4_endLine_42 rfl ?_
  subst hQ0
  exact ⟨rfl, rfl⟩
abbrev x4_push : ZX := (RX4, cX4_push, 2, none, "push", 0, 0, false)
set_option maxHeartbeats 4000000 in
theorem c4_push (n : Nat) (K : Nat → Nat × Nat) (I : Nat → Nat → Int32) (L : Nat → Nat → Int64) (R : Nat → Nat → Option Nat) (r c e p o : Nat) (hU : kRu n K R r c e p o) (k : Nat) (v : Int32) (hk6 : k < 16) (h5 : I r 5 = nI k) : Zm yX4_push cX4_push 2 none 0 0 0 0 [.ref r, .int v] ((n, K, I, L, R)) (kQ none n K (zu (zu I o k v) r 5 (nI (k + 1))) L R) := by
  refine Zm_of (lg := false) (by decide) (fun _ => by simp [Value.category]) (fun _ => Nat.le_of_ble_eq_true rfl) ?_
  show Zf x4_push 0 0 0 (zargs [.ref r, .int v]) [] ((n, K, I, L, R)) _
  generalize hQ0 : (kQ none n K (zu (zu I o k v) r 5 (nI (k + 1))) L R : Option Value → ZH → Prop) = Q0
  obtain ⟨⟨ha, hca, hea, hpa, hoa⟩, ⟨hkr, hkc, hke, hkp, hko⟩, ⟨hr0, hr1, hr2, hr3⟩, ⟨nep, neo, npo⟩, ⟨nrc, nre, nrp, nro⟩, ⟨nce, ncp, nco⟩⟩ := id hU
  refine z_aload_n (i := 0) dX4_push_0 rfl rfl ?_
  refine z_gI zf4_35.g dX4_push_1 ha hkr ?_
  rw [h5]
  refine z_aload_n (i := 0) dX4_push_4 rfl rfl ?_
  refine z_gR zf4_21.g dX4_push_5 ha hkr hr3 ?_
  refine z_alenI dX4_push_8 hoa hko rfl ?_
  rw [show Int32.ofNat 16 = nI 16 from rfl]
  refine z_icmp_ge 32 dX4_push_9 (by decide) (fun c_1 => absurd c_1 (by rw [zle (by omega) (by omega)]; omega)) (fun _ => ?_)
  refine z_aload_n (i := 0) dX4_push_12 rfl rfl ?_
  refine z_gR zf4_21.g dX4_push_13 ha hkr hr3 ?_
  refine z_aload_n (i := 0) dX4_push_16 rfl rfl ?_
  refine z_gI zf4_35.g dX4_push_17 ha hkr ?_
  rw [h5]
  refine z_iload_n (i := 1) dX4_push_20 rfl rfl ?_
  refine z_iast dX4_push_21 hoa hko (zvin (by omega) (by omega)) ?_
  simp only [zcl (show k ≤ 100000 by omega)]
  refine z_aload_n (i := 0) dX4_push_22 rfl rfl ?_
  refine z_dup dX4_push_23 rfl ?_
  refine z_gI zf4_35.g dX4_push_24 ha hkr ?_
  rw [show zu I o k v r 5 = nI k by rw [zu_ne _ _ _ nro]; exact h5]
  refine z_iconst (v := 1) dX4_push_27 (by decide) ?_
  refine z_iadd dX4_push_28 ?_
  refine z_top (y := .int (nI (k + 1))) (by rw [zl1, nI_add]) ?_
  refine z_putI zf4_35 dX4_push_29 (fun h => by cases h) ha hkr ?_
  refine z_vret dX4_push_32 rfl ?_
  subst hQ0
  exact ⟨rfl, rfl⟩
abbrev x4_pop : ZX := (RX4, cX4_pop, 1, (some .int), "pop", 0, 0, false)
set_option maxHeartbeats 4000000 in
theorem c4_pop (n : Nat) (K : Nat → Nat × Nat) (I : Nat → Nat → Int32) (L : Nat → Nat → Int64) (R : Nat → Nat → Option Nat) (r c e p o : Nat) (hU : kRu n K R r c e p o) (k : Nat) (hk6 : k < 16) (h5 : I r 5 = nI (k + 1)) : Zm yX4_pop cX4_pop 1 (some .int) 0 0 0 0 [.ref r] ((n, K, I, L, R)) (kQ (some (.int (I o k))) n K (zu I r 5 (nI k)) L R) := by
  refine Zm_of (lg := false) (by decide) (fun _ => by simp [Value.category]) (fun _ => Nat.le_of_ble_eq_true rfl) ?_
  show Zf x4_pop 0 0 0 (zargs [.ref r]) [] ((n, K, I, L, R)) _
  generalize hQ0 : (kQ (some (.int (I o k))) n K (zu I r 5 (nI k)) L R : Option Value → ZH → Prop) = Q0
  obtain ⟨⟨ha, hca, hea, hpa, hoa⟩, ⟨hkr, hkc, hke, hkp, hko⟩, ⟨hr0, hr1, hr2, hr3⟩, ⟨nep, neo, npo⟩, ⟨nrc, nre, nrp, nro⟩, ⟨nce, ncp, nco⟩⟩ := id hU
  refine z_aload_n (i := 0) dX4_pop_0 rfl rfl ?_
  refine z_gI zf4_35.g dX4_pop_1 ha hkr ?_
  rw [h5]
  refine z_if_ne 9 dX4_pop_4 (by decide) (fun _ => ?_) (fun c_1 => absurd c_1 (by rw [zl0, zeq (by omega) (by omega)]; omega))
  refine z_aload_n (i := 0) dX4_pop_9 rfl rfl ?_
  refine z_dup dX4_pop_10 rfl ?_
  refine z_gI zf4_35.g dX4_pop_11 ha hkr ?_
  rw [h5]
  refine z_iconst (v := 1) dX4_pop_14 (by decide) ?_
  refine z_isub dX4_pop_15 ?_
  refine z_top (y := .int (nI k)) (by rw [zsub1]) ?_
  refine z_putI zf4_35 dX4_pop_16 (fun h => by cases h) ha hkr ?_
  refine z_aload_n (i := 0) dX4_pop_19 rfl rfl ?_
  refine z_gR zf4_21.g dX4_pop_20 ha hkr hr3 ?_
  refine z_aload_n (i := 0) dX4_pop_23 rfl rfl ?_
  refine z_gI zf4_35.g dX4_pop_24 ha hkr ?_
  rw [show zu I r 5 (nI k) r 5 = nI k by rw [zu_apply, if_pos ⟨rfl, rfl⟩]]
  refine z_iald dX4_pop_27 hoa hko (zvin (by omega) (by omega)) ?_
  rw [zcl (by omega), zu_ne _ _ _ nro.symm]
  refine z_iret dX4_pop_28 rfl ?_
  subst hQ0
  exact ⟨rfl, rfl⟩
abbrev x4_join : ZX := (RX4, cX4_join, 3, (some .int), "join", 0, 0, false)
set_option maxHeartbeats 4000000 in
theorem c4_join_3 (n : Nat) (K : Nat → Nat × Nat) (I : Nat → Nat → Int32) (L : Nat → Nat → Int64) (R : Nat → Nat → Option Nat) (a b : Int32) : Zm yX4_join cX4_join 3 (some .int) 0 0 0 0 [.int 43, .int a, .int b] ((n, K, I, L, R)) (kQ (some (.int (mop 3 a b))) n K I L R) := by
  refine Zm_of (lg := false) (by decide) (fun _ => by simp [Value.category]) (fun _ => Nat.le_of_ble_eq_true rfl) ?_
  show Zf x4_join 0 0 0 (zargs [.int 43, .int a, .int b]) [] ((n, K, I, L, R)) _
  refine z_iload_n (i := 0) dX4_join_0 rfl rfl ?_
  refine z_lookup (off := 43) 44 dX4_join_1 (by decide) (by decide) (by decide) ?_
  refine z_iload_n (i := 1) dX4_join_44 rfl rfl ?_
  refine z_iload_n (i := 2) dX4_join_45 rfl rfl ?_
  refine z_iadd dX4_join_46 ?_
  refine z_iret dX4_join_47 rfl ?_
  exact ⟨by simp [mop, *], rfl⟩
set_option maxHeartbeats 4000000 in
theorem c4_join_4 (n : Nat) (K : Nat → Nat × Nat) (I : Nat → Nat → Int32) (L : Nat → Nat → Int64) (R : Nat → Nat → Option Nat) (a b : Int32) : Zm yX4_join cX4_join 3 (some .int) 0 0 0 0 [.int 45, .int a, .int b] ((n, K, I, L, R)) (kQ (some (.int (mop 4 a b))) n K I L R) := by
  refine Zm_of (lg := false) (by decide) (fun _ => by simp [Value.category]) (fun _ => Nat.le_of_ble_eq_true rfl) ?_
  show Zf x4_join 0 0 0 (zargs [.int 45, .int a, .int b]) [] ((n, K, I, L, R)) _
  refine z_iload_n (i := 0) dX4_join_0 rfl rfl ?_
  refine z_lookup (off := 47) 48 dX4_join_1 (by decide) (by decide) (by decide) ?_
  refine z_iload_n (i := 1) dX4_join_48 rfl rfl ?_
  refine z_iload_n (i := 2) dX4_join_49 rfl rfl ?_
  refine z_isub dX4_join_50 ?_
  refine z_iret dX4_join_51 rfl ?_
  exact ⟨by simp [mop, *], rfl⟩
set_option maxHeartbeats 4000000 in
theorem c4_join_5 (n : Nat) (K : Nat → Nat × Nat) (I : Nat → Nat → Int32) (L : Nat → Nat → Int64) (R : Nat → Nat → Option Nat) (a b : Int32) : Zm yX4_join cX4_join 3 (some .int) 0 0 0 0 [.int 60, .int a, .int b] ((n, K, I, L, R)) (kQ (some (.int (mop 5 a b))) n K I L R) := by
  refine Zm_of (lg := false) (by decide) (fun _ => by simp [Value.category]) (fun _ => Nat.le_of_ble_eq_true rfl) ?_
  show Zf x4_join 0 0 0 (zargs [.int 60, .int a, .int b]) [] ((n, K, I, L, R)) _
  refine z_iload_n (i := 0) dX4_join_0 rfl rfl ?_
  refine z_lookup (off := 51) 52 dX4_join_1 (by decide) (by decide) (by decide) ?_
  refine z_iload_n (i := 1) dX4_join_52 rfl rfl ?_
  refine z_iload_n (i := 2) dX4_join_53 rfl rfl ?_
  refine z_icmp_ge 61 dX4_join_54 (by decide) (fun c_1 => ?_) (fun c_1 => ?_)
  · skip
    refine z_iconst (v := 0) dX4_join_61 (by decide) ?_
    refine z_iret dX4_join_62 rfl ?_
    exact ⟨by simp [mop, *], rfl⟩
  · skip
    refine z_iconst (v := 1) dX4_join_57 (by decide) ?_
    refine z_goto 62 dX4_join_58 (by decide) ?_
    refine z_iret dX4_join_62 rfl ?_
    exact ⟨by simp [mop, *], rfl⟩
set_option maxHeartbeats 4000000 in
theorem c4_join_6 (n : Nat) (K : Nat → Nat × Nat) (I : Nat → Nat → Int32) (L : Nat → Nat → Int64) (R : Nat → Nat → Option Nat) (a b : Int32) : Zm yX4_join cX4_join 3 (some .int) 0 0 0 0 [.int 61, .int a, .int b] ((n, K, I, L, R)) (kQ (some (.int (mop 6 a b))) n K I L R) := by
  refine Zm_of (lg := false) (by decide) (fun _ => by simp [Value.category]) (fun _ => Nat.le_of_ble_eq_true rfl) ?_
  show Zf x4_join 0 0 0 (zargs [.int 61, .int a, .int b]) [] ((n, K, I, L, R)) _
  refine z_iload_n (i := 0) dX4_join_0 rfl rfl ?_
  refine z_lookup (off := 62) 63 dX4_join_1 (by decide) (by decide) (by decide) ?_
  refine z_iload_n (i := 1) dX4_join_63 rfl rfl ?_
  refine z_iload_n (i := 2) dX4_join_64 rfl rfl ?_
  refine z_icmp_ne 72 dX4_join_65 (by decide) (fun c_1 => ?_) (fun c_1 => ?_)
  · skip
    refine z_iconst (v := 0) dX4_join_72 (by decide) ?_
    refine z_iret dX4_join_73 rfl ?_
    exact ⟨by simp [mop, *], rfl⟩
  · skip
    refine z_iconst (v := 1) dX4_join_68 (by decide) ?_
    refine z_goto 73 dX4_join_69 (by decide) ?_
    refine z_iret dX4_join_73 rfl ?_
    exact ⟨by simp [mop, *], rfl⟩
set_option maxHeartbeats 4000000 in
theorem c4_join_7 (n : Nat) (K : Nat → Nat × Nat) (I : Nat → Nat → Int32) (L : Nat → Nat → Int64) (R : Nat → Nat → Option Nat) (a b : Int32) : Zm yX4_join cX4_join 3 (some .int) 0 0 0 0 [.int 6, .int a, .int b] ((n, K, I, L, R)) (kQ (some (.int (mop 7 a b))) n K I L R) := by
  refine Zm_of (lg := false) (by decide) (fun _ => by simp [Value.category]) (fun _ => Nat.le_of_ble_eq_true rfl) ?_
  show Zf x4_join 0 0 0 (zargs [.int 6, .int a, .int b]) [] ((n, K, I, L, R)) _
  refine z_iload_n (i := 0) dX4_join_0 rfl rfl ?_
  refine z_lookup (off := 73) 74 dX4_join_1 (by decide) (by decide) (by decide) ?_
  refine z_iload_n (i := 1) dX4_join_74 rfl rfl ?_
  refine z_if_eq 86 dX4_join_75 (by decide) (fun c_1 => ?_) (fun c_1 => ?_)
  · skip
    refine z_iconst (v := 0) dX4_join_86 (by decide) ?_
    refine z_iret dX4_join_87 rfl ?_
    exact ⟨by simp [mop, *], rfl⟩
  · skip
    refine z_iload_n (i := 2) dX4_join_78 rfl rfl ?_
    refine z_if_eq 86 dX4_join_79 (by decide) (fun c_2 => ?_) (fun c_2 => ?_)
    · skip
      refine z_iconst (v := 0) dX4_join_86 (by decide) ?_
      refine z_iret dX4_join_87 rfl ?_
      exact ⟨by simp [mop, *], rfl⟩
    · skip
      refine z_iconst (v := 1) dX4_join_82 (by decide) ?_
      refine z_goto 87 dX4_join_83 (by decide) ?_
      refine z_iret dX4_join_87 rfl ?_
      exact ⟨by simp [mop, *], rfl⟩
theorem c4_join (n : Nat) (K : Nat → Nat × Nat) (I : Nat → Nat → Int32) (L : Nat → Nat → Int64) (R : Nat → Nat → Option Nat) (q : Nat) (a b : Int32) (h3 : 3 ≤ q) (h7 : q ≤ 7) : Zm yX4_join cX4_join 3 (some .int) 0 0 0 0 [.int (ksg q), .int a, .int b] (n, K, I, L, R) (kQ (some (.int (mop q a b))) n K I L R) := by
  rcases (show q = 3 ∨ q = 4 ∨ q = 5 ∨ q = 6 ∨ q = 7 by omega) with rfl | rfl | rfl | rfl | rfl
  · exact c4_join_3 n K I L R a b
  · exact c4_join_4 n K I L R a b
  · exact c4_join_5 n K I L R a b
  · exact c4_join_6 n K I L R a b
  · exact c4_join_7 n K I L R a b
theorem ksg_lt : ∀ q, 3 ≤ q → q ≤ 7 → ¬ (20000 + ksg q < 10000) ∧ ¬ (20000 + ksg q < 20000) ∧ 20000 + ksg q - 20000 = ksg q := by
  intro q h3 h7
  rcases (show q = 3 ∨ q = 4 ∨ q = 5 ∨ q = 6 ∨ q = 7 by omega) with rfl | rfl | rfl | rfl | rfl <;> decide
/-- the values that lie on the pile, the last on top -/
def kSt (f : Nat → Int32) (st : List Int32) : Prop := ∀ j, j < st.length → f (st.length - 1 - j) = st.getD j 0
theorem kSt_push {f : Nat → Int32} {st : List Int32} (h : kSt f st) (v : Int32) : kSt (va_up f st.length v) (v :: st) := by
  intro j hj
  simp only [List.length_cons] at hj ⊢
  cases j with
  | zero => rw [show st.length + 1 - 1 - 0 = st.length by omega, va_up_self]; rfl
  | succ j => rw [show st.length + 1 - 1 - (j + 1) = st.length - 1 - j by omega, va_up_ne _ _ (by omega), h j (by omega)]; rfl
theorem kSt_pop {f : Nat → Int32} {v : Int32} {st : List Int32} (h : kSt f (v :: st)) : kSt f st ∧ f st.length = v := by
  constructor
  · intro j hj
    have := h (j + 1) (by simp only [List.length_cons]; omega)
    simp only [List.length_cons] at this
    rw [show st.length + 1 - 1 - (j + 1) = st.length - 1 - j by omega] at this
    rw [this]; rfl
  · have := h 0 (by simp)
    simp only [List.length_cons] at this
    rw [show st.length + 1 - 1 - 0 = st.length by omega] at this
    exact this
