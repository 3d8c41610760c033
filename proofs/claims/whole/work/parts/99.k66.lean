/-! what the start gives: the classes' numbers, the constants, the statics -/
theorem st_i0 : ∀ w ∈ u_ws RX0 TX0 2, w ∈ lw_tbl := by decide +kernel
theorem st_i1 : ∀ w ∈ u_ws RX1 TX1 10, w ∈ lw_tbl := by decide +kernel
theorem st_i2 : ∀ w ∈ u_ws RX2 TX2 5, w ∈ lw_tbl := by decide +kernel
theorem st_i3 : ∀ w ∈ u_ws RX3 TX3 4, w ∈ lw_tbl := by decide +kernel
theorem st_i4 : ∀ w ∈ u_ws RX4 TX4 7, w ∈ lw_tbl := by decide +kernel
theorem st_i5 : ∀ w ∈ u_ws RX5 TX5 2, w ∈ lw_tbl := by decide +kernel
theorem st_i6 : ∀ w ∈ u_ws RX6 TX6 4, w ∈ lw_tbl := by decide +kernel
theorem st_i7 : ∀ w ∈ u_ws RX7 TX7 3, w ∈ lw_tbl := by decide +kernel
theorem st_i8 : ∀ w ∈ u_ws RX8 TX8 16, w ∈ lw_tbl := by decide +kernel
theorem st_i9 : ∀ w ∈ u_ws RX9 TX9 46, w ∈ lw_tbl := by decide +kernel
theorem st_arr {args : Array Value} {s : State} {ty : FieldType} (hty : ∀ C, ty ≠ .object C) (h : (Cond.arrayClass ty).before args s = true) : ∃ cA : ClassId, ArrOfT s cA ty ∧ va_RA s cA ty := by
  obtain ⟨c, k, comp, h1, h2, h3⟩ := Cond.arrayClass_spec h
  refine ⟨c, fun n z => ⟨fun k h => (by cases h), k, h2, comp, h3⟩, ?_⟩
  cases ty with
  | object C => exact absurd rfl (hty C)
  | _ => exact h1
theorem st_arrO {s : State} {C : String} (h : va_AO C s) : ∃ cA : ClassId, ArrOfT s cA (.object C) ∧ va_RA s cA (.object C) := by
  obtain ⟨comp, c, k, h1, h2, h3, h4, h5⟩ := Cond.arrayOver_spec h
  exact ⟨c, fun n z => ⟨fun k h => (by cases h), k, h3, comp, h4⟩, k, comp, h3, h4, h1, h5⟩
theorem st_K {args : Array Value} {s : State} (hts : ∀ w ∈ lw_tbl, w.before args s = true) : ∃ (D : va_G) (tc : Nat → ClassId), va_K D vwCl (zty tc) s := by
  obtain ⟨c0, iS0, hk0⟩ := u_known (C := RX0) (T := TX0) (N := 2) (n := 2) hts st_i0 (hts (.instantiable RX0 2) (by decide +kernel))
  obtain ⟨c1, iS1, hk1⟩ := u_known (C := RX1) (T := TX1) (N := 10) (n := 10) hts st_i1 (hts (.instantiable RX1 10) (by decide +kernel))
  obtain ⟨c2, iS2, hk2⟩ := u_known (C := RX2) (T := TX2) (N := 5) (n := 5) hts st_i2 (hts (.instantiable RX2 5) (by decide +kernel))
  obtain ⟨c3, iS3, hk3⟩ := u_known (C := RX3) (T := TX3) (N := 4) (n := 4) hts st_i3 (hts (.instantiable RX3 4) (by decide +kernel))
  obtain ⟨c4, iS4, hk4⟩ := u_known (C := RX4) (T := TX4) (N := 7) (n := 7) hts st_i4 (hts (.instantiable RX4 7) (by decide +kernel))
  obtain ⟨c5, iS5, hk5⟩ := u_known (C := RX5) (T := TX5) (N := 2) (n := 2) hts st_i5 (hts (.instantiable RX5 2) (by decide +kernel))
  obtain ⟨c6, iS6, hk6⟩ := u_known (C := RX6) (T := TX6) (N := 4) (n := 4) hts st_i6 (hts (.instantiable RX6 4) (by decide +kernel))
  obtain ⟨c7, iS7, hk7⟩ := u_known (C := RX7) (T := TX7) (N := 3) (n := 3) hts st_i7 (hts (.instantiable RX7 3) (by decide +kernel))
  obtain ⟨c8, iS8, hk8⟩ := u_known (C := RX8) (T := TX8) (N := 16) (n := 16) hts st_i8 (hts (.instantiable RX8 16) (by decide +kernel))
  obtain ⟨c9, iS9, hk9⟩ := u_known (C := RX9) (T := TX9) (N := 46) (n := 46) hts st_i9 (hts (.instantiable RX9 46) (by decide +kernel))
  obtain ⟨a0, ha0⟩ := st_arr (ty := .int) (fun C h => by cases h) (hts (.arrayClass .int) (by decide +kernel))
  obtain ⟨a1, ha1⟩ := st_arr (ty := .long) (fun C h => by cases h) (hts (.arrayClass .long) (by decide +kernel))
  obtain ⟨a2, ha2⟩ := st_arr (ty := .char) (fun C h => by cases h) (hts (.arrayClass .char) (by decide +kernel))
  obtain ⟨a3, ha3⟩ := st_arrO (C := RX2) (va_AO.of (hts (.arrayOver (.object RX2)) (by decide +kernel)))
  obtain ⟨a4, ha4⟩ := st_arrO (C := RX1) (va_AO.of (hts (.arrayOver (.object RX1)) (by decide +kernel)))
  refine ⟨(fun k => [c0, c1, c2, c3, c4, c5, c6, c7, c8, c9].getD k c0, fun k => [iS0, iS1, iS2, iS3, iS4, iS5, iS6, iS7, iS8, iS9].getD k iS0), fun k => [a0, a1, a2, a3, a4].getD k a0, fun k q hq => ?_, fun k q hq => ?_⟩
  · match k, hq with
    | 0, hq => cases hq; exact hk0
    | 1, hq => cases hq; exact hk1
    | 2, hq => cases hq; exact hk2
    | 3, hq => cases hq; exact hk3
    | 4, hq => cases hq; exact hk4
    | 5, hq => cases hq; exact hk5
    | 6, hq => cases hq; exact hk6
    | 7, hq => cases hq; exact hk7
    | 8, hq => cases hq; exact hk8
    | 9, hq => cases hq; exact hk9
    | k + 10, hq => simp [vwCl] at hq
  · match k, hq with
    | 0, hq => cases hq; exact ha0
    | 1, hq => cases hq; exact ha1
    | 2, hq => cases hq; exact ha2
    | 3, hq => cases hq; exact ha3
    | 4, hq => cases hq; exact ha4
    | k + 5, hq => simp [zty] at hq
abbrev stF : List Cond := flatC (Jvm.Cond.and given_1 narrow_1)
theorem st_w0 : ∀ j, j < 24 → Cond.eq (.elem (.static RX7 "STANDING_0" "[I") (.int (Int32.ofNat j))) (.int (zS0 j)) ∈ stF := by decide +kernel
theorem st_w1 : ∀ j, j < 24 → Cond.eq (.elem (.static RX7 "STANDING_1" "[I") (.int (Int32.ofNat j))) (.int (zS1 j)) ∈ stF := by decide +kernel
theorem st_w2 : Cond.eq (.length (.static RX7 "STANDING_0" "[I")) (.int (Int32.ofNat 24)) ∈ stF ∧ Cond.eq (.length (.static RX7 "STANDING_1" "[I")) (.int (Int32.ofNat 24)) ∈ stF ∧ Cond.arrayOf (.static RX7 "STANDING_0" "[I") .int ∈ stF ∧ Cond.arrayOf (.static RX7 "STANDING_1" "[I") .int ∈ stF := by decide +kernel
theorem st_w3 : Cond.eq (.static RJ0 "COMPACT_STRINGS" "Z") (.int 1) ∈ stF ∧ Cond.isRef (.static RJ3 "SIOOBE_FORMATTER" "Ljava/util/function/BiFunction;") ∈ stF ∧ Cond.isRef (.static Bundle.tN "UNASSIGNED_STACK" Bundle.steD) ∈ stF ∧ Cond.isRef (.static Bundle.tN "SUPPRESSED_SENTINEL" Bundle.listD) ∈ stF ∧ Cond.exactly (.string RX8 167) "java/lang/String" ∈ stF := by decide +kernel
theorem st_s1 : ∀ i, i < 12 → Cond.exactly (.string RX6 (zSx i).1) "java/lang/String" ∈ stF ∧ Cond.eq (.field (.string RX6 (zSx i).1) "java/lang/String" "coder" "B") (.int 0) ∈ stF ∧ Cond.arrayOf (.field (.string RX6 (zSx i).1) "java/lang/String" "value" "[B") .byte ∈ stF ∧ Cond.eq (.length (.field (.string RX6 (zSx i).1) "java/lang/String" "value" "[B")) (.int (Int32.ofNat (zLen.getD i 0))) ∈ stF := by decide +kernel
theorem st_s2 : ∀ i, i < 12 → ∀ j, j < zLen.getD i 0 → Cond.eq (.elem (.field (.string RX6 (zSx i).1) "java/lang/String" "value" "[B") (.int (Int32.ofNat j))) (.int ((zByt.getD i []).getD j 0)) ∈ stF := by decide +kernel
theorem st_s3 : ∀ i, i < 12 → ∀ j, j < 12 → i ≠ j → (Cond.not (Cond.eq (.string RX6 (zSx i).1) (.string RX6 (zSx j).1)) ∈ stF ∨ Cond.not (Cond.eq (.string RX6 (zSx j).1) (.string RX6 (zSx i).1)) ∈ stF) := by decide +kernel
theorem st_s4 : ∀ i, i < 12 → zLen.getD i 0 < 2 ^ 31 := by decide +kernel
theorem st_s5 : ∀ i, i < 12 → Cond.stringRef RX6 (zSx i).1 (zSx i).2 ∈ lw_tbl := by decide +kernel
theorem st_nest : ∀ q ∈ zNest, Cond.methodLinkNest RX8 q.1 q.2 RX8 ∈ lw_tbl := by decide +kernel
theorem st_G {b : Nat} {s : State} (hts : ∀ w ∈ lw_tbl, w.before #[Value.ref b] s = true) (hgv : (Jvm.Cond.and given_1 narrow_1).before #[Value.ref b] s = true) : ∃ (g2 : Nat → Nat) (sa : Nat), zG (fun a => a, g2) (fun q => s.heap.size ≤ q) s s.heap ∧ vyF sa (fun q => s.heap.size ≤ q) s s.heap := by
  have hs := flat_of_before _ hgv
  have hA : ∀ a : Nat, a < s.heap.size → ¬ (fun q => s.heap.size ≤ q) a := fun a ha => Nat.not_le.mpr ha
  obtain ⟨t0, ht0, hT0⟩ := va_Tof (A := fun q => s.heap.size ≤ q) (tm := .static RX7 "STANDING_0" "[I") (ty := .int) (N := 24) (f := fun j => .int (zS0 j)) (by decide) (hs _ st_w2.2.2.1) (va_eqt (hs _ st_w2.1)) (fun j hj => va_eqt (hs _ (st_w0 j hj))) hA
  obtain ⟨t1, ht1, hT1⟩ := va_Tof (A := fun q => s.heap.size ≤ q) (tm := .static RX7 "STANDING_1" "[I") (ty := .int) (N := 24) (f := fun j => .int (zS1 j)) (by decide) (hs _ st_w2.2.2.2) (va_eqt (hs _ st_w2.2.1)) (fun j hj => va_eqt (hs _ (st_w1 j hj))) hA
  have hZ0 := va_Zof (A := fun q => s.heap.size ≤ q) (hts (.laysStatic RX7 "STANDING_0" "[I") (by decide +kernel)) (hts (.initialized RX7) (by decide +kernel)) ht0 hA
  have hZ1 := va_Zof (A := fun q => s.heap.size ≤ q) (hts (.laysStatic RX7 "STANDING_1" "[I") (by decide +kernel)) (hts (.initialized RX7) (by decide +kernel)) ht1 hA
  have hZc := va_Zof (A := fun q => s.heap.size ≤ q) (hts (.laysStatic RJ0 "COMPACT_STRINGS" "Z") (by decide +kernel)) (hts (.initialized RJ0) (by decide +kernel)) (va_eqt (hs _ st_w3.1)) hA
  have hZf := va_Zqof (A := fun q => s.heap.size ≤ q) (hts (.laysStatic RJ3 "SIOOBE_FORMATTER" "Ljava/util/function/BiFunction;") (by decide +kernel)) (hts (.initialized RJ3) (by decide +kernel)) (hs _ st_w3.2.1) hA
  have hU := vx_Zqof (A := fun q => s.heap.size ≤ q) (hts (.laysStatic Bundle.tN "UNASSIGNED_STACK" Bundle.steD) (by decide +kernel)) (hts (.initialized Bundle.tN) (by decide +kernel)) (hs _ st_w3.2.2.1) hA
  have hN := vx_Zqof (A := fun q => s.heap.size ≤ q) (hts (.laysStatic Bundle.tN "SUPPRESSED_SENTINEL" Bundle.listD) (by decide +kernel)) (hts (.initialized Bundle.tN) (by decide +kernel)) (hs _ st_w3.2.2.2.1) hA
  obtain ⟨sa, -, -, -, hsa, -⟩ := Cond.exactly_spec (args := #[Value.ref b]) (first := s) (o := none) (s := s) (idx := []) (t := .string RX8 167) (cls := "java/lang/String") (hs _ st_w3.2.2.2.2)
  obtain ⟨adK, adV, hS, hev⟩ := vk_Sof (A := fun q => s.heap.size ≤ q) (args := #[Value.ref b]) (s := s) (N := 12) (tm := fun i => .string RX6 (zSx i).1) (len := zLen) (byt := zByt) st_s4 (fun i hi => hs _ (st_s1 i hi).1) (fun i hi => hs _ (st_s1 i hi).2.1) (fun i hi => hs _ (st_s1 i hi).2.2.1) (fun i hi => hs _ (st_s1 i hi).2.2.2) (fun i hi j hj => hs _ (st_s2 i hi j hj)) (fun i j hi hj hij => (st_s3 i hi j hj hij).imp (fun h => hs _ h) (fun h => hs _ h)) hA
  obtain ⟨t2, hZf2⟩ : ∃ t2 : Nat, va_Z RJ3 "SIOOBE_FORMATTER" "Ljava/util/function/BiFunction;" .null (fun q => s.heap.size ≤ q) s s.heap ∨ va_Z RJ3 "SIOOBE_FORMATTER" "Ljava/util/function/BiFunction;" (.ref t2) (fun q => s.heap.size ≤ q) s s.heap := by
    rcases hZf with h | ⟨t, h⟩
    · exact ⟨0, Or.inl h⟩
    · exact ⟨t, Or.inr h⟩
  obtain ⟨g2, e0, e1, e2, e3, e4⟩ : ∃ g2 : Nat → Nat, (∀ i, i < 12 → g2 i = adK i) ∧ (∀ i, i < 12 → g2 (200 + i) = adV i) ∧ g2 100 = t0 ∧ g2 101 = t1 ∧ g2 102 = t2 := by
    refine ⟨fun k => if k < 12 then adK k else if 200 ≤ k then adV (k - 200) else if k = 100 then t0 else if k = 101 then t1 else t2, fun i hi => ?_, fun i hi => ?_, rfl, rfl, rfl⟩
    · show (if i < 12 then _ else _) = _
      rw [if_pos hi]
    · show (if 200 + i < 12 then _ else if 200 ≤ 200 + i then _ else _) = _
      rw [if_neg (by omega), if_pos (by omega), Nat.add_sub_cancel_left]
  refine ⟨g2, sa, ⟨?_, ?_, ?_, ?_, ⟨fun i hi => ?_, fun i j hi hj hij => ?_⟩, fun i hi => ?_, ⟨fun q hq => va_Nw.of rfl (hts _ (st_nest q hq)), va_AO.of (hts (.arrayOver (.object RX2)) (by decide +kernel)), va_AO.of (hts (.arrayOver (.object RX1)) (by decide +kernel))⟩, hZc, ?_⟩, ⟨va_Nw.of rfl (hts (.declares (Bundle.initS "java/lang/RuntimeException")) (by decide +kernel)), va_Nw.of rfl (hts (.declares (Bundle.initS "java/lang/Exception")) (by decide +kernel)), va_Nw.of rfl (hts (.declares (Bundle.initS Bundle.tN)) (by decide +kernel)), va_Nw.of rfl (hts (.castable thX thX) (by decide +kernel))⟩, vk_R.of (hts (.stringRef RX8 167 thT) (by decide +kernel)) hsa, hU, hN⟩
  · show va_Z _ _ _ (.ref (g2 100)) _ _ _
    rw [e2]; exact hZ0
  · show va_T _ (g2 100) _ _ _ _ _
    rw [e2]; exact hT0
  · show va_Z _ _ _ (.ref (g2 101)) _ _ _
    rw [e3]; exact hZ1
  · show va_T _ (g2 101) _ _ _ _ _
    rw [e3]; exact hT1
  · have h9 := hS.1 i hi
    show va_O _ (g2 i) _ _ _ ∧ va_OF _ _ _ _ (g2 i) _ _ _ ∧ va_OF _ _ _ (.ref (g2 (200 + i))) (g2 i) _ _ _ ∧ va_T _ (g2 (200 + i)) _ _ _ _ _
    rw [e0 i hi, e1 i hi]
    exact h9
  · have hij' : g2 i = g2 j := hij
    rw [e0 i hi, e0 j hj] at hij'
    exact hS.2 i j hi hj hij'
  · show vk_R _ _ _ (g2 i) _
    rw [e0 i hi]
    exact vk_R.of (hts _ (st_s5 i hi)) (hev i hi)
  · show va_Z _ _ _ .null _ _ _ ∨ va_Z _ _ _ (.ref (g2 102)) _ _ _
    rw [e4]; exact hZf2
