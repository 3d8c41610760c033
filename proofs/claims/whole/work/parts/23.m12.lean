theorem mga_cong {I J : Nat → Nat → Int32} {s : Int32} (h31 : J 31 = I 31) (h32 : J 32 = I 32) : ∀ {k : Nat}, mga J s k = mga I s k
  | 0 => rfl
  | k + 1 => by unfold mga mth; rw [mga_cong h31 h32 (k := k), h31, h32]
abbrev x9_grass : ZX := (RX9, cX9_grass, 4, (some .int), "grass", 1, 40, false)
set_option maxHeartbeats 4000000 in
theorem c9_grass (I : Nat → Nat → Int32) (L : Nat → Nat → Int64) (P : Nat) (hP : P ≤ 6) (h24 : I 0 24 = nI P) (j r c : Nat) (hj : j < P) (hr : r < 4) (hc : c < 6) : Zm yX9_grass cX9_grass 4 (some .int) 1 40 0 0 [.ref 0, .int (nI j), .int (nI r), .int (nI c)] (mh I L) (mQ (some (.int (I 18 (24 * j + 6 * r + c)))) (zu I 0 0 0) L) := by
  refine Zm_of (lg := false) (by decide) (fun _ => by simp [Value.category]) (fun _ => Nat.le_of_ble_eq_true rfl) ?_
  show Zf x9_grass 0 0 0 (zargs [.ref 0, .int (nI j), .int (nI r), .int (nI c)]) [] (mh I L) _
  generalize hQ0 : (mQ (some (.int (I 18 (24 * j + 6 * r + c)))) (zu I 0 0 0) L : Option Value → ZH → Prop) = Q0
  refine z_aload_n (i := 0) dX9_grass_0 rfl rfl ?_
  refine z_iconst (v := 0) dX9_grass_1 (by decide) ?_
  refine z_putI zf9_137 dX9_grass_2 (fun h => by cases h) (by decide) rfl ?_
  refine z_aload_n (i := 0) dX9_grass_5 rfl rfl ?_
  refine z_iload_n (i := 1) dX9_grass_6 rfl rfl ?_
  refine z_callV (st := []) (mc2 := 0) (ms2 := 0) zi9_242 zv_yX9_isPitch (c9_isPitch _ _ _) dX9_grass_7 (show (0 : Nat) < 35 by decide) rfl rfl rfl rfl (by decide) (by decide) (Nat.le_of_ble_eq_true rfl) (by decide) (by decide) (fun r h2 hq => ?_)
  obtain ⟨rfl, rfl⟩ := hq
  rw [mip1 (x := zu I 0 0 0 0 24) h24 hP hj]
  refine z_if_eq 31 dX9_grass_10 (by decide) (fun c_1 => absurd c_1 (by decide)) (fun _ => ?_)
  refine z_iload_n (i := 2) dX9_grass_13 rfl rfl ?_
  refine z_if_lt 31 dX9_grass_14 (by decide) (fun c_2 => absurd c_2 (nI_pos (by omega))) (fun _ => ?_)
  refine z_iload_n (i := 2) dX9_grass_17 rfl rfl ?_
  refine z_iconst (v := 3) dX9_grass_18 (by decide) ?_
  refine z_icmp_gt 31 dX9_grass_19 (by decide) (fun c_3 => absurd c_3 (show ¬ nI 3 < nI r from fun h => by have := (zlt (by omega) (by omega)).mp h; omega)) (fun _ => ?_)
  refine z_iload_n (i := 3) dX9_grass_22 rfl rfl ?_
  refine z_if_lt 31 dX9_grass_23 (by decide) (fun c_4 => absurd c_4 (nI_pos (by omega))) (fun _ => ?_)
  refine z_iload_n (i := 3) dX9_grass_26 rfl rfl ?_
  refine z_iconst (v := 5) dX9_grass_27 (by decide) ?_
  refine z_icmp_le 35 dX9_grass_28 (by decide) (fun _ => ?_) (fun c_5 => absurd (show nI c ≤ nI 5 from (zle (by omega) (by omega)).mpr (by omega)) c_5)
  refine z_aload_n (i := 0) dX9_grass_35 rfl rfl ?_
  refine z_gR zf9_86.g dX9_grass_36 (by decide) rfl rfl ?_
  refine z_bipush (v := 24) dX9_grass_39 (by decide) ?_
  refine z_iload_n (i := 1) dX9_grass_41 rfl rfl ?_
  refine z_imul dX9_grass_42 ?_
  refine z_bipush (v := 6) dX9_grass_43 (by decide) ?_
  refine z_iload_n (i := 2) dX9_grass_45 rfl rfl ?_
  refine z_imul dX9_grass_46 ?_
  refine z_iadd dX9_grass_47 ?_
  refine z_iload_n (i := 3) dX9_grass_48 rfl rfl ?_
  refine z_iadd dX9_grass_49 ?_
  simp only [zl24, zl6, pk_mul, nI_add]
  refine z_iald dX9_grass_50 (by decide) rfl (zvin (by omega) (by omega)) ?_
  refine z_iret dX9_grass_51 rfl ?_
  subst hQ0
  rw [zcl (by omega)]
  exact ⟨rfl, rfl⟩
set_option maxHeartbeats 4000000 in
theorem c9_grass0 (I : Nat → Nat → Int32) (L : Nat → Nat → Int64) (P : Nat) (hP : P ≤ 6) (h24 : I 0 24 = nI P) (p r c : Int32) (hb : p < 0 ∨ nI P ≤ p ∨ r < 0 ∨ 3 < r ∨ c < 0 ∨ 5 < c) : Zm yX9_grass cX9_grass 4 (some .int) 1 40 0 0 [.ref 0, .int p, .int r, .int c] (mh I L) (mQ (some (.int (-1))) (zu I 0 0 0) L) := by
  refine Zm_of (lg := false) (by decide) (fun _ => by simp [Value.category]) (fun _ => Nat.le_of_ble_eq_true rfl) ?_
  show Zf x9_grass 0 0 0 (zargs [.ref 0, .int p, .int r, .int c]) [] (mh I L) _
  generalize hQ0 : (mQ (some (.int (-1))) (zu I 0 0 0) L : Option Value → ZH → Prop) = Q0
  refine z_aload_n (i := 0) dX9_grass_0 rfl rfl ?_
  refine z_iconst (v := 0) dX9_grass_1 (by decide) ?_
  refine z_putI zf9_137 dX9_grass_2 (fun h => by cases h) (by decide) rfl ?_
  refine z_aload_n (i := 0) dX9_grass_5 rfl rfl ?_
  refine z_iload_n (i := 1) dX9_grass_6 rfl rfl ?_
  refine z_callV (st := []) (mc2 := 0) (ms2 := 0) zi9_242 zv_yX9_isPitch (c9_isPitch _ _ _) dX9_grass_7 (show (0 : Nat) < 35 by decide) rfl rfl rfl rfl (by decide) (by decide) (Nat.le_of_ble_eq_true rfl) (by decide) (by decide) (fun r h2 hq => ?_)
  obtain ⟨rfl, rfl⟩ := hq
  rw [show zu I 0 0 0 0 24 = nI P from h24]
  refine z_if_eq 31 dX9_grass_10 (by decide) (fun c_1 => ?_) (fun c_1 => ?_)
  · skip
    refine z_iconst (v := (-1)) dX9_grass_31 (by decide) ?_
    refine z_goto 51 dX9_grass_32 (by decide) ?_
    refine z_iret dX9_grass_51 rfl ?_
    subst hQ0
    exact ⟨rfl, rfl⟩
  · skip
    refine z_iload_n (i := 2) dX9_grass_13 rfl rfl ?_
    refine z_if_lt 31 dX9_grass_14 (by decide) (fun c_2 => ?_) (fun c_2 => ?_)
    · skip
      refine z_iconst (v := (-1)) dX9_grass_31 (by decide) ?_
      refine z_goto 51 dX9_grass_32 (by decide) ?_
      refine z_iret dX9_grass_51 rfl ?_
      subst hQ0
      exact ⟨rfl, rfl⟩
    · skip
      refine z_iload_n (i := 2) dX9_grass_17 rfl rfl ?_
      refine z_iconst (v := 3) dX9_grass_18 (by decide) ?_
      refine z_icmp_gt 31 dX9_grass_19 (by decide) (fun c_3 => ?_) (fun c_3 => ?_)
      · skip
        refine z_iconst (v := (-1)) dX9_grass_31 (by decide) ?_
        refine z_goto 51 dX9_grass_32 (by decide) ?_
        refine z_iret dX9_grass_51 rfl ?_
        subst hQ0
        exact ⟨rfl, rfl⟩
      · skip
        refine z_iload_n (i := 3) dX9_grass_22 rfl rfl ?_
        refine z_if_lt 31 dX9_grass_23 (by decide) (fun c_4 => ?_) (fun c_4 => ?_)
        · skip
          refine z_iconst (v := (-1)) dX9_grass_31 (by decide) ?_
          refine z_goto 51 dX9_grass_32 (by decide) ?_
          refine z_iret dX9_grass_51 rfl ?_
          subst hQ0
          exact ⟨rfl, rfl⟩
        · skip
          refine z_iload_n (i := 3) dX9_grass_26 rfl rfl ?_
          refine z_iconst (v := 5) dX9_grass_27 (by decide) ?_
          refine z_icmp_le 35 dX9_grass_28 (by decide) (fun c_5 => ?_) (fun c_5 => ?_)
          · skip
            subst hQ0
            exfalso
            have h1 := Int32.not_lt.mpr c_5
            by_cases a1 : p < 0
            · simp_all
            · by_cases a2 : nI P ≤ p
              · simp_all
              · simp_all
          · skip
            refine z_iconst (v := (-1)) dX9_grass_31 (by decide) ?_
            refine z_goto 51 dX9_grass_32 (by decide) ?_
            refine z_iret dX9_grass_51 rfl ?_
            subst hQ0
            exact ⟨rfl, rfl⟩
abbrev x9_at : ZX := (RX9, cX9_at, 4, (some .int), "at", 2, 80, false)
set_option maxHeartbeats 4000000 in
theorem c9_at (I : Nat → Nat → Int32) (L : Nat → Nat → Int64) (P : Nat) (hP : P ≤ 6) (h24 : I 0 24 = nI P) (G : Nat) (hG : G ≤ 60) (h35 : I 0 35 = nI G) (d h j : Nat) (hd : d < 357) (hh : h < 4) (hj : j < P) : Zm yX9_at cX9_at 4 (some .int) 2 80 0 0 [.ref 0, .int (nI d), .int (nI h), .int (nI j)] (mh I L) (mQ (some (.int (mga I (nI (24 * d + 6 * h + j)) G))) (zu I 0 0 0) L) := by
  refine Zm_of (lg := false) (by decide) (fun _ => by simp [Value.category]) (fun _ => Nat.le_of_ble_eq_true rfl) ?_
  show Zf x9_at 0 0 0 (zargs [.ref 0, .int (nI d), .int (nI h), .int (nI j)]) [] (mh I L) _
  generalize hQ0 : (mQ (some (.int (mga I (nI (24 * d + 6 * h + j)) G))) (zu I 0 0 0) L : Option Value → ZH → Prop) = Q0
  refine z_aload_n (i := 0) dX9_at_0 rfl rfl ?_
  refine z_iconst (v := 0) dX9_at_1 (by decide) ?_
  refine z_putI zf9_137 dX9_at_2 (fun h => by cases h) (by decide) rfl ?_
  refine z_iload_n (i := 1) dX9_at_5 rfl rfl ?_
  refine z_if_lt 33 dX9_at_6 (by decide) (fun c_1 => absurd c_1 (nI_pos (by omega))) (fun _ => ?_)
  refine z_iload_n (i := 1) dX9_at_9 rfl rfl ?_
  refine z_sipush (v := 356) dX9_at_10 (by decide) ?_
  refine z_icmp_gt 33 dX9_at_13 (by decide) (fun c_2 => absurd c_2 (show ¬ nI 356 < nI d from fun h => by have := (zlt (by omega) (by omega)).mp h; omega)) (fun _ => ?_)
  refine z_iload_n (i := 2) dX9_at_16 rfl rfl ?_
  refine z_if_lt 33 dX9_at_17 (by decide) (fun c_3 => absurd c_3 (nI_pos (by omega))) (fun _ => ?_)
  refine z_iload_n (i := 2) dX9_at_20 rfl rfl ?_
  refine z_iconst (v := 3) dX9_at_21 (by decide) ?_
  refine z_icmp_gt 33 dX9_at_22 (by decide) (fun c_4 => absurd c_4 (show ¬ nI 3 < nI h from fun q => by have := (zlt (by omega) (by omega)).mp q; omega)) (fun _ => ?_)
  refine z_aload_n (i := 0) dX9_at_25 rfl rfl ?_
  refine z_iload_n (i := 3) dX9_at_26 rfl rfl ?_
  refine z_callV (st := []) (mc2 := 0) (ms2 := 0) zi9_242 zv_yX9_isPitch (c9_isPitch _ _ _) dX9_at_27 (show (0 : Nat) < 35 by decide) rfl rfl rfl rfl (by decide) (by decide) (Nat.le_of_ble_eq_true rfl) (by decide) (by decide) (fun r h2 hq => ?_)
  obtain ⟨rfl, rfl⟩ := hq
  rw [mip1 (x := zu I 0 0 0 0 24) h24 hP hj]
  refine z_if_ne 37 dX9_at_30 (by decide) (fun _ => ?_) (fun c_5 => absurd c_5 (by decide))
  refine z_aload_n (i := 0) dX9_at_37 rfl rfl ?_
  refine z_bipush (v := 24) dX9_at_38 (by decide) ?_
  refine z_iload_n (i := 1) dX9_at_40 rfl rfl ?_
  refine z_imul dX9_at_41 ?_
  refine z_bipush (v := 6) dX9_at_42 (by decide) ?_
  refine z_iload_n (i := 2) dX9_at_44 rfl rfl ?_
  refine z_imul dX9_at_45 ?_
  refine z_iadd dX9_at_46 ?_
  refine z_iload_n (i := 3) dX9_at_47 rfl rfl ?_
  refine z_iadd dX9_at_48 ?_
  simp only [zl24, zl6, pk_mul, nI_add]
  refine z_callV (st := []) (mc2 := 0) (ms2 := 0) zi9_259 zv_yX9_gameAt (c9_gameAt (zu I 0 0 0) L G _ hG h35) dX9_at_49 (show (0 : Nat) < 35 by decide) rfl rfl rfl rfl (by decide) (by decide) (Nat.le_of_ble_eq_true rfl) (by decide) (by decide) (fun r h2 hq => ?_)
  obtain ⟨rfl, rfl⟩ := hq
  refine z_iret dX9_at_52 rfl ?_
  subst hQ0
  exact ⟨by rw [mga_cong (J := zu I 0 0 0) (I := I) rfl rfl], rfl⟩
set_option maxHeartbeats 4000000 in
theorem c9_at0 (I : Nat → Nat → Int32) (L : Nat → Nat → Int64) (P : Nat) (hP : P ≤ 6) (h24 : I 0 24 = nI P) (d h p : Int32) (hb : d < 0 ∨ 356 < d ∨ h < 0 ∨ 3 < h ∨ p < 0 ∨ nI P ≤ p) : Zm yX9_at cX9_at 4 (some .int) 2 80 0 0 [.ref 0, .int d, .int h, .int p] (mh I L) (mQ (some (.int (-1))) (zu I 0 0 0) L) := by
  refine Zm_of (lg := false) (by decide) (fun _ => by simp [Value.category]) (fun _ => Nat.le_of_ble_eq_true rfl) ?_
  show Zf x9_at 0 0 0 (zargs [.ref 0, .int d, .int h, .int p]) [] (mh I L) _
  generalize hQ0 : (mQ (some (.int (-1))) (zu I 0 0 0) L : Option Value → ZH → Prop) = Q0
  refine z_aload_n (i := 0) dX9_at_0 rfl rfl ?_
  refine z_iconst (v := 0) dX9_at_1 (by decide) ?_
  refine z_putI zf9_137 dX9_at_2 (fun h => by cases h) (by decide) rfl ?_
  refine z_iload_n (i := 1) dX9_at_5 rfl rfl ?_
  refine z_if_lt 33 dX9_at_6 (by decide) (fun c_1 => ?_) (fun c_1 => ?_)
  · skip
    refine z_iconst (v := (-1)) dX9_at_33 (by decide) ?_
    refine z_goto 52 dX9_at_34 (by decide) ?_
    refine z_iret dX9_at_52 rfl ?_
    subst hQ0
    exact ⟨rfl, rfl⟩
  · skip
    refine z_iload_n (i := 1) dX9_at_9 rfl rfl ?_
    refine z_sipush (v := 356) dX9_at_10 (by decide) ?_
    refine z_icmp_gt 33 dX9_at_13 (by decide) (fun c_2 => ?_) (fun c_2 => ?_)
    · skip
      refine z_iconst (v := (-1)) dX9_at_33 (by decide) ?_
      refine z_goto 52 dX9_at_34 (by decide) ?_
      refine z_iret dX9_at_52 rfl ?_
      subst hQ0
      exact ⟨rfl, rfl⟩
    · skip
      refine z_iload_n (i := 2) dX9_at_16 rfl rfl ?_
      refine z_if_lt 33 dX9_at_17 (by decide) (fun c_3 => ?_) (fun c_3 => ?_)
      · skip
        refine z_iconst (v := (-1)) dX9_at_33 (by decide) ?_
        refine z_goto 52 dX9_at_34 (by decide) ?_
        refine z_iret dX9_at_52 rfl ?_
        subst hQ0
        exact ⟨rfl, rfl⟩
      · skip
        refine z_iload_n (i := 2) dX9_at_20 rfl rfl ?_
        refine z_iconst (v := 3) dX9_at_21 (by decide) ?_
        refine z_icmp_gt 33 dX9_at_22 (by decide) (fun c_4 => ?_) (fun c_4 => ?_)
        · skip
          refine z_iconst (v := (-1)) dX9_at_33 (by decide) ?_
          refine z_goto 52 dX9_at_34 (by decide) ?_
          refine z_iret dX9_at_52 rfl ?_
          subst hQ0
          exact ⟨rfl, rfl⟩
        · skip
          refine z_aload_n (i := 0) dX9_at_25 rfl rfl ?_
          refine z_iload_n (i := 3) dX9_at_26 rfl rfl ?_
          refine z_callV (st := []) (mc2 := 0) (ms2 := 0) zi9_242 zv_yX9_isPitch (c9_isPitch _ _ _) dX9_at_27 (show (0 : Nat) < 35 by decide) rfl rfl rfl rfl (by decide) (by decide) (Nat.le_of_ble_eq_true rfl) (by decide) (by decide) (fun r h2 hq => ?_)
          obtain ⟨rfl, rfl⟩ := hq
          rw [show zu I 0 0 0 0 24 = nI P from h24]
          refine z_if_ne 37 dX9_at_30 (by decide) (fun c_5 => ?_) (fun c_5 => ?_)
          · skip
            subst hQ0
            exfalso
            by_cases a1 : p < 0
            · simp_all
            · by_cases a2 : nI P ≤ p
              · simp_all
              · simp_all
          · skip
            refine z_iconst (v := (-1)) dX9_at_33 (by decide) ?_
            refine z_goto 52 dX9_at_34 (by decide) ?_
            refine z_iret dX9_at_52 rfl ?_
            subst hQ0
            exact ⟨rfl, rfl⟩
def mlook (I : Nat → Nat → Int32) (j w : Nat) : Int32 := if w = 0 then I 31 j else if w = 4 then I 33 j else if I 32 j < 0 then -1 else if w = 1 then I 32 j / 24 else if w = 2 then I 32 j / 6 - I 32 j / 6 / 4 * 4 else I 32 j - I 32 j / 6 * 6
abbrev x9_look : ZX := (RX9, cX9_look, 3, (some .int), "look", 0, 0, false)
set_option maxHeartbeats 4000000 in
theorem c9_look0 (I : Nat → Nat → Int32) (L : Nat → Nat → Int64) (G : Nat) (hG : G ≤ 60) (h35 : I 0 35 = nI G) (j : Nat) (hj : j < G) : Zm yX9_look cX9_look 3 (some .int) 0 0 0 0 [.ref 0, .int (nI j), .int 0] (mh I L) (mQ (some (.int (mlook I j 0))) (zu I 0 0 0) L) := by
  refine Zm_of (lg := false) (by decide) (fun _ => by simp [Value.category]) (fun _ => Nat.le_of_ble_eq_true rfl) ?_
  show Zf x9_look 0 0 0 (zargs [.ref 0, .int (nI j), .int 0]) [] (mh I L) _
  generalize hQ0 : (mQ (some (.int (mlook I j 0))) (zu I 0 0 0) L : Option Value → ZH → Prop) = Q0
  refine z_aload_n (i := 0) dX9_look_0 rfl rfl ?_
  refine z_iload_n (i := 1) dX9_look_1 rfl rfl ?_
  refine z_if_lt 26 dX9_look_2 (by decide) (fun c_1 => absurd c_1 (nI_pos (by omega))) (fun _ => ?_)
  refine z_iload_n (i := 1) dX9_look_5 rfl rfl ?_
  refine z_aload_n (i := 0) dX9_look_6 rfl rfl ?_
  refine z_gI zf9_253.g dX9_look_7 (by decide) rfl ?_
  rw [h35]
  refine z_icmp_ge 26 dX9_look_10 (by decide) (fun c_2 => absurd c_2 (fun h => by have := (zle (by omega) (by omega)).mp h; omega)) (fun _ => ?_)
  refine z_iload_n (i := 2) dX9_look_13 rfl rfl ?_
  refine z_if_lt 26 dX9_look_14 (by decide) (fun c_3 => absurd c_3 (by decide)) (fun _ => ?_)
  refine z_iload_n (i := 2) dX9_look_17 rfl rfl ?_
  refine z_iconst (v := 4) dX9_look_18 (by decide) ?_
  refine z_icmp_gt 26 dX9_look_19 (by decide) (fun c_4 => absurd c_4 (by decide)) (fun _ => ?_)
  refine z_iconst (v := 0) dX9_look_22 (by decide) ?_
  refine z_goto 27 dX9_look_23 (by decide) ?_
  refine z_putI zf9_137 dX9_look_27 (fun h => by cases h) (by decide) rfl ?_
  refine z_hp (h2 := mh (zu I 0 0 0) L) rfl ?_
  refine z_aload_n (i := 0) dX9_look_30 rfl rfl ?_
  refine z_gI zf9_137.g dX9_look_31 (by decide) rfl ?_
  refine z_if_le 39 dX9_look_34 (by decide) (fun _ => ?_) (fun c_5 => absurd (show (0 : Int32) ≤ 0 by decide) c_5)
  refine z_iload_n (i := 2) dX9_look_39 rfl rfl ?_
  refine z_if_ne 50 dX9_look_40 (by decide) (fun c_6 => absurd c_6 (by decide)) (fun _ => ?_)
  refine z_aload_n (i := 0) dX9_look_43 rfl rfl ?_
  refine z_gR zf9_125.g dX9_look_44 (by decide) rfl rfl ?_
  refine z_iload_n (i := 1) dX9_look_47 rfl rfl ?_
  refine z_iald dX9_look_48 (by decide) rfl (zvin (by omega) (by omega)) ?_
  rw [zcl (by omega)]
  refine z_iret dX9_look_49 rfl ?_
  subst hQ0
  refine ⟨?_, rfl⟩
  unfold mlook
  first | rfl | (rw [if_neg (by decide), if_neg (by decide), if_neg (show ¬ I 32 j < 0 from Int32.not_lt.mpr )]; rfl) | (rw [if_neg (by decide), if_neg (by decide), if_pos (show I 32 j < 0 from Int32.not_le.mp )])
set_option maxHeartbeats 4000000 in
theorem c9_look1 (I : Nat → Nat → Int32) (L : Nat → Nat → Int64) (G : Nat) (hG : G ≤ 60) (h35 : I 0 35 = nI G) (j : Nat) (hj : j < G) : Zm yX9_look cX9_look 3 (some .int) 0 0 0 0 [.ref 0, .int (nI j), .int 1] (mh I L) (mQ (some (.int (mlook I j 1))) (zu I 0 0 0) L) := by
  refine Zm_of (lg := false) (by decide) (fun _ => by simp [Value.category]) (fun _ => Nat.le_of_ble_eq_true rfl) ?_
  show Zf x9_look 0 0 0 (zargs [.ref 0, .int (nI j), .int 1]) [] (mh I L) _
  generalize hQ0 : (mQ (some (.int (mlook I j 1))) (zu I 0 0 0) L : Option Value → ZH → Prop) = Q0
  refine z_aload_n (i := 0) dX9_look_0 rfl rfl ?_
  refine z_iload_n (i := 1) dX9_look_1 rfl rfl ?_
  refine z_if_lt 26 dX9_look_2 (by decide) (fun c_1 => absurd c_1 (nI_pos (by omega))) (fun _ => ?_)
  refine z_iload_n (i := 1) dX9_look_5 rfl rfl ?_
  refine z_aload_n (i := 0) dX9_look_6 rfl rfl ?_
  refine z_gI zf9_253.g dX9_look_7 (by decide) rfl ?_
  rw [h35]
  refine z_icmp_ge 26 dX9_look_10 (by decide) (fun c_2 => absurd c_2 (fun h => by have := (zle (by omega) (by omega)).mp h; omega)) (fun _ => ?_)
  refine z_iload_n (i := 2) dX9_look_13 rfl rfl ?_
  refine z_if_lt 26 dX9_look_14 (by decide) (fun c_3 => absurd c_3 (by decide)) (fun _ => ?_)
  refine z_iload_n (i := 2) dX9_look_17 rfl rfl ?_
  refine z_iconst (v := 4) dX9_look_18 (by decide) ?_
  refine z_icmp_gt 26 dX9_look_19 (by decide) (fun c_4 => absurd c_4 (by decide)) (fun _ => ?_)
  refine z_iconst (v := 0) dX9_look_22 (by decide) ?_
  refine z_goto 27 dX9_look_23 (by decide) ?_
  refine z_putI zf9_137 dX9_look_27 (fun h => by cases h) (by decide) rfl ?_
  refine z_hp (h2 := mh (zu I 0 0 0) L) rfl ?_
  refine z_aload_n (i := 0) dX9_look_30 rfl rfl ?_
  refine z_gI zf9_137.g dX9_look_31 (by decide) rfl ?_
  refine z_if_le 39 dX9_look_34 (by decide) (fun _ => ?_) (fun c_5 => absurd (show (0 : Int32) ≤ 0 by decide) c_5)
  refine z_iload_n (i := 2) dX9_look_39 rfl rfl ?_
  refine z_if_ne 50 dX9_look_40 (by decide) (fun _ => ?_) (fun c_6 => absurd c_6 (by decide))
  refine z_iload_n (i := 2) dX9_look_50 rfl rfl ?_
  refine z_iconst (v := 4) dX9_look_51 (by decide) ?_
  refine z_icmp_ne 62 dX9_look_52 (by decide) (fun _ => ?_) (fun c_7 => absurd c_7 (by decide))
  refine z_aload_n (i := 0) dX9_look_62 rfl rfl ?_
  refine z_gR zf9_128.g dX9_look_63 (by decide) rfl rfl ?_
  refine z_iload_n (i := 1) dX9_look_66 rfl rfl ?_
  refine z_iald dX9_look_67 (by decide) rfl (zvin (by omega) (by omega)) ?_
  rw [zcl (by omega)]
  refine z_if_ge 75 dX9_look_68 (by decide) (fun c_8 => ?_) (fun c_8 => ?_)
  · skip
    refine z_iload_n (i := 2) dX9_look_75 rfl rfl ?_
    refine z_iconst (v := 1) dX9_look_76 (by decide) ?_
    refine z_icmp_ne 92 dX9_look_77 (by decide) (fun c_9 => absurd c_9 (by decide)) (fun _ => ?_)
    refine z_aload_n (i := 0) dX9_look_80 rfl rfl ?_
    refine z_gR zf9_128.g dX9_look_81 (by decide) rfl rfl ?_
    refine z_iload_n (i := 1) dX9_look_84 rfl rfl ?_
    refine z_iald dX9_look_85 (by decide) rfl (zvin (by omega) (by omega)) ?_
    rw [zcl (by omega)]
    refine z_bipush (v := 24) dX9_look_86 (by decide) ?_
    refine z_idiv dX9_look_88 (by decide) ?_
    refine z_goto 120 dX9_look_89 (by decide) ?_
    refine z_iret dX9_look_120 rfl ?_
    subst hQ0
    refine ⟨?_, rfl⟩
    unfold mlook
    first | rfl | (rw [if_neg (by decide), if_neg (by decide), if_neg (show ¬ I 32 j < 0 from Int32.not_lt.mpr c_8)]; rfl) | (rw [if_neg (by decide), if_neg (by decide), if_pos (show I 32 j < 0 from Int32.not_le.mp c_8)])
  · skip
    refine z_iconst (v := (-1)) dX9_look_71 (by decide) ?_
    refine z_goto 120 dX9_look_72 (by decide) ?_
    refine z_iret dX9_look_120 rfl ?_
    subst hQ0
    refine ⟨?_, rfl⟩
    unfold mlook
    first | rfl | (rw [if_neg (by decide), if_neg (by decide), if_neg (show ¬ I 32 j < 0 from Int32.not_lt.mpr c_8)]; rfl) | (rw [if_neg (by decide), if_neg (by decide), if_pos (show I 32 j < 0 from Int32.not_le.mp c_8)])
set_option maxHeartbeats 4000000 in
theorem c9_look2 (I : Nat → Nat → Int32) (L : Nat → Nat → Int64) (G : Nat) (hG : G ≤ 60) (h35 : I 0 35 = nI G) (j : Nat) (hj : j < G) : Zm yX9_look cX9_look 3 (some .int) 0 0 0 0 [.ref 0, .int (nI j), .int 2] (mh I L) (mQ (some (.int (mlook I j 2))) (zu I 0 0 0) L) := by
  refine Zm_of (lg := false) (by decide) (fun _ => by simp [Value.category]) (fun _ => Nat.le_of_ble_eq_true rfl) ?_
  show Zf x9_look 0 0 0 (zargs [.ref 0, .int (nI j), .int 2]) [] (mh I L) _
  generalize hQ0 : (mQ (some (.int (mlook I j 2))) (zu I 0 0 0) L : Option Value → ZH → Prop) = Q0
  refine z_aload_n (i := 0) dX9_look_0 rfl rfl ?_
  refine z_iload_n (i := 1) dX9_look_1 rfl rfl ?_
  refine z_if_lt 26 dX9_look_2 (by decide) (fun c_1 => absurd c_1 (nI_pos (by omega))) (fun _ => ?_)
  refine z_iload_n (i := 1) dX9_look_5 rfl rfl ?_
  refine z_aload_n (i := 0) dX9_look_6 rfl rfl ?_
  refine z_gI zf9_253.g dX9_look_7 (by decide) rfl ?_
  rw [h35]
  refine z_icmp_ge 26 dX9_look_10 (by decide) (fun c_2 => absurd c_2 (fun h => by have := (zle (by omega) (by omega)).mp h; omega)) (fun _ => ?_)
  refine z_iload_n (i := 2) dX9_look_13 rfl rfl ?_
  refine z_if_lt 26 dX9_look_14 (by decide) (fun c_3 => absurd c_3 (by decide)) (fun _ => ?_)
  refine z_iload_n (i := 2) dX9_look_17 rfl rfl ?_
  refine z_iconst (v := 4) dX9_look_18 (by decide) ?_
  refine z_icmp_gt 26 dX9_look_19 (by decide) (fun c_4 => absurd c_4 (by decide)) (fun _ => ?_)
  refine z_iconst (v := 0) dX9_look_22 (by decide) ?_
  refine z_goto 27 dX9_look_23 (by decide) ?_
  refine z_putI zf9_137 dX9_look_27 (fun h => by cases h) (by decide) rfl ?_
  refine z_hp (h2 := mh (zu I 0 0 0) L) rfl ?_
  refine z_aload_n (i := 0) dX9_look_30 rfl rfl ?_
  refine z_gI zf9_137.g dX9_look_31 (by decide) rfl ?_
  refine z_if_le 39 dX9_look_34 (by decide) (fun _ => ?_) (fun c_5 => absurd (show (0 : Int32) ≤ 0 by decide) c_5)
  refine z_iload_n (i := 2) dX9_look_39 rfl rfl ?_
  refine z_if_ne 50 dX9_look_40 (by decide) (fun _ => ?_) (fun c_6 => absurd c_6 (by decide))
  refine z_iload_n (i := 2) dX9_look_50 rfl rfl ?_
  refine z_iconst (v := 4) dX9_look_51 (by decide) ?_
  refine z_icmp_ne 62 dX9_look_52 (by decide) (fun _ => ?_) (fun c_7 => absurd c_7 (by decide))
  refine z_aload_n (i := 0) dX9_look_62 rfl rfl ?_
  refine z_gR zf9_128.g dX9_look_63 (by decide) rfl rfl ?_
  refine z_iload_n (i := 1) dX9_look_66 rfl rfl ?_
  refine z_iald dX9_look_67 (by decide) rfl (zvin (by omega) (by omega)) ?_
  rw [zcl (by omega)]
  refine z_if_ge 75 dX9_look_68 (by decide) (fun c_8 => ?_) (fun c_8 => ?_)
  · skip
    refine z_iload_n (i := 2) dX9_look_75 rfl rfl ?_
    refine z_iconst (v := 1) dX9_look_76 (by decide) ?_
    refine z_icmp_ne 92 dX9_look_77 (by decide) (fun _ => ?_) (fun c_9 => absurd c_9 (by decide))
    refine z_iload_n (i := 2) dX9_look_92 rfl rfl ?_
    refine z_iconst (v := 2) dX9_look_93 (by decide) ?_
    refine z_icmp_ne 111 dX9_look_94 (by decide) (fun c_10 => absurd c_10 (by decide)) (fun _ => ?_)
    refine z_aload_n (i := 0) dX9_look_97 rfl rfl ?_
    refine z_gR zf9_128.g dX9_look_98 (by decide) rfl rfl ?_
    refine z_iload_n (i := 1) dX9_look_101 rfl rfl ?_
    refine z_iald dX9_look_102 (by decide) rfl (zvin (by omega) (by omega)) ?_
    rw [zcl (by omega)]
    refine z_bipush (v := 6) dX9_look_103 (by decide) ?_
    refine z_idiv dX9_look_105 (by decide) ?_
    refine z_iconst (v := 4) dX9_look_106 (by decide) ?_
    refine z_irem dX9_look_107 (by decide) ?_
    refine z_goto 120 dX9_look_108 (by decide) ?_
    refine z_iret dX9_look_120 rfl ?_
    subst hQ0
    refine ⟨?_, rfl⟩
    unfold mlook
    first | rfl | (rw [if_neg (by decide), if_neg (by decide), if_neg (show ¬ I 32 j < 0 from Int32.not_lt.mpr c_8)]; rfl) | (rw [if_neg (by decide), if_neg (by decide), if_pos (show I 32 j < 0 from Int32.not_le.mp c_8)])
  · skip
    refine z_iconst (v := (-1)) dX9_look_71 (by decide) ?_
    refine z_goto 120 dX9_look_72 (by decide) ?_
    refine z_iret dX9_look_120 rfl ?_
    subst hQ0
    refine ⟨?_, rfl⟩
    unfold mlook
    first | rfl | (rw [if_neg (by decide), if_neg (by decide), if_neg (show ¬ I 32 j < 0 from Int32.not_lt.mpr c_8)]; rfl) | (rw [if_neg (by decide), if_neg (by decide), if_pos (show I 32 j < 0 from Int32.not_le.mp c_8)])
set_option maxHeartbeats 4000000 in
theorem c9_look3 (I : Nat → Nat → Int32) (L : Nat → Nat → Int64) (G : Nat) (hG : G ≤ 60) (h35 : I 0 35 = nI G) (j : Nat) (hj : j < G) : Zm yX9_look cX9_look 3 (some .int) 0 0 0 0 [.ref 0, .int (nI j), .int 3] (mh I L) (mQ (some (.int (mlook I j 3))) (zu I 0 0 0) L) := by
  refine Zm_of (lg := false) (by decide) (fun _ => by simp [Value.category]) (fun _ => Nat.le_of_ble_eq_true rfl) ?_
  show Zf x9_look 0 0 0 (zargs [.ref 0, .int (nI j), .int 3]) [] (mh I L) _
  generalize hQ0 : (mQ (some (.int (mlook I j 3))) (zu I 0 0 0) L : Option Value → ZH → Prop) = Q0
  refine z_aload_n (i := 0) dX9_look_0 rfl rfl ?_
  refine z_iload_n (i := 1) dX9_look_1 rfl rfl ?_
  refine z_if_lt 26 dX9_look_2 (by decide) (fun c_1 => absurd c_1 (nI_pos (by omega))) (fun _ => ?_)
  refine z_iload_n (i := 1) dX9_look_5 rfl rfl ?_
  refine z_aload_n (i := 0) dX9_look_6 rfl rfl ?_
  refine z_gI zf9_253.g dX9_look_7 (by decide) rfl ?_
  rw [h35]
  refine z_icmp_ge 26 dX9_look_10 (by decide) (fun c_2 => absurd c_2 (fun h => by have := (zle (by omega) (by omega)).mp h; omega)) (fun _ => ?_)
  refine z_iload_n (i := 2) dX9_look_13 rfl rfl ?_
  refine z_if_lt 26 dX9_look_14 (by decide) (fun c_3 => absurd c_3 (by decide)) (fun _ => ?_)
  refine z_iload_n (i := 2) dX9_look_17 rfl rfl ?_
  refine z_iconst (v := 4) dX9_look_18 (by decide) ?_
  refine z_icmp_gt 26 dX9_look_19 (by decide) (fun c_4 => absurd c_4 (by decide)) (fun _ => ?_)
  refine z_iconst (v := 0) dX9_look_22 (by decide) ?_
  refine z_goto 27 dX9_look_23 (by decide) ?_
  refine z_putI zf9_137 dX9_look_27 (fun h => by cases h) (by decide) rfl ?_
  refine z_hp (h2 := mh (zu I 0 0 0) L) rfl ?_
  refine z_aload_n (i := 0) dX9_look_30 rfl rfl ?_
  refine z_gI zf9_137.g dX9_look_31 (by decide) rfl ?_
  refine z_if_le 39 dX9_look_34 (by decide) (fun _ => ?_) (fun c_5 => absurd (show (0 : Int32) ≤ 0 by decide) c_5)
  refine z_iload_n (i := 2) dX9_look_39 rfl rfl ?_
  refine z_if_ne 50 dX9_look_40 (by decide) (fun _ => ?_) (fun c_6 => absurd c_6 (by decide))
  refine z_iload_n (i := 2) dX9_look_50 rfl rfl ?_
  refine z_iconst (v := 4) dX9_look_51 (by decide) ?_
  refine z_icmp_ne 62 dX9_look_52 (by decide) (fun _ => ?_) (fun c_7 => absurd c_7 (by decide))
  refine z_aload_n (i := 0) dX9_look_62 rfl rfl ?_
  refine z_gR zf9_128.g dX9_look_63 (by decide) rfl rfl ?_
  refine z_iload_n (i := 1) dX9_look_66 rfl rfl ?_
  refine z_iald dX9_look_67 (by decide) rfl (zvin (by omega) (by omega)) ?_
  rw [zcl (by omega)]
  refine z_if_ge 75 dX9_look_68 (by decide) (fun c_8 => ?_) (fun c_8 => ?_)
  · skip
    refine z_iload_n (i := 2) dX9_look_75 rfl rfl ?_
    refine z_iconst (v := 1) dX9_look_76 (by decide) ?_
    refine z_icmp_ne 92 dX9_look_77 (by decide) (fun _ => ?_) (fun c_9 => absurd c_9 (by decide))
    refine z_iload_n (i := 2) dX9_look_92 rfl rfl ?_
    refine z_iconst (v := 2) dX9_look_93 (by decide) ?_
    refine z_icmp_ne 111 dX9_look_94 (by decide) (fun _ => ?_) (fun c_10 => absurd c_10 (by decide))
    refine z_aload_n (i := 0) dX9_look_111 rfl rfl ?_
    refine z_gR zf9_128.g dX9_look_112 (by decide) rfl rfl ?_
    refine z_iload_n (i := 1) dX9_look_115 rfl rfl ?_
    refine z_iald dX9_look_116 (by decide) rfl (zvin (by omega) (by omega)) ?_
    rw [zcl (by omega)]
    refine z_bipush (v := 6) dX9_look_117 (by decide) ?_
    refine z_irem dX9_look_119 (by decide) ?_
    refine z_iret dX9_look_120 rfl ?_
    subst hQ0
    refine ⟨?_, rfl⟩
    unfold mlook
    first | rfl | (rw [if_neg (by decide), if_neg (by decide), if_neg (show ¬ I 32 j < 0 from Int32.not_lt.mpr c_8)]; rfl) | (rw [if_neg (by decide), if_neg (by decide), if_pos (show I 32 j < 0 from Int32.not_le.mp c_8)])
  · skip
    refine z_iconst (v := (-1)) dX9_look_71 (by decide) ?_
    refine z_goto 120 dX9_look_72 (by decide) ?_
    refine z_iret dX9_look_120 rfl ?_
    subst hQ0
    refine ⟨?_, rfl⟩
    unfold mlook
    first | rfl | (rw [if_neg (by decide), if_neg (by decide), if_neg (show ¬ I 32 j < 0 from Int32.not_lt.mpr c_8)]; rfl) | (rw [if_neg (by decide), if_neg (by decide), if_pos (show I 32 j < 0 from Int32.not_le.mp c_8)])
set_option maxHeartbeats 4000000 in
theorem c9_look4 (I : Nat → Nat → Int32) (L : Nat → Nat → Int64) (G : Nat) (hG : G ≤ 60) (h35 : I 0 35 = nI G) (j : Nat) (hj : j < G) : Zm yX9_look cX9_look 3 (some .int) 0 0 0 0 [.ref 0, .int (nI j), .int 4] (mh I L) (mQ (some (.int (mlook I j 4))) (zu I 0 0 0) L) := by
  refine Zm_of (lg := false) (by decide) (fun _ => by simp [Value.category]) (fun _ => Nat.le_of_ble_eq_true rfl) ?_
  show Zf x9_look 0 0 0 (zargs [.ref 0, .int (nI j), .int 4]) [] (mh I L) _
  generalize hQ0 : (mQ (some (.int (mlook I j 4))) (zu I 0 0 0) L : Option Value → ZH → Prop) = Q0
  refine z_aload_n (i := 0) dX9_look_0 rfl rfl ?_
  refine z_iload_n (i := 1) dX9_look_1 rfl rfl ?_
  refine z_if_lt 26 dX9_look_2 (by decide) (fun c_1 => absurd c_1 (nI_pos (by omega))) (fun _ => ?_)
  refine z_iload_n (i := 1) dX9_look_5 rfl rfl ?_
  refine z_aload_n (i := 0) dX9_look_6 rfl rfl ?_
  refine z_gI zf9_253.g dX9_look_7 (by decide) rfl ?_
  rw [h35]
  refine z_icmp_ge 26 dX9_look_10 (by decide) (fun c_2 => absurd c_2 (fun h => by have := (zle (by omega) (by omega)).mp h; omega)) (fun _ => ?_)
  refine z_iload_n (i := 2) dX9_look_13 rfl rfl ?_
  refine z_if_lt 26 dX9_look_14 (by decide) (fun c_3 => absurd c_3 (by decide)) (fun _ => ?_)
  refine z_iload_n (i := 2) dX9_look_17 rfl rfl ?_
  refine z_iconst (v := 4) dX9_look_18 (by decide) ?_
  refine z_icmp_gt 26 dX9_look_19 (by decide) (fun c_4 => absurd c_4 (by decide)) (fun _ => ?_)
  refine z_iconst (v := 0) dX9_look_22 (by decide) ?_
  refine z_goto 27 dX9_look_23 (by decide) ?_
  refine z_putI zf9_137 dX9_look_27 (fun h => by cases h) (by decide) rfl ?_
  refine z_hp (h2 := mh (zu I 0 0 0) L) rfl ?_
  refine z_aload_n (i := 0) dX9_look_30 rfl rfl ?_
  refine z_gI zf9_137.g dX9_look_31 (by decide) rfl ?_
  refine z_if_le 39 dX9_look_34 (by decide) (fun _ => ?_) (fun c_5 => absurd (show (0 : Int32) ≤ 0 by decide) c_5)
  refine z_iload_n (i := 2) dX9_look_39 rfl rfl ?_
  refine z_if_ne 50 dX9_look_40 (by decide) (fun _ => ?_) (fun c_6 => absurd c_6 (by decide))
  refine z_iload_n (i := 2) dX9_look_50 rfl rfl ?_
  refine z_iconst (v := 4) dX9_look_51 (by decide) ?_
  refine z_icmp_ne 62 dX9_look_52 (by decide) (fun c_7 => absurd c_7 (by decide)) (fun _ => ?_)
  refine z_aload_n (i := 0) dX9_look_55 rfl rfl ?_
  refine z_gR zf9_131.g dX9_look_56 (by decide) rfl rfl ?_
  refine z_iload_n (i := 1) dX9_look_59 rfl rfl ?_
  refine z_iald dX9_look_60 (by decide) rfl (zvin (by omega) (by omega)) ?_
  rw [zcl (by omega)]
  refine z_iret dX9_look_61 rfl ?_
  subst hQ0
  refine ⟨?_, rfl⟩
  unfold mlook
  first | rfl | (rw [if_neg (by decide), if_neg (by decide), if_neg (show ¬ I 32 j < 0 from Int32.not_lt.mpr )]; rfl) | (rw [if_neg (by decide), if_neg (by decide), if_pos (show I 32 j < 0 from Int32.not_le.mp )])
set_option maxHeartbeats 4000000 in
theorem c9_lookB (I : Nat → Nat → Int32) (L : Nat → Nat → Int64) (G : Nat) (hG : G ≤ 60) (h35 : I 0 35 = nI G) (g w : Int32) (hb : g < 0 ∨ nI G ≤ g ∨ w < 0 ∨ 4 < w) : Zm yX9_look cX9_look 3 (some .int) 0 0 0 0 [.ref 0, .int g, .int w] (mh I L) (mQ (some (.int 0)) (zu I 0 0 1) L) := by
  refine Zm_of (lg := false) (by decide) (fun _ => by simp [Value.category]) (fun _ => Nat.le_of_ble_eq_true rfl) ?_
  show Zf x9_look 0 0 0 (zargs [.ref 0, .int g, .int w]) [] (mh I L) _
  generalize hQ0 : (mQ (some (.int 0)) (zu I 0 0 1) L : Option Value → ZH → Prop) = Q0
  refine z_aload_n (i := 0) dX9_look_0 rfl rfl ?_
  refine z_iload_n (i := 1) dX9_look_1 rfl rfl ?_
  refine z_if_lt 26 dX9_look_2 (by decide) (fun c_1 => ?_) (fun c_1 => ?_)
  · skip
    refine z_iconst (v := 1) dX9_look_26 (by decide) ?_
    refine z_putI zf9_137 dX9_look_27 (fun h => by cases h) (by decide) rfl ?_
    refine z_aload_n (i := 0) dX9_look_30 rfl rfl ?_
    refine z_gI zf9_137.g dX9_look_31 (by decide) rfl ?_
    refine z_if_le 39 dX9_look_34 (by decide) (fun c_2 => absurd c_2 (show ¬ (1 : Int32) ≤ 0 by decide)) (fun _ => ?_)
    refine z_iconst (v := 0) dX9_look_37 (by decide) ?_
    refine z_iret dX9_look_38 rfl ?_
    subst hQ0
    exact ⟨rfl, rfl⟩
  · skip
    refine z_iload_n (i := 1) dX9_look_5 rfl rfl ?_
    refine z_aload_n (i := 0) dX9_look_6 rfl rfl ?_
    refine z_gI zf9_253.g dX9_look_7 (by decide) rfl ?_
    rw [h35]
    refine z_icmp_ge 26 dX9_look_10 (by decide) (fun c_3 => ?_) (fun c_3 => ?_)
    · skip
      refine z_iconst (v := 1) dX9_look_26 (by decide) ?_
      refine z_putI zf9_137 dX9_look_27 (fun h => by cases h) (by decide) rfl ?_
      refine z_aload_n (i := 0) dX9_look_30 rfl rfl ?_
      refine z_gI zf9_137.g dX9_look_31 (by decide) rfl ?_
      refine z_if_le 39 dX9_look_34 (by decide) (fun c_4 => absurd c_4 (show ¬ (1 : Int32) ≤ 0 by decide)) (fun _ => ?_)
      refine z_iconst (v := 0) dX9_look_37 (by decide) ?_
      refine z_iret dX9_look_38 rfl ?_
      subst hQ0
      exact ⟨rfl, rfl⟩
    · skip
      refine z_iload_n (i := 2) dX9_look_13 rfl rfl ?_
      refine z_if_lt 26 dX9_look_14 (by decide) (fun c_5 => ?_) (fun c_5 => ?_)
      · skip
        refine z_iconst (v := 1) dX9_look_26 (by decide) ?_
        refine z_putI zf9_137 dX9_look_27 (fun h => by cases h) (by decide) rfl ?_
        refine z_aload_n (i := 0) dX9_look_30 rfl rfl ?_
        refine z_gI zf9_137.g dX9_look_31 (by decide) rfl ?_
        refine z_if_le 39 dX9_look_34 (by decide) (fun c_6 => absurd c_6 (show ¬ (1 : Int32) ≤ 0 by decide)) (fun _ => ?_)
        refine z_iconst (v := 0) dX9_look_37 (by decide) ?_
        refine z_iret dX9_look_38 rfl ?_
        subst hQ0
        exact ⟨rfl, rfl⟩
      · skip
        refine z_iload_n (i := 2) dX9_look_17 rfl rfl ?_
        refine z_iconst (v := 4) dX9_look_18 (by decide) ?_
        refine z_icmp_gt 26 dX9_look_19 (by decide) (fun c_7 => ?_) (fun c_7 => ?_)
        · skip
          refine z_iconst (v := 1) dX9_look_26 (by decide) ?_
          refine z_putI zf9_137 dX9_look_27 (fun h => by cases h) (by decide) rfl ?_
          refine z_aload_n (i := 0) dX9_look_30 rfl rfl ?_
          refine z_gI zf9_137.g dX9_look_31 (by decide) rfl ?_
          refine z_if_le 39 dX9_look_34 (by decide) (fun c_8 => absurd c_8 (show ¬ (1 : Int32) ≤ 0 by decide)) (fun _ => ?_)
          refine z_iconst (v := 0) dX9_look_37 (by decide) ?_
          refine z_iret dX9_look_38 rfl ?_
          subst hQ0
          exact ⟨rfl, rfl⟩
        · skip
          subst hQ0
          exfalso
          simp_all
def mfl (I : Nat → Nat → Int32) (P m : Nat) : Nat → Nat → Int32 := fun a j => if (a = 18 ∨ a = 19) ∧ 24 * P ≤ j ∧ j < 24 * P + m then 800 else I a j
theorem mfl_0 (I : Nat → Nat → Int32) (P : Nat) : mfl I P 0 = I := by
  funext a j
  unfold mfl
  rw [if_neg (by omega)]
theorem mfl_ne (I : Nat → Nat → Int32) (P m : Nat) {a : Nat} (h : a ≠ 18) (h2 : a ≠ 19) : mfl I P m a = I a := by
  funext j
  unfold mfl
  rw [if_neg (by omega)]
theorem mfl_s (I : Nat → Nat → Int32) (P m : Nat) : zu (zu (mfl I P m) 18 (24 * P + m) 800) 19 (24 * P + m) 800 = mfl I P (m + 1) := by
  funext a j
  rw [zu_apply, zu_apply]
  unfold mfl
  by_cases h : (a = 18 ∨ a = 19) ∧ 24 * P ≤ j ∧ j < 24 * P + (m + 1)
  · rw [if_pos h]
    by_cases h2 : a = 19 ∧ j = 24 * P + m
    · rw [if_pos h2]
    · rw [if_neg h2]
      by_cases h3 : a = 18 ∧ j = 24 * P + m
      · rw [if_pos h3]
      · rw [if_neg h3, if_pos (by omega)]
  · rw [if_neg h, if_neg (by omega), if_neg (by omega), if_neg (by omega)]
abbrev mpB (I : Nat → Nat → Int32) (age st : Int32) : Prop := age < 0 ∨ 2 < age ∨ st < 0 ∨ 1 < st ∨ I 0 24 = 6 ∨ 0 < I 0 34
def mpit (I : Nat → Nat → Int32) (P : Nat) (age st : Int32) : Nat → Nat → Int32 := zu (mfl (zu (zu (zu I 0 0 0) 16 P age) 17 P st) P 24) 0 24 (nI (P + 1))
abbrev x9_pitch : ZX := (RX9, cX9_pitch, 4, (some .int), "pitch", 0, 0, false)
set_option maxHeartbeats 4000000 in
theorem l9_pitch {I : Nat → Nat → Int32} {L : Nat → Nat → Int64} {Q : Option Value → ZH → Prop} {P : Nat} (hP : P < 6) (h24 : I 0 24 = nI P) (hQ : Q (some (.int (nI P))) (mh (zu (mfl I P 24) 0 24 (nI (P + 1))) L)) : ∀ (m j : Nat), 24 - j < m → j ≤ 24 → ∀ (J : Nat → Nat → Int32) (ls : Nat → Option Value), J = mfl I P j → ls 0 = some (.ref 0) → ls 3 = some (.int (nI (24 * P + j))) → Zf x9_pitch 0 0 69 ls [] (mh J L) Q := by
  intro m
  induction m with
  | zero => intro j h; omega
  | succ m ih =>
  intro j hm hj J ls hJ hl0 hl3
  subst hJ
  have e24 : mfl I P j 0 24 = nI P := (congrFun (mfl_ne I P j (by decide) (by decide)) 24).trans h24
  refine z_iload_n (i := 3) dX9_pitch_69 rfl hl3 ?_
  refine z_bipush (v := 24) dX9_pitch_70 (by decide) ?_
  refine z_aload_n (i := 0) dX9_pitch_72 rfl hl0 ?_
  refine z_gI zf9_236.g dX9_pitch_73 (by decide) rfl ?_
  rw [e24]
  refine z_imul dX9_pitch_76 ?_
  refine z_bipush (v := 24) dX9_pitch_77 (by decide) ?_
  refine z_iadd dX9_pitch_79 ?_
  simp only [zl24, pk_mul, nI_add]
  refine z_icmp_ge 107 dX9_pitch_80 (by decide) (fun c_1 => ?_) (fun c_1 => ?_)
  · skip
    have h1 := (zle (by omega) (by omega)).mp c_1
    have h2 : j = 24 := by omega
    subst h2
    refine z_aload_n (i := 0) dX9_pitch_107 rfl hl0 ?_
    refine z_dup dX9_pitch_108 rfl ?_
    refine z_gI zf9_236.g dX9_pitch_109 (by decide) rfl ?_
    rw [e24]
    refine z_iconst (v := 1) dX9_pitch_112 (by decide) ?_
    refine z_iadd dX9_pitch_113 ?_
    refine z_top (y := .int (nI (P + 1))) (by rw [zl1, nI_add]) ?_
    refine z_putI zf9_236 dX9_pitch_114 (fun h => by cases h) (by decide) rfl ?_
    refine z_aload_n (i := 0) dX9_pitch_117 rfl hl0 ?_
    refine z_gI zf9_236.g dX9_pitch_118 (by decide) rfl ?_
    refine z_iconst (v := 1) dX9_pitch_121 (by decide) ?_
    refine z_isub dX9_pitch_122 ?_
    refine z_top (y := .int (nI P)) (by show Value.int (nI (P + 1) - 1) = _; rw [zsub1]) ?_
    refine z_iret dX9_pitch_123 rfl ?_
    exact hQ
  · skip
    have h1 : ¬ 24 * P + 24 ≤ 24 * P + j := fun q => c_1 ((zle (by omega) (by omega)).mpr q)
    refine z_aload_n (i := 0) dX9_pitch_83 rfl hl0 ?_
    refine z_gR zf9_86.g dX9_pitch_84 (by decide) rfl rfl ?_
    refine z_iload_n (i := 3) dX9_pitch_87 rfl hl3 ?_
    refine z_sipush (v := 800) dX9_pitch_88 (by decide) ?_
    refine z_iast dX9_pitch_91 (by decide) rfl (zvin (by omega) (by omega)) ?_
    refine z_aload_n (i := 0) dX9_pitch_92 rfl hl0 ?_
    refine z_gR zf9_89.g dX9_pitch_93 (by decide) rfl rfl ?_
    refine z_iload_n (i := 3) dX9_pitch_96 rfl hl3 ?_
    refine z_sipush (v := 800) dX9_pitch_97 (by decide) ?_
    refine z_iast dX9_pitch_100 (by decide) rfl (zvin (by omega) (by omega)) ?_
    refine z_iinc dX9_pitch_101 hl3 rfl ?_
    refine z_goto 69 dX9_pitch_104 (by decide) ?_
    rw [zinc]
    simp only [zcl (show 24 * P + j ≤ 100000 by omega)]
    exact ih (j + 1) (by omega) (by omega) _ _ (mfl_s I P j) hl0 rfl
set_option maxHeartbeats 4000000 in
theorem c9_pitch (I : Nat → Nat → Int32) (L : Nat → Nat → Int64) (P : Nat) (age st : Int32) (hP : P ≤ 6) (h24 : I 0 24 = nI P) : Zm yX9_pitch cX9_pitch 4 (some .int) 0 0 0 0 [.ref 0, .int age, .int st] (mh I L) (mQ (some (.int (if mpB I age st then -1 else nI P))) (if mpB I age st then zu I 0 0 0 else mpit I P age st) L) := by
  refine Zm_of (lg := false) (by decide) (fun _ => by simp [Value.category]) (fun _ => Nat.le_of_ble_eq_true rfl) ?_
  show Zf x9_pitch 0 0 0 (zargs [.ref 0, .int age, .int st]) [] (mh I L) _
  generalize hQ0 : (mQ (some (.int (if mpB I age st then -1 else nI P))) (if mpB I age st then zu I 0 0 0 else mpit I P age st) L : Option Value → ZH → Prop) = Q0
  refine z_aload_n (i := 0) dX9_pitch_0 rfl rfl ?_
  refine z_iconst (v := 0) dX9_pitch_1 (by decide) ?_
  refine z_putI zf9_137 dX9_pitch_2 (fun h => by cases h) (by decide) rfl ?_
  refine z_iload_n (i := 1) dX9_pitch_5 rfl rfl ?_
  refine z_if_lt 39 dX9_pitch_6 (by decide) (fun c_1 => ?_) (fun c_1 => ?_)
  · skip
    refine z_iconst (v := (-1)) dX9_pitch_39 (by decide) ?_
    refine z_iret dX9_pitch_40 rfl ?_
    subst hQ0
    have hb : mpB I age st := by simp_all [mpB, zu_apply]
    rw [if_pos hb, if_pos hb]
    exact ⟨rfl, rfl⟩
  · skip
    refine z_iload_n (i := 1) dX9_pitch_9 rfl rfl ?_
    refine z_iconst (v := 2) dX9_pitch_10 (by decide) ?_
    refine z_icmp_gt 39 dX9_pitch_11 (by decide) (fun c_2 => ?_) (fun c_2 => ?_)
    · skip
      refine z_iconst (v := (-1)) dX9_pitch_39 (by decide) ?_
      refine z_iret dX9_pitch_40 rfl ?_
      subst hQ0
      have hb : mpB I age st := by simp_all [mpB, zu_apply]
      rw [if_pos hb, if_pos hb]
      exact ⟨rfl, rfl⟩
    · skip
      refine z_iload_n (i := 2) dX9_pitch_14 rfl rfl ?_
      refine z_if_lt 39 dX9_pitch_15 (by decide) (fun c_3 => ?_) (fun c_3 => ?_)
      · skip
        refine z_iconst (v := (-1)) dX9_pitch_39 (by decide) ?_
        refine z_iret dX9_pitch_40 rfl ?_
        subst hQ0
        have hb : mpB I age st := by simp_all [mpB, zu_apply]
        rw [if_pos hb, if_pos hb]
        exact ⟨rfl, rfl⟩
      · skip
        refine z_iload_n (i := 2) dX9_pitch_18 rfl rfl ?_
        refine z_iconst (v := 1) dX9_pitch_19 (by decide) ?_
        refine z_icmp_gt 39 dX9_pitch_20 (by decide) (fun c_4 => ?_) (fun c_4 => ?_)
        · skip
          refine z_iconst (v := (-1)) dX9_pitch_39 (by decide) ?_
          refine z_iret dX9_pitch_40 rfl ?_
          subst hQ0
          have hb : mpB I age st := by simp_all [mpB, zu_apply]
          rw [if_pos hb, if_pos hb]
          exact ⟨rfl, rfl⟩
        · skip
          refine z_aload_n (i := 0) dX9_pitch_23 rfl rfl ?_
          refine z_gI zf9_236.g dX9_pitch_24 (by decide) rfl ?_
          refine z_bipush (v := 6) dX9_pitch_27 (by decide) ?_
          refine z_icmp_eq 39 dX9_pitch_29 (by decide) (fun c_5 => ?_) (fun c_5 => ?_)
          · skip
            refine z_iconst (v := (-1)) dX9_pitch_39 (by decide) ?_
            refine z_iret dX9_pitch_40 rfl ?_
            subst hQ0
            have hb : mpB I age st := by simp_all [mpB, zu_apply]
            rw [if_pos hb, if_pos hb]
            exact ⟨rfl, rfl⟩
          · skip
            refine z_aload_n (i := 0) dX9_pitch_32 rfl rfl ?_
            refine z_gI zf9_239.g dX9_pitch_33 (by decide) rfl ?_
            refine z_if_le 41 dX9_pitch_36 (by decide) (fun c_6 => ?_) (fun c_6 => ?_)
            · skip
              have hP6 : P < 6 := by
                have q : ¬ nI P = nI 6 := fun e => c_5 (h24.trans e)
                rw [zeq (by omega) (by omega)] at q
                omega
              refine z_aload_n (i := 0) dX9_pitch_41 rfl rfl ?_
              refine z_gR zf9_80.g dX9_pitch_42 (by decide) rfl rfl ?_
              refine z_aload_n (i := 0) dX9_pitch_45 rfl rfl ?_
              refine z_gI zf9_236.g dX9_pitch_46 (by decide) rfl ?_
              rw [show zu I 0 0 0 0 24 = nI P from h24]
              refine z_iload_n (i := 1) dX9_pitch_49 rfl rfl ?_
              refine z_iast dX9_pitch_50 (by decide) rfl (zvin (by omega) (by omega)) ?_
              refine z_aload_n (i := 0) dX9_pitch_51 rfl rfl ?_
              refine z_gR zf9_83.g dX9_pitch_52 (by decide) rfl rfl ?_
              refine z_aload_n (i := 0) dX9_pitch_55 rfl rfl ?_
              refine z_gI zf9_236.g dX9_pitch_56 (by decide) rfl ?_
              rw [show zu (zu I 0 0 0) 16 (nI P).toNatClampNeg age 0 24 = nI P from h24]
              refine z_iload_n (i := 2) dX9_pitch_59 rfl rfl ?_
              refine z_iast dX9_pitch_60 (by decide) rfl (zvin (by omega) (by omega)) ?_
              refine z_bipush (v := 24) dX9_pitch_61 (by decide) ?_
              refine z_aload_n (i := 0) dX9_pitch_63 rfl rfl ?_
              refine z_gI zf9_236.g dX9_pitch_64 (by decide) rfl ?_
              rw [show zu (zu (zu I 0 0 0) 16 (nI P).toNatClampNeg age) 17 (nI P).toNatClampNeg st 0 24 = nI P from h24]
              refine z_imul dX9_pitch_67 ?_
              simp only [zl24, pk_mul]
              refine z_istore_n (i := 3) dX9_pitch_68 rfl (by decide) rfl ?_
              subst hQ0
              have hb : ¬ mpB I age st := by simp_all [mpB, zu_apply]
              rw [if_neg hb, if_neg hb]
              simp only [zcl (show P ≤ 100000 by omega)]
              exact l9_pitch (I := zu (zu (zu I 0 0 0) 16 P age) 17 P st) hP6 h24 ⟨rfl, rfl⟩ 25 0 (by omega) (by omega) _ _ (mfl_0 _ _).symm rfl rfl
            · skip
              refine z_iconst (v := (-1)) dX9_pitch_39 (by decide) ?_
              refine z_iret dX9_pitch_40 rfl ?_
              subst hQ0
              have hb : mpB I age st := by simp_all [mpB, zu_apply]
              rw [if_pos hb, if_pos hb]
              exact ⟨rfl, rfl⟩
abbrev mgB (I : Nat → Nat → Int32) (a b age rk wk ws : Int32) : Prop := a < 0 ∨ 15 < a ∨ b < 0 ∨ 15 < b ∨ a = b ∨ age < 0 ∨ 2 < age ∨ rk < 0 ∨ 9 < rk ∨ ¬ mgone I wk = 0 ∨ ws ≤ 0 ∨ 268435456 ≤ ws ∨ I 0 35 = 60
def mgame (I : Nat → Nat → Int32) (G : Nat) (a b age rk wk ws : Int32) : Nat → Nat → Int32 := zu (zu (zu (zu (zu (zu (zu (zu (zu (zu I 0 0 0) 25 G a) 26 G b) 27 G age) 28 G rk) 29 G wk) 30 G ws) 31 G 0) 32 G (-1)) 0 35 (nI (G + 1))
abbrev x9_game : ZX := (RX9, cX9_game, 7, (some .int), "game", 1, 40, false)
set_option maxHeartbeats 4000000 in
theorem c9_game (I : Nat → Nat → Int32) (L : Nat → Nat → Int64) (G : Nat) (a b age rk wk ws : Int32) (hG : G ≤ 60) (h35 : I 0 35 = nI G) : Zm yX9_game cX9_game 7 (some .int) 1 40 0 0 [.ref 0, .int a, .int b, .int age, .int rk, .int wk, .int ws] (mh I L) (mQ (some (.int (if mgB I a b age rk wk ws then -1 else nI G))) (if mgB I a b age rk wk ws then zu I 0 0 0 else mgame I G a b age rk wk ws) L) := by
  refine Zm_of (lg := false) (by decide) (fun _ => by simp [Value.category]) (fun _ => Nat.le_of_ble_eq_true rfl) ?_
  show Zf x9_game 0 0 0 (zargs [.ref 0, .int a, .int b, .int age, .int rk, .int wk, .int ws]) [] (mh I L) _
  generalize hQ0 : (mQ (some (.int (if mgB I a b age rk wk ws then -1 else nI G))) (if mgB I a b age rk wk ws then zu I 0 0 0 else mgame I G a b age rk wk ws) L : Option Value → ZH → Prop) = Q0
  refine z_aload_n (i := 0) dX9_game_0 rfl rfl ?_
  refine z_iconst (v := 0) dX9_game_1 (by decide) ?_
  refine z_putI zf9_137 dX9_game_2 (fun h => by cases h) (by decide) rfl ?_
  refine z_iload_n (i := 1) dX9_game_5 rfl rfl ?_
  refine z_if_lt 81 dX9_game_6 (by decide) (fun c_1 => ?_) (fun c_1 => ?_)
  · skip
    refine z_iconst (v := (-1)) dX9_game_81 (by decide) ?_
    refine z_iret dX9_game_82 rfl ?_
    subst hQ0
    have hb : mgB I a b age rk wk ws := by first | exact Or.inl c_1 | exact Or.inr (Or.inl c_1) | exact Or.inr (Or.inr (Or.inl c_1)) | exact Or.inr (Or.inr (Or.inr (Or.inl c_1))) | exact Or.inr (Or.inr (Or.inr (Or.inr (Or.inl c_1)))) | exact Or.inr (Or.inr (Or.inr (Or.inr (Or.inr (Or.inl c_1))))) | exact Or.inr (Or.inr (Or.inr (Or.inr (Or.inr (Or.inr (Or.inl c_1)))))) | exact Or.inr (Or.inr (Or.inr (Or.inr (Or.inr (Or.inr (Or.inr (Or.inl c_1))))))) | exact Or.inr (Or.inr (Or.inr (Or.inr (Or.inr (Or.inr (Or.inr (Or.inr (Or.inl c_1)))))))) | exact Or.inr (Or.inr (Or.inr (Or.inr (Or.inr (Or.inr (Or.inr (Or.inr (Or.inr (Or.inl c_1))))))))) | exact Or.inr (Or.inr (Or.inr (Or.inr (Or.inr (Or.inr (Or.inr (Or.inr (Or.inr (Or.inr (Or.inl c_1)))))))))) | exact Or.inr (Or.inr (Or.inr (Or.inr (Or.inr (Or.inr (Or.inr (Or.inr (Or.inr (Or.inr (Or.inr (Or.inl c_1))))))))))) | exact Or.inr (Or.inr (Or.inr (Or.inr (Or.inr (Or.inr (Or.inr (Or.inr (Or.inr (Or.inr (Or.inr (Or.inr c_1)))))))))))
    rw [if_pos hb, if_pos hb]
    exact ⟨rfl, rfl⟩
  · skip
    refine z_iload_n (i := 1) dX9_game_9 rfl rfl ?_
    refine z_bipush (v := 15) dX9_game_10 (by decide) ?_
    refine z_icmp_gt 81 dX9_game_12 (by decide) (fun c_2 => ?_) (fun c_2 => ?_)
    · skip
      refine z_iconst (v := (-1)) dX9_game_81 (by decide) ?_
      refine z_iret dX9_game_82 rfl ?_
      subst hQ0
      have hb : mgB I a b age rk wk ws := by first | exact Or.inl c_2 | exact Or.inr (Or.inl c_2) | exact Or.inr (Or.inr (Or.inl c_2)) | exact Or.inr (Or.inr (Or.inr (Or.inl c_2))) | exact Or.inr (Or.inr (Or.inr (Or.inr (Or.inl c_2)))) | exact Or.inr (Or.inr (Or.inr (Or.inr (Or.inr (Or.inl c_2))))) | exact Or.inr (Or.inr (Or.inr (Or.inr (Or.inr (Or.inr (Or.inl c_2)))))) | exact Or.inr (Or.inr (Or.inr (Or.inr (Or.inr (Or.inr (Or.inr (Or.inl c_2))))))) | exact Or.inr (Or.inr (Or.inr (Or.inr (Or.inr (Or.inr (Or.inr (Or.inr (Or.inl c_2)))))))) | exact Or.inr (Or.inr (Or.inr (Or.inr (Or.inr (Or.inr (Or.inr (Or.inr (Or.inr (Or.inl c_2))))))))) | exact Or.inr (Or.inr (Or.inr (Or.inr (Or.inr (Or.inr (Or.inr (Or.inr (Or.inr (Or.inr (Or.inl c_2)))))))))) | exact Or.inr (Or.inr (Or.inr (Or.inr (Or.inr (Or.inr (Or.inr (Or.inr (Or.inr (Or.inr (Or.inr (Or.inl c_2))))))))))) | exact Or.inr (Or.inr (Or.inr (Or.inr (Or.inr (Or.inr (Or.inr (Or.inr (Or.inr (Or.inr (Or.inr (Or.inr c_2)))))))))))
      rw [if_pos hb, if_pos hb]
      exact ⟨rfl, rfl⟩
    · skip
      refine z_iload_n (i := 2) dX9_game_15 rfl rfl ?_
      refine z_if_lt 81 dX9_game_16 (by decide) (fun c_3 => ?_) (fun c_3 => ?_)
      · skip
        refine z_iconst (v := (-1)) dX9_game_81 (by decide) ?_
        refine z_iret dX9_game_82 rfl ?_
        subst hQ0
        have hb : mgB I a b age rk wk ws := by first | exact Or.inl c_3 | exact Or.inr (Or.inl c_3) | exact Or.inr (Or.inr (Or.inl c_3)) | exact Or.inr (Or.inr (Or.inr (Or.inl c_3))) | exact Or.inr (Or.inr (Or.inr (Or.inr (Or.inl c_3)))) | exact Or.inr (Or.inr (Or.inr (Or.inr (Or.inr (Or.inl c_3))))) | exact Or.inr (Or.inr (Or.inr (Or.inr (Or.inr (Or.inr (Or.inl c_3)))))) | exact Or.inr (Or.inr (Or.inr (Or.inr (Or.inr (Or.inr (Or.inr (Or.inl c_3))))))) | exact Or.inr (Or.inr (Or.inr (Or.inr (Or.inr (Or.inr (Or.inr (Or.inr (Or.inl c_3)))))))) | exact Or.inr (Or.inr (Or.inr (Or.inr (Or.inr (Or.inr (Or.inr (Or.inr (Or.inr (Or.inl c_3))))))))) | exact Or.inr (Or.inr (Or.inr (Or.inr (Or.inr (Or.inr (Or.inr (Or.inr (Or.inr (Or.inr (Or.inl c_3)))))))))) | exact Or.inr (Or.inr (Or.inr (Or.inr (Or.inr (Or.inr (Or.inr (Or.inr (Or.inr (Or.inr (Or.inr (Or.inl c_3))))))))))) | exact Or.inr (Or.inr (Or.inr (Or.inr (Or.inr (Or.inr (Or.inr (Or.inr (Or.inr (Or.inr (Or.inr (Or.inr c_3)))))))))))
        rw [if_pos hb, if_pos hb]
        exact ⟨rfl, rfl⟩
      · skip
        refine z_iload_n (i := 2) dX9_game_19 rfl rfl ?_
        refine z_bipush (v := 15) dX9_game_20 (by decide) ?_
        refine z_icmp_gt 81 dX9_game_22 (by decide) (fun c_4 => ?_) (fun c_4 => ?_)
        · skip
          refine z_iconst (v := (-1)) dX9_game_81 (by decide) ?_
          refine z_iret dX9_game_82 rfl ?_
          subst hQ0
          have hb : mgB I a b age rk wk ws := by first | exact Or.inl c_4 | exact Or.inr (Or.inl c_4) | exact Or.inr (Or.inr (Or.inl c_4)) | exact Or.inr (Or.inr (Or.inr (Or.inl c_4))) | exact Or.inr (Or.inr (Or.inr (Or.inr (Or.inl c_4)))) | exact Or.inr (Or.inr (Or.inr (Or.inr (Or.inr (Or.inl c_4))))) | exact Or.inr (Or.inr (Or.inr (Or.inr (Or.inr (Or.inr (Or.inl c_4)))))) | exact Or.inr (Or.inr (Or.inr (Or.inr (Or.inr (Or.inr (Or.inr (Or.inl c_4))))))) | exact Or.inr (Or.inr (Or.inr (Or.inr (Or.inr (Or.inr (Or.inr (Or.inr (Or.inl c_4)))))))) | exact Or.inr (Or.inr (Or.inr (Or.inr (Or.inr (Or.inr (Or.inr (Or.inr (Or.inr (Or.inl c_4))))))))) | exact Or.inr (Or.inr (Or.inr (Or.inr (Or.inr (Or.inr (Or.inr (Or.inr (Or.inr (Or.inr (Or.inl c_4)))))))))) | exact Or.inr (Or.inr (Or.inr (Or.inr (Or.inr (Or.inr (Or.inr (Or.inr (Or.inr (Or.inr (Or.inr (Or.inl c_4))))))))))) | exact Or.inr (Or.inr (Or.inr (Or.inr (Or.inr (Or.inr (Or.inr (Or.inr (Or.inr (Or.inr (Or.inr (Or.inr c_4)))))))))))
          rw [if_pos hb, if_pos hb]
          exact ⟨rfl, rfl⟩
        · skip
          refine z_iload_n (i := 1) dX9_game_25 rfl rfl ?_
          refine z_iload_n (i := 2) dX9_game_26 rfl rfl ?_
          refine z_icmp_eq 81 dX9_game_27 (by decide) (fun c_5 => ?_) (fun c_5 => ?_)
          · skip
            refine z_iconst (v := (-1)) dX9_game_81 (by decide) ?_
            refine z_iret dX9_game_82 rfl ?_
            subst hQ0
            have hb : mgB I a b age rk wk ws := by first | exact Or.inl c_5 | exact Or.inr (Or.inl c_5) | exact Or.inr (Or.inr (Or.inl c_5)) | exact Or.inr (Or.inr (Or.inr (Or.inl c_5))) | exact Or.inr (Or.inr (Or.inr (Or.inr (Or.inl c_5)))) | exact Or.inr (Or.inr (Or.inr (Or.inr (Or.inr (Or.inl c_5))))) | exact Or.inr (Or.inr (Or.inr (Or.inr (Or.inr (Or.inr (Or.inl c_5)))))) | exact Or.inr (Or.inr (Or.inr (Or.inr (Or.inr (Or.inr (Or.inr (Or.inl c_5))))))) | exact Or.inr (Or.inr (Or.inr (Or.inr (Or.inr (Or.inr (Or.inr (Or.inr (Or.inl c_5)))))))) | exact Or.inr (Or.inr (Or.inr (Or.inr (Or.inr (Or.inr (Or.inr (Or.inr (Or.inr (Or.inl c_5))))))))) | exact Or.inr (Or.inr (Or.inr (Or.inr (Or.inr (Or.inr (Or.inr (Or.inr (Or.inr (Or.inr (Or.inl c_5)))))))))) | exact Or.inr (Or.inr (Or.inr (Or.inr (Or.inr (Or.inr (Or.inr (Or.inr (Or.inr (Or.inr (Or.inr (Or.inl c_5))))))))))) | exact Or.inr (Or.inr (Or.inr (Or.inr (Or.inr (Or.inr (Or.inr (Or.inr (Or.inr (Or.inr (Or.inr (Or.inr c_5)))))))))))
            rw [if_pos hb, if_pos hb]
            exact ⟨rfl, rfl⟩
          · skip
            refine z_iload_n (i := 3) dX9_game_30 rfl rfl ?_
            refine z_if_lt 81 dX9_game_31 (by decide) (fun c_6 => ?_) (fun c_6 => ?_)
            · skip
              refine z_iconst (v := (-1)) dX9_game_81 (by decide) ?_
              refine z_iret dX9_game_82 rfl ?_
              subst hQ0
              have hb : mgB I a b age rk wk ws := by first | exact Or.inl c_6 | exact Or.inr (Or.inl c_6) | exact Or.inr (Or.inr (Or.inl c_6)) | exact Or.inr (Or.inr (Or.inr (Or.inl c_6))) | exact Or.inr (Or.inr (Or.inr (Or.inr (Or.inl c_6)))) | exact Or.inr (Or.inr (Or.inr (Or.inr (Or.inr (Or.inl c_6))))) | exact Or.inr (Or.inr (Or.inr (Or.inr (Or.inr (Or.inr (Or.inl c_6)))))) | exact Or.inr (Or.inr (Or.inr (Or.inr (Or.inr (Or.inr (Or.inr (Or.inl c_6))))))) | exact Or.inr (Or.inr (Or.inr (Or.inr (Or.inr (Or.inr (Or.inr (Or.inr (Or.inl c_6)))))))) | exact Or.inr (Or.inr (Or.inr (Or.inr (Or.inr (Or.inr (Or.inr (Or.inr (Or.inr (Or.inl c_6))))))))) | exact Or.inr (Or.inr (Or.inr (Or.inr (Or.inr (Or.inr (Or.inr (Or.inr (Or.inr (Or.inr (Or.inl c_6)))))))))) | exact Or.inr (Or.inr (Or.inr (Or.inr (Or.inr (Or.inr (Or.inr (Or.inr (Or.inr (Or.inr (Or.inr (Or.inl c_6))))))))))) | exact Or.inr (Or.inr (Or.inr (Or.inr (Or.inr (Or.inr (Or.inr (Or.inr (Or.inr (Or.inr (Or.inr (Or.inr c_6)))))))))))
              rw [if_pos hb, if_pos hb]
              exact ⟨rfl, rfl⟩
            · skip
              refine z_iload_n (i := 3) dX9_game_34 rfl rfl ?_
              refine z_iconst (v := 2) dX9_game_35 (by decide) ?_
              refine z_icmp_gt 81 dX9_game_36 (by decide) (fun c_7 => ?_) (fun c_7 => ?_)
              · skip
                refine z_iconst (v := (-1)) dX9_game_81 (by decide) ?_
                refine z_iret dX9_game_82 rfl ?_
                subst hQ0
                have hb : mgB I a b age rk wk ws := by first | exact Or.inl c_7 | exact Or.inr (Or.inl c_7) | exact Or.inr (Or.inr (Or.inl c_7)) | exact Or.inr (Or.inr (Or.inr (Or.inl c_7))) | exact Or.inr (Or.inr (Or.inr (Or.inr (Or.inl c_7)))) | exact Or.inr (Or.inr (Or.inr (Or.inr (Or.inr (Or.inl c_7))))) | exact Or.inr (Or.inr (Or.inr (Or.inr (Or.inr (Or.inr (Or.inl c_7)))))) | exact Or.inr (Or.inr (Or.inr (Or.inr (Or.inr (Or.inr (Or.inr (Or.inl c_7))))))) | exact Or.inr (Or.inr (Or.inr (Or.inr (Or.inr (Or.inr (Or.inr (Or.inr (Or.inl c_7)))))))) | exact Or.inr (Or.inr (Or.inr (Or.inr (Or.inr (Or.inr (Or.inr (Or.inr (Or.inr (Or.inl c_7))))))))) | exact Or.inr (Or.inr (Or.inr (Or.inr (Or.inr (Or.inr (Or.inr (Or.inr (Or.inr (Or.inr (Or.inl c_7)))))))))) | exact Or.inr (Or.inr (Or.inr (Or.inr (Or.inr (Or.inr (Or.inr (Or.inr (Or.inr (Or.inr (Or.inr (Or.inl c_7))))))))))) | exact Or.inr (Or.inr (Or.inr (Or.inr (Or.inr (Or.inr (Or.inr (Or.inr (Or.inr (Or.inr (Or.inr (Or.inr c_7)))))))))))
                rw [if_pos hb, if_pos hb]
                exact ⟨rfl, rfl⟩
              · skip
                refine z_iload dX9_game_39 rfl ?_
                refine z_if_lt 81 dX9_game_41 (by decide) (fun c_8 => ?_) (fun c_8 => ?_)
                · skip
                  refine z_iconst (v := (-1)) dX9_game_81 (by decide) ?_
                  refine z_iret dX9_game_82 rfl ?_
                  subst hQ0
                  have hb : mgB I a b age rk wk ws := by first | exact Or.inl c_8 | exact Or.inr (Or.inl c_8) | exact Or.inr (Or.inr (Or.inl c_8)) | exact Or.inr (Or.inr (Or.inr (Or.inl c_8))) | exact Or.inr (Or.inr (Or.inr (Or.inr (Or.inl c_8)))) | exact Or.inr (Or.inr (Or.inr (Or.inr (Or.inr (Or.inl c_8))))) | exact Or.inr (Or.inr (Or.inr (Or.inr (Or.inr (Or.inr (Or.inl c_8)))))) | exact Or.inr (Or.inr (Or.inr (Or.inr (Or.inr (Or.inr (Or.inr (Or.inl c_8))))))) | exact Or.inr (Or.inr (Or.inr (Or.inr (Or.inr (Or.inr (Or.inr (Or.inr (Or.inl c_8)))))))) | exact Or.inr (Or.inr (Or.inr (Or.inr (Or.inr (Or.inr (Or.inr (Or.inr (Or.inr (Or.inl c_8))))))))) | exact Or.inr (Or.inr (Or.inr (Or.inr (Or.inr (Or.inr (Or.inr (Or.inr (Or.inr (Or.inr (Or.inl c_8)))))))))) | exact Or.inr (Or.inr (Or.inr (Or.inr (Or.inr (Or.inr (Or.inr (Or.inr (Or.inr (Or.inr (Or.inr (Or.inl c_8))))))))))) | exact Or.inr (Or.inr (Or.inr (Or.inr (Or.inr (Or.inr (Or.inr (Or.inr (Or.inr (Or.inr (Or.inr (Or.inr c_8)))))))))))
                  rw [if_pos hb, if_pos hb]
                  exact ⟨rfl, rfl⟩
                · skip
                  refine z_iload dX9_game_44 rfl ?_
                  refine z_bipush (v := 9) dX9_game_46 (by decide) ?_
                  refine z_icmp_gt 81 dX9_game_48 (by decide) (fun c_9 => ?_) (fun c_9 => ?_)
                  · skip
                    refine z_iconst (v := (-1)) dX9_game_81 (by decide) ?_
                    refine z_iret dX9_game_82 rfl ?_
                    subst hQ0
                    have hb : mgB I a b age rk wk ws := by first | exact Or.inl c_9 | exact Or.inr (Or.inl c_9) | exact Or.inr (Or.inr (Or.inl c_9)) | exact Or.inr (Or.inr (Or.inr (Or.inl c_9))) | exact Or.inr (Or.inr (Or.inr (Or.inr (Or.inl c_9)))) | exact Or.inr (Or.inr (Or.inr (Or.inr (Or.inr (Or.inl c_9))))) | exact Or.inr (Or.inr (Or.inr (Or.inr (Or.inr (Or.inr (Or.inl c_9)))))) | exact Or.inr (Or.inr (Or.inr (Or.inr (Or.inr (Or.inr (Or.inr (Or.inl c_9))))))) | exact Or.inr (Or.inr (Or.inr (Or.inr (Or.inr (Or.inr (Or.inr (Or.inr (Or.inl c_9)))))))) | exact Or.inr (Or.inr (Or.inr (Or.inr (Or.inr (Or.inr (Or.inr (Or.inr (Or.inr (Or.inl c_9))))))))) | exact Or.inr (Or.inr (Or.inr (Or.inr (Or.inr (Or.inr (Or.inr (Or.inr (Or.inr (Or.inr (Or.inl c_9)))))))))) | exact Or.inr (Or.inr (Or.inr (Or.inr (Or.inr (Or.inr (Or.inr (Or.inr (Or.inr (Or.inr (Or.inr (Or.inl c_9))))))))))) | exact Or.inr (Or.inr (Or.inr (Or.inr (Or.inr (Or.inr (Or.inr (Or.inr (Or.inr (Or.inr (Or.inr (Or.inr c_9)))))))))))
                    rw [if_pos hb, if_pos hb]
                    exact ⟨rfl, rfl⟩
                  · skip
                    refine z_aload_n (i := 0) dX9_game_51 rfl rfl ?_
                    refine z_iload dX9_game_52 rfl ?_
                    refine z_callV (st := []) (mc2 := 0) (ms2 := 0) zi9_249 zv_yX9_isGone (c9_isGone (zu I 0 0 0) L wk) dX9_game_54 (show (0 : Nat) < 35 by decide) rfl rfl rfl rfl (by decide) (by decide) (Nat.le_of_ble_eq_true rfl) (by decide) (by decide) (fun r h2 hq => ?_)
                    obtain ⟨rfl, rfl⟩ := hq
                    rw [show (if wk < 0 then (1 : Int32) else if 50 < wk then 1 else if zu I 0 0 0 0 34 < 7 * (wk + 1) then 0 else 1) = mgone I wk from rfl]
                    refine z_if_ne 81 dX9_game_57 (by decide) (fun c_10 => ?_) (fun c_10 => ?_)
                    · skip
                      refine z_iconst (v := (-1)) dX9_game_81 (by decide) ?_
                      refine z_iret dX9_game_82 rfl ?_
                      subst hQ0
                      have hb : mgB I a b age rk wk ws := by first | exact Or.inl c_10 | exact Or.inr (Or.inl c_10) | exact Or.inr (Or.inr (Or.inl c_10)) | exact Or.inr (Or.inr (Or.inr (Or.inl c_10))) | exact Or.inr (Or.inr (Or.inr (Or.inr (Or.inl c_10)))) | exact Or.inr (Or.inr (Or.inr (Or.inr (Or.inr (Or.inl c_10))))) | exact Or.inr (Or.inr (Or.inr (Or.inr (Or.inr (Or.inr (Or.inl c_10)))))) | exact Or.inr (Or.inr (Or.inr (Or.inr (Or.inr (Or.inr (Or.inr (Or.inl c_10))))))) | exact Or.inr (Or.inr (Or.inr (Or.inr (Or.inr (Or.inr (Or.inr (Or.inr (Or.inl c_10)))))))) | exact Or.inr (Or.inr (Or.inr (Or.inr (Or.inr (Or.inr (Or.inr (Or.inr (Or.inr (Or.inl c_10))))))))) | exact Or.inr (Or.inr (Or.inr (Or.inr (Or.inr (Or.inr (Or.inr (Or.inr (Or.inr (Or.inr (Or.inl c_10)))))))))) | exact Or.inr (Or.inr (Or.inr (Or.inr (Or.inr (Or.inr (Or.inr (Or.inr (Or.inr (Or.inr (Or.inr (Or.inl c_10))))))))))) | exact Or.inr (Or.inr (Or.inr (Or.inr (Or.inr (Or.inr (Or.inr (Or.inr (Or.inr (Or.inr (Or.inr (Or.inr c_10)))))))))))
                      rw [if_pos hb, if_pos hb]
                      exact ⟨rfl, rfl⟩
                    · skip
                      refine z_iload dX9_game_60 rfl ?_
                      refine z_if_le 81 dX9_game_62 (by decide) (fun c_11 => ?_) (fun c_11 => ?_)
                      · skip
                        refine z_iconst (v := (-1)) dX9_game_81 (by decide) ?_
                        refine z_iret dX9_game_82 rfl ?_
                        subst hQ0
                        have hb : mgB I a b age rk wk ws := by first | exact Or.inl c_11 | exact Or.inr (Or.inl c_11) | exact Or.inr (Or.inr (Or.inl c_11)) | exact Or.inr (Or.inr (Or.inr (Or.inl c_11))) | exact Or.inr (Or.inr (Or.inr (Or.inr (Or.inl c_11)))) | exact Or.inr (Or.inr (Or.inr (Or.inr (Or.inr (Or.inl c_11))))) | exact Or.inr (Or.inr (Or.inr (Or.inr (Or.inr (Or.inr (Or.inl c_11)))))) | exact Or.inr (Or.inr (Or.inr (Or.inr (Or.inr (Or.inr (Or.inr (Or.inl c_11))))))) | exact Or.inr (Or.inr (Or.inr (Or.inr (Or.inr (Or.inr (Or.inr (Or.inr (Or.inl c_11)))))))) | exact Or.inr (Or.inr (Or.inr (Or.inr (Or.inr (Or.inr (Or.inr (Or.inr (Or.inr (Or.inl c_11))))))))) | exact Or.inr (Or.inr (Or.inr (Or.inr (Or.inr (Or.inr (Or.inr (Or.inr (Or.inr (Or.inr (Or.inl c_11)))))))))) | exact Or.inr (Or.inr (Or.inr (Or.inr (Or.inr (Or.inr (Or.inr (Or.inr (Or.inr (Or.inr (Or.inr (Or.inl c_11))))))))))) | exact Or.inr (Or.inr (Or.inr (Or.inr (Or.inr (Or.inr (Or.inr (Or.inr (Or.inr (Or.inr (Or.inr (Or.inr c_11)))))))))))
                        rw [if_pos hb, if_pos hb]
                        exact ⟨rfl, rfl⟩
                      · skip
                        refine z_iload dX9_game_65 rfl ?_
                        refine z_ldc (v := 268435456) dX9_game_67 (zTB_of (by decide +kernel) rfl) ?_
                        refine z_icmp_ge 81 dX9_game_69 (by decide) (fun c_12 => ?_) (fun c_12 => ?_)
                        · skip
                          refine z_iconst (v := (-1)) dX9_game_81 (by decide) ?_
                          refine z_iret dX9_game_82 rfl ?_
                          subst hQ0
                          have hb : mgB I a b age rk wk ws := by first | exact Or.inl c_12 | exact Or.inr (Or.inl c_12) | exact Or.inr (Or.inr (Or.inl c_12)) | exact Or.inr (Or.inr (Or.inr (Or.inl c_12))) | exact Or.inr (Or.inr (Or.inr (Or.inr (Or.inl c_12)))) | exact Or.inr (Or.inr (Or.inr (Or.inr (Or.inr (Or.inl c_12))))) | exact Or.inr (Or.inr (Or.inr (Or.inr (Or.inr (Or.inr (Or.inl c_12)))))) | exact Or.inr (Or.inr (Or.inr (Or.inr (Or.inr (Or.inr (Or.inr (Or.inl c_12))))))) | exact Or.inr (Or.inr (Or.inr (Or.inr (Or.inr (Or.inr (Or.inr (Or.inr (Or.inl c_12)))))))) | exact Or.inr (Or.inr (Or.inr (Or.inr (Or.inr (Or.inr (Or.inr (Or.inr (Or.inr (Or.inl c_12))))))))) | exact Or.inr (Or.inr (Or.inr (Or.inr (Or.inr (Or.inr (Or.inr (Or.inr (Or.inr (Or.inr (Or.inl c_12)))))))))) | exact Or.inr (Or.inr (Or.inr (Or.inr (Or.inr (Or.inr (Or.inr (Or.inr (Or.inr (Or.inr (Or.inr (Or.inl c_12))))))))))) | exact Or.inr (Or.inr (Or.inr (Or.inr (Or.inr (Or.inr (Or.inr (Or.inr (Or.inr (Or.inr (Or.inr (Or.inr c_12)))))))))))
                          rw [if_pos hb, if_pos hb]
                          exact ⟨rfl, rfl⟩
                        · skip
                          refine z_aload_n (i := 0) dX9_game_72 rfl rfl ?_
                          refine z_gI zf9_253.g dX9_game_73 (by decide) rfl ?_
                          refine z_bipush (v := 60) dX9_game_76 (by decide) ?_
                          refine z_icmp_ne 83 dX9_game_78 (by decide) (fun c_13 => ?_) (fun c_13 => ?_)
                          · skip
                            have hG6 : G < 60 := by
                              have q : ¬ nI G = nI 60 := fun e => c_13 (h35.trans e)
                              rw [zeq (by omega) (by omega)] at q
                              omega
                            refine z_aload_n (i := 0) dX9_game_83 rfl rfl ?_
                            refine z_gR zf9_107.g dX9_game_84 (by decide) rfl rfl ?_
                            refine z_aload_n (i := 0) dX9_game_87 rfl rfl ?_
                            refine z_gI zf9_253.g dX9_game_88 (by decide) rfl ?_
                            rw [show (zu I 0 0 0) 0 35 = nI G from h35]
                            refine z_iload_n (i := 1) dX9_game_91 rfl rfl ?_
                            refine z_iast dX9_game_92 (by decide) rfl (zvin (by omega) (by omega)) ?_
                            simp only [zcl (show G ≤ 100000 by omega)]
                            refine z_aload_n (i := 0) dX9_game_93 rfl rfl ?_
                            refine z_gR zf9_110.g dX9_game_94 (by decide) rfl rfl ?_
                            refine z_aload_n (i := 0) dX9_game_97 rfl rfl ?_
                            refine z_gI zf9_253.g dX9_game_98 (by decide) rfl ?_
                            rw [show (zu (zu I 0 0 0) 25 G a) 0 35 = nI G from h35]
                            refine z_iload_n (i := 2) dX9_game_101 rfl rfl ?_
                            refine z_iast dX9_game_102 (by decide) rfl (zvin (by omega) (by omega)) ?_
                            simp only [zcl (show G ≤ 100000 by omega)]
                            refine z_aload_n (i := 0) dX9_game_103 rfl rfl ?_
                            refine z_gR zf9_113.g dX9_game_104 (by decide) rfl rfl ?_
                            refine z_aload_n (i := 0) dX9_game_107 rfl rfl ?_
                            refine z_gI zf9_253.g dX9_game_108 (by decide) rfl ?_
                            rw [show (zu (zu (zu I 0 0 0) 25 G a) 26 G b) 0 35 = nI G from h35]
                            refine z_iload_n (i := 3) dX9_game_111 rfl rfl ?_
                            refine z_iast dX9_game_112 (by decide) rfl (zvin (by omega) (by omega)) ?_
                            simp only [zcl (show G ≤ 100000 by omega)]
                            refine z_aload_n (i := 0) dX9_game_113 rfl rfl ?_
                            refine z_gR zf9_116.g dX9_game_114 (by decide) rfl rfl ?_
                            refine z_aload_n (i := 0) dX9_game_117 rfl rfl ?_
                            refine z_gI zf9_253.g dX9_game_118 (by decide) rfl ?_
                            rw [show (zu (zu (zu (zu I 0 0 0) 25 G a) 26 G b) 27 G age) 0 35 = nI G from h35]
                            refine z_iload dX9_game_121 rfl ?_
                            refine z_iast dX9_game_123 (by decide) rfl (zvin (by omega) (by omega)) ?_
                            simp only [zcl (show G ≤ 100000 by omega)]
                            refine z_aload_n (i := 0) dX9_game_124 rfl rfl ?_
                            refine z_gR zf9_119.g dX9_game_125 (by decide) rfl rfl ?_
                            refine z_aload_n (i := 0) dX9_game_128 rfl rfl ?_
                            refine z_gI zf9_253.g dX9_game_129 (by decide) rfl ?_
                            rw [show (zu (zu (zu (zu (zu I 0 0 0) 25 G a) 26 G b) 27 G age) 28 G rk) 0 35 = nI G from h35]
                            refine z_iload dX9_game_132 rfl ?_
                            refine z_iast dX9_game_134 (by decide) rfl (zvin (by omega) (by omega)) ?_
                            simp only [zcl (show G ≤ 100000 by omega)]
                            refine z_aload_n (i := 0) dX9_game_135 rfl rfl ?_
                            refine z_gR zf9_122.g dX9_game_136 (by decide) rfl rfl ?_
                            refine z_aload_n (i := 0) dX9_game_139 rfl rfl ?_
                            refine z_gI zf9_253.g dX9_game_140 (by decide) rfl ?_
                            rw [show (zu (zu (zu (zu (zu (zu I 0 0 0) 25 G a) 26 G b) 27 G age) 28 G rk) 29 G wk) 0 35 = nI G from h35]
                            refine z_iload dX9_game_143 rfl ?_
                            refine z_iast dX9_game_145 (by decide) rfl (zvin (by omega) (by omega)) ?_
                            simp only [zcl (show G ≤ 100000 by omega)]
                            refine z_aload_n (i := 0) dX9_game_146 rfl rfl ?_
                            refine z_gR zf9_125.g dX9_game_147 (by decide) rfl rfl ?_
                            refine z_aload_n (i := 0) dX9_game_150 rfl rfl ?_
                            refine z_gI zf9_253.g dX9_game_151 (by decide) rfl ?_
                            rw [show (zu (zu (zu (zu (zu (zu (zu I 0 0 0) 25 G a) 26 G b) 27 G age) 28 G rk) 29 G wk) 30 G ws) 0 35 = nI G from h35]
                            refine z_iconst (v := 0) dX9_game_154 (by decide) ?_
                            refine z_iast dX9_game_155 (by decide) rfl (zvin (by omega) (by omega)) ?_
                            simp only [zcl (show G ≤ 100000 by omega)]
                            refine z_aload_n (i := 0) dX9_game_156 rfl rfl ?_
                            refine z_gR zf9_128.g dX9_game_157 (by decide) rfl rfl ?_
                            refine z_aload_n (i := 0) dX9_game_160 rfl rfl ?_
                            refine z_gI zf9_253.g dX9_game_161 (by decide) rfl ?_
                            rw [show (zu (zu (zu (zu (zu (zu (zu (zu I 0 0 0) 25 G a) 26 G b) 27 G age) 28 G rk) 29 G wk) 30 G ws) 31 G 0) 0 35 = nI G from h35]
                            refine z_iconst (v := (-1)) dX9_game_164 (by decide) ?_
                            refine z_iast dX9_game_165 (by decide) rfl (zvin (by omega) (by omega)) ?_
                            simp only [zcl (show G ≤ 100000 by omega)]
                            refine z_aload_n (i := 0) dX9_game_166 rfl rfl ?_
                            refine z_dup dX9_game_167 rfl ?_
                            refine z_gI zf9_253.g dX9_game_168 (by decide) rfl ?_
                            rw [show (zu (zu (zu (zu (zu (zu (zu (zu (zu I 0 0 0) 25 G a) 26 G b) 27 G age) 28 G rk) 29 G wk) 30 G ws) 31 G 0) 32 G (-1)) 0 35 = nI G from h35]
                            refine z_iconst (v := 1) dX9_game_171 (by decide) ?_
                            refine z_iadd dX9_game_172 ?_
                            refine z_top (y := .int (nI (G + 1))) (by rw [zl1, nI_add]) ?_
                            refine z_putI zf9_253 dX9_game_173 (fun h => by cases h) (by decide) rfl ?_
                            refine z_aload_n (i := 0) dX9_game_176 rfl rfl ?_
                            refine z_gI zf9_253.g dX9_game_177 (by decide) rfl ?_
                            refine z_iconst (v := 1) dX9_game_180 (by decide) ?_
                            refine z_isub dX9_game_181 ?_
                            refine z_top (y := .int (nI G)) (by show Value.int (nI (G + 1) - 1) = _; rw [zsub1]) ?_
                            refine z_iret dX9_game_182 rfl ?_
                            subst hQ0
                            have hb : ¬ mgB I a b age rk wk ws := by
                              rintro (h | h | h | h | h | h | h | h | h | h | h | h | h) <;> first | exact absurd h (by assumption) | exact h (by assumption) | contradiction
                            rw [if_neg hb, if_neg hb]
                            exact ⟨rfl, rfl⟩
                          · skip
                            refine z_iconst (v := (-1)) dX9_game_81 (by decide) ?_
                            refine z_iret dX9_game_82 rfl ?_
                            subst hQ0
                            have hb : mgB I a b age rk wk ws := by first | exact Or.inl c_13 | exact Or.inr (Or.inl c_13) | exact Or.inr (Or.inr (Or.inl c_13)) | exact Or.inr (Or.inr (Or.inr (Or.inl c_13))) | exact Or.inr (Or.inr (Or.inr (Or.inr (Or.inl c_13)))) | exact Or.inr (Or.inr (Or.inr (Or.inr (Or.inr (Or.inl c_13))))) | exact Or.inr (Or.inr (Or.inr (Or.inr (Or.inr (Or.inr (Or.inl c_13)))))) | exact Or.inr (Or.inr (Or.inr (Or.inr (Or.inr (Or.inr (Or.inr (Or.inl c_13))))))) | exact Or.inr (Or.inr (Or.inr (Or.inr (Or.inr (Or.inr (Or.inr (Or.inr (Or.inl c_13)))))))) | exact Or.inr (Or.inr (Or.inr (Or.inr (Or.inr (Or.inr (Or.inr (Or.inr (Or.inr (Or.inl c_13))))))))) | exact Or.inr (Or.inr (Or.inr (Or.inr (Or.inr (Or.inr (Or.inr (Or.inr (Or.inr (Or.inr (Or.inl c_13)))))))))) | exact Or.inr (Or.inr (Or.inr (Or.inr (Or.inr (Or.inr (Or.inr (Or.inr (Or.inr (Or.inr (Or.inr (Or.inl c_13))))))))))) | exact Or.inr (Or.inr (Or.inr (Or.inr (Or.inr (Or.inr (Or.inr (Or.inr (Or.inr (Or.inr (Or.inr (Or.inr c_13)))))))))))
                            rw [if_pos hb, if_pos hb]
                            exact ⟨rfl, rfl⟩
