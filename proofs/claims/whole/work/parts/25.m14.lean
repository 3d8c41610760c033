theorem lcmp0 (x y : Int64) : lg_cmp x y = 0 ↔ x = y := by
  unfold lg_cmp
  by_cases h1 : x = y
  · subst h1
    simp [Int64.lt_irrefl]
  · simp only [h1, if_false, iff_false]
    split <;> decide
abbrev x9_isSignOf : ZX := (RX9, cX9_isSignOf, 1, (some .boolean), "isSignOf", 0, 0, false)
set_option maxHeartbeats 4000000 in
theorem c9_isSignOf (I : Nat → Nat → Int32) (L : Nat → Nat → Int64) (c : Int32) : Zm yX9_isSignOf cX9_isSignOf 1 (some .boolean) 0 0 0 0 [.int c] (mh I L) (mQ (some (.int (zb (decide (c = 40) || decide (c = 41) || decide (c = 59) || decide (c = 61) || decide (c = 60) || decide (c = 43) || decide (c = 45))))) I L) := by
  refine Zm_of (lg := false) (by decide) (fun _ => by simp [Value.category]) (fun _ => Nat.le_of_ble_eq_true rfl) ?_
  show Zf x9_isSignOf 0 0 0 (zargs [.int c]) [] (mh I L) _
  refine z_iload_n (i := 0) dX9_isSignOf_0 rfl rfl ?_
  refine z_bipush (v := 40) dX9_isSignOf_1 (by decide) ?_
  refine z_icmp_eq 42 dX9_isSignOf_3 (by decide) (fun c_1 => ?_) (fun c_1 => ?_)
  · skip
    refine z_iconst (v := 1) dX9_isSignOf_42 (by decide) ?_
    refine z_goto 47 dX9_isSignOf_43 (by decide) ?_
    refine z_zret dX9_isSignOf_47 rfl (by decide) ?_
    exact ⟨by simp_all [zb], rfl⟩
  · skip
    refine z_iload_n (i := 0) dX9_isSignOf_6 rfl rfl ?_
    refine z_bipush (v := 41) dX9_isSignOf_7 (by decide) ?_
    refine z_icmp_eq 42 dX9_isSignOf_9 (by decide) (fun c_2 => ?_) (fun c_2 => ?_)
    · skip
      refine z_iconst (v := 1) dX9_isSignOf_42 (by decide) ?_
      refine z_goto 47 dX9_isSignOf_43 (by decide) ?_
      refine z_zret dX9_isSignOf_47 rfl (by decide) ?_
      exact ⟨by simp_all [zb], rfl⟩
    · skip
      refine z_iload_n (i := 0) dX9_isSignOf_12 rfl rfl ?_
      refine z_bipush (v := 59) dX9_isSignOf_13 (by decide) ?_
      refine z_icmp_eq 42 dX9_isSignOf_15 (by decide) (fun c_3 => ?_) (fun c_3 => ?_)
      · skip
        refine z_iconst (v := 1) dX9_isSignOf_42 (by decide) ?_
        refine z_goto 47 dX9_isSignOf_43 (by decide) ?_
        refine z_zret dX9_isSignOf_47 rfl (by decide) ?_
        exact ⟨by simp_all [zb], rfl⟩
      · skip
        refine z_iload_n (i := 0) dX9_isSignOf_18 rfl rfl ?_
        refine z_bipush (v := 61) dX9_isSignOf_19 (by decide) ?_
        refine z_icmp_eq 42 dX9_isSignOf_21 (by decide) (fun c_4 => ?_) (fun c_4 => ?_)
        · skip
          refine z_iconst (v := 1) dX9_isSignOf_42 (by decide) ?_
          refine z_goto 47 dX9_isSignOf_43 (by decide) ?_
          refine z_zret dX9_isSignOf_47 rfl (by decide) ?_
          exact ⟨by simp_all [zb], rfl⟩
        · skip
          refine z_iload_n (i := 0) dX9_isSignOf_24 rfl rfl ?_
          refine z_bipush (v := 60) dX9_isSignOf_25 (by decide) ?_
          refine z_icmp_eq 42 dX9_isSignOf_27 (by decide) (fun c_5 => ?_) (fun c_5 => ?_)
          · skip
            refine z_iconst (v := 1) dX9_isSignOf_42 (by decide) ?_
            refine z_goto 47 dX9_isSignOf_43 (by decide) ?_
            refine z_zret dX9_isSignOf_47 rfl (by decide) ?_
            exact ⟨by simp_all [zb], rfl⟩
          · skip
            refine z_iload_n (i := 0) dX9_isSignOf_30 rfl rfl ?_
            refine z_bipush (v := 43) dX9_isSignOf_31 (by decide) ?_
            refine z_icmp_eq 42 dX9_isSignOf_33 (by decide) (fun c_6 => ?_) (fun c_6 => ?_)
            · skip
              refine z_iconst (v := 1) dX9_isSignOf_42 (by decide) ?_
              refine z_goto 47 dX9_isSignOf_43 (by decide) ?_
              refine z_zret dX9_isSignOf_47 rfl (by decide) ?_
              exact ⟨by simp_all [zb], rfl⟩
            · skip
              refine z_iload_n (i := 0) dX9_isSignOf_36 rfl rfl ?_
              refine z_bipush (v := 45) dX9_isSignOf_37 (by decide) ?_
              refine z_icmp_ne 46 dX9_isSignOf_39 (by decide) (fun c_7 => ?_) (fun c_7 => ?_)
              · skip
                refine z_iconst (v := 0) dX9_isSignOf_46 (by decide) ?_
                refine z_zret dX9_isSignOf_47 rfl (by decide) ?_
                exact ⟨by simp_all [zb], rfl⟩
              · skip
                refine z_iconst (v := 1) dX9_isSignOf_42 (by decide) ?_
                refine z_goto 47 dX9_isSignOf_43 (by decide) ?_
                refine z_zret dX9_isSignOf_47 rfl (by decide) ?_
                exact ⟨by simp_all [zb], rfl⟩
abbrev x9_rank : ZX := (RX9, cX9_rank, 1, (some .int), "rank", 1, 40, false)
set_option maxHeartbeats 4000000 in
theorem c9_rank (I : Nat → Nat → Int32) (L : Nat → Nat → Int64) (c : Int32) (h1 : ¬ c < 97) (h2 : ¬ 122 < c) : Zm yX9_rank cX9_rank 1 (some .int) 1 40 0 0 [.int c] (mh I L) (mQ (some (.int (c - 96))) I L) := by
  refine Zm_of (lg := false) (by decide) (fun _ => by simp [Value.category]) (fun _ => Nat.le_of_ble_eq_true rfl) ?_
  show Zf x9_rank 0 0 0 (zargs [.int c]) [] (mh I L) _
  refine z_iload_n (i := 0) dX9_rank_0 rfl rfl ?_
  refine z_callS (st := []) (mc2 := 0) (ms2 := 0) zi9_148 zs_yX9_isLetter (c9_isLetter _ _ _) dX9_rank_1 rfl rfl (by decide) (by decide) (Nat.le_of_ble_eq_true rfl) (by decide) (by decide) (fun r h2 hq => ?_)
  obtain ⟨rfl, rfl⟩ := hq
  rw [if_neg h1, if_neg h2]
  refine z_if_eq 14 dX9_rank_4 (by decide) (fun c_1 => absurd c_1 (by decide)) (fun _ => ?_)
  refine z_iload_n (i := 0) dX9_rank_7 rfl rfl ?_
  refine z_bipush (v := 96) dX9_rank_8 (by decide) ?_
  refine z_isub dX9_rank_10 ?_
  refine z_goto 18 dX9_rank_11 (by decide) ?_
  refine z_iret dX9_rank_18 rfl ?_
  exact ⟨rfl, rfl⟩
def msg (I : Nat → Nat → Int32) (L : Nat → Nat → Int64) (A : Nat) (c : Int32) : Bool := decide (I 0 8 = 0) && decide (I 2 A = 3) && decide (L 4 A = c.toInt64)
def mwd (I : Nat → Nat → Int32) (L : Nat → Nat → Int64) (A w : Nat) : Bool := decide (I 0 8 = 0) && decide (I 2 A = 1) && decide (L 4 A = L 5 w)
def mwr (I : Nat → Nat → Int32) (A : Nat) (x : Int32) : Nat → Nat → Int32 := if I 0 8 = 0 then zu I 0 8 (x + 16 * I 3 A) else I
def mnx (I : Nat → Nat → Int32) (A : Nat) (b : Bool) : Nat → Nat → Int32 := if b then zu I 0 7 (nI (A + 1)) else I
abbrev x9_isSign : ZX := (RX9, cX9_isSign, 2, (some .boolean), "isSign", 0, 0, false)
set_option maxHeartbeats 4000000 in
theorem c9_isSign (I : Nat → Nat → Int32) (L : Nat → Nat → Int64) (c : Int32) (A : Nat) (hA : A ≤ 601) (h7 : I 0 7 = nI A) : Zm yX9_isSign cX9_isSign 2 (some .boolean) 0 0 0 0 [.ref 0, .int c] (mh I L) (mQ (some (.int (zb (msg I L A c)))) I L) := by
  refine Zm_of (lg := false) (by decide) (fun _ => by simp [Value.category]) (fun _ => Nat.le_of_ble_eq_true rfl) ?_
  show Zf x9_isSign 0 0 0 (zargs [.ref 0, .int c]) [] (mh I L) _
  refine z_aload_n (i := 0) dX9_isSign_0 rfl rfl ?_
  refine z_gI zf9_173.g dX9_isSign_1 (by decide) rfl ?_
  refine z_if_ne 39 dX9_isSign_4 (by decide) (fun c_1 => ?_) (fun c_1 => ?_)
  · skip
    refine z_iconst (v := 0) dX9_isSign_39 (by decide) ?_
    refine z_zret dX9_isSign_40 rfl (by decide) ?_
    exact ⟨by simp_all [zb, msg, mwd, lcmp0], rfl⟩
  · skip
    refine z_aload_n (i := 0) dX9_isSign_7 rfl rfl ?_
    refine z_gR zf9_13.g dX9_isSign_8 (by decide) rfl rfl ?_
    refine z_aload_n (i := 0) dX9_isSign_11 rfl rfl ?_
    refine z_gI zf9_170.g dX9_isSign_12 (by decide) rfl ?_
    rw [h7]
    refine z_iald dX9_isSign_15 (by decide) rfl (zvin (by omega) (by omega)) ?_
    rw [zcl (by omega)]
    refine z_iconst (v := 3) dX9_isSign_16 (by decide) ?_
    refine z_icmp_ne 39 dX9_isSign_17 (by decide) (fun c_2 => ?_) (fun c_2 => ?_)
    · skip
      refine z_iconst (v := 0) dX9_isSign_39 (by decide) ?_
      refine z_zret dX9_isSign_40 rfl (by decide) ?_
      exact ⟨by simp_all [zb, msg, mwd, lcmp0], rfl⟩
    · skip
      refine z_aload_n (i := 0) dX9_isSign_20 rfl rfl ?_
      refine z_gR zf9_19.g dX9_isSign_21 (by decide) rfl rfl ?_
      refine z_aload_n (i := 0) dX9_isSign_24 rfl rfl ?_
      refine z_gI zf9_170.g dX9_isSign_25 (by decide) rfl ?_
      rw [h7]
      refine z_lald dX9_isSign_28 (by decide) rfl (zvin (by omega) (by omega)) ?_
      rw [zcl (by omega)]
      refine z_iload_n (i := 1) dX9_isSign_29 rfl rfl ?_
      refine z_i2l dX9_isSign_30 rfl ?_
      refine z_lcmp dX9_isSign_31 ?_
      refine z_if_ne 39 dX9_isSign_32 (by decide) (fun c_3 => ?_) (fun c_3 => ?_)
      · skip
        refine z_iconst (v := 0) dX9_isSign_39 (by decide) ?_
        refine z_zret dX9_isSign_40 rfl (by decide) ?_
        exact ⟨by simp_all [zb, msg, mwd, lcmp0], rfl⟩
      · skip
        refine z_iconst (v := 1) dX9_isSign_35 (by decide) ?_
        refine z_goto 40 dX9_isSign_36 (by decide) ?_
        refine z_zret dX9_isSign_40 rfl (by decide) ?_
        exact ⟨by simp_all [zb, msg, mwd, lcmp0], rfl⟩
abbrev x9_isWord : ZX := (RX9, cX9_isWord, 2, (some .boolean), "isWord", 0, 0, false)
set_option maxHeartbeats 4000000 in
theorem c9_isWord (I : Nat → Nat → Int32) (L : Nat → Nat → Int64) (w : Nat) (hw : w < 12) (A : Nat) (hA : A ≤ 601) (h7 : I 0 7 = nI A) : Zm yX9_isWord cX9_isWord 2 (some .boolean) 0 0 0 0 [.ref 0, .int (nI w)] (mh I L) (mQ (some (.int (zb (mwd I L A w)))) I L) := by
  refine Zm_of (lg := false) (by decide) (fun _ => by simp [Value.category]) (fun _ => Nat.le_of_ble_eq_true rfl) ?_
  show Zf x9_isWord 0 0 0 (zargs [.ref 0, .int (nI w)]) [] (mh I L) _
  refine z_aload_n (i := 0) dX9_isWord_0 rfl rfl ?_
  refine z_gI zf9_173.g dX9_isWord_1 (by decide) rfl ?_
  refine z_if_ne 43 dX9_isWord_4 (by decide) (fun c_1 => ?_) (fun c_1 => ?_)
  · skip
    refine z_iconst (v := 0) dX9_isWord_43 (by decide) ?_
    refine z_zret dX9_isWord_44 rfl (by decide) ?_
    exact ⟨by simp_all [zb, msg, mwd, lcmp0], rfl⟩
  · skip
    refine z_aload_n (i := 0) dX9_isWord_7 rfl rfl ?_
    refine z_gR zf9_13.g dX9_isWord_8 (by decide) rfl rfl ?_
    refine z_aload_n (i := 0) dX9_isWord_11 rfl rfl ?_
    refine z_gI zf9_170.g dX9_isWord_12 (by decide) rfl ?_
    rw [h7]
    refine z_iald dX9_isWord_15 (by decide) rfl (zvin (by omega) (by omega)) ?_
    rw [zcl (by omega)]
    refine z_iconst (v := 1) dX9_isWord_16 (by decide) ?_
    refine z_icmp_ne 43 dX9_isWord_17 (by decide) (fun c_2 => ?_) (fun c_2 => ?_)
    · skip
      refine z_iconst (v := 0) dX9_isWord_43 (by decide) ?_
      refine z_zret dX9_isWord_44 rfl (by decide) ?_
      exact ⟨by simp_all [zb, msg, mwd, lcmp0], rfl⟩
    · skip
      refine z_aload_n (i := 0) dX9_isWord_20 rfl rfl ?_
      refine z_gR zf9_19.g dX9_isWord_21 (by decide) rfl rfl ?_
      refine z_aload_n (i := 0) dX9_isWord_24 rfl rfl ?_
      refine z_gI zf9_170.g dX9_isWord_25 (by decide) rfl ?_
      rw [h7]
      refine z_lald dX9_isWord_28 (by decide) rfl (zvin (by omega) (by omega)) ?_
      rw [zcl (by omega)]
      refine z_aload_n (i := 0) dX9_isWord_29 rfl rfl ?_
      refine z_gR zf9_47.g dX9_isWord_30 (by decide) rfl rfl ?_
      refine z_iload_n (i := 1) dX9_isWord_33 rfl rfl ?_
      refine z_lald dX9_isWord_34 (by decide) rfl (zvin (by omega) (by omega)) ?_
      rw [zcl (by omega)]
      refine z_lcmp dX9_isWord_35 ?_
      refine z_if_ne 43 dX9_isWord_36 (by decide) (fun c_3 => ?_) (fun c_3 => ?_)
      · skip
        refine z_iconst (v := 0) dX9_isWord_43 (by decide) ?_
        refine z_zret dX9_isWord_44 rfl (by decide) ?_
        exact ⟨by simp_all [zb, msg, mwd, lcmp0], rfl⟩
      · skip
        refine z_iconst (v := 1) dX9_isWord_39 (by decide) ?_
        refine z_goto 44 dX9_isWord_40 (by decide) ?_
        refine z_zret dX9_isWord_44 rfl (by decide) ?_
        exact ⟨by simp_all [zb, msg, mwd, lcmp0], rfl⟩
abbrev x9_takeSign : ZX := (RX9, cX9_takeSign, 2, none, "takeSign", 1, 40, false)
set_option maxHeartbeats 4000000 in
theorem c9_takeSign (I : Nat → Nat → Int32) (L : Nat → Nat → Int64) (c : Int32) (A : Nat) (hA : A ≤ 601) (h7 : I 0 7 = nI A) : Zm yX9_takeSign cX9_takeSign 2 none 1 40 0 0 [.ref 0, .int c] (mh I L) (mQ none (if msg I L A c = true then zu I 0 7 (nI (A + 1)) else mwr I A 1) L) := by
  refine Zm_of (lg := false) (by decide) (fun _ => by simp [Value.category]) (fun _ => Nat.le_of_ble_eq_true rfl) ?_
  show Zf x9_takeSign 0 0 0 (zargs [.ref 0, .int c]) [] (mh I L) _
  generalize hQ0 : (mQ none (if msg I L A c = true then zu I 0 7 (nI (A + 1)) else mwr I A 1) L : Option Value → ZH → Prop) = Q0
  refine z_aload_n (i := 0) dX9_takeSign_0 rfl rfl ?_
  refine z_iload_n (i := 1) dX9_takeSign_1 rfl rfl ?_
  refine z_callV (st := []) (mc2 := 0) (ms2 := 0) zi9_176 zv_yX9_isSign (c9_isSign _ _ _ A hA h7) dX9_takeSign_2 (show (0 : Nat) < 35 by decide) rfl rfl rfl rfl (by decide) (by decide) (Nat.le_of_ble_eq_true rfl) (by decide) (by decide) (fun r h2 hq => ?_)
  obtain ⟨rfl, rfl⟩ := hq
  refine z_if_eq 21 dX9_takeSign_5 (by decide) (fun c_1 => ?_) (fun c_1 => ?_)
  · skip
    refine z_aload_n (i := 0) dX9_takeSign_21 rfl rfl ?_
    refine z_iconst (v := 1) dX9_takeSign_22 (by decide) ?_
    refine z_callV (st := []) (mc2 := 0) (ms2 := 0) zi9_179 zv_yX9_wrong (c9_wrong _ _ _ (by rw [h7]; exact zvin (by omega) (by omega))) dX9_takeSign_23 (show (0 : Nat) < 35 by decide) rfl rfl rfl rfl (by decide) (by decide) (Nat.le_of_ble_eq_true rfl) (by decide) (by decide) (fun r h2 hq => ?_)
    obtain ⟨rfl, rfl⟩ := hq
    try simp only [Option.toList, List.nil_append]
    refine z_vret dX9_takeSign_26 rfl ?_
    subst hQ0
    have h := (zb_0 _).mp c_1
    rw [if_neg (by rw [h]; decide)]
    unfold mwr
    rw [h7, zcl (by omega)]
    exact ⟨rfl, rfl⟩
  · skip
    refine z_aload_n (i := 0) dX9_takeSign_8 rfl rfl ?_
    refine z_dup dX9_takeSign_9 rfl ?_
    refine z_gI zf9_170.g dX9_takeSign_10 (by decide) rfl ?_
    rw [h7]
    refine z_iconst (v := 1) dX9_takeSign_13 (by decide) ?_
    refine z_iadd dX9_takeSign_14 ?_
    refine z_top (y := .int (nI (A + 1))) (by rw [zl1, nI_add]) ?_
    refine z_putI zf9_170 dX9_takeSign_15 (fun h => by cases h) (by decide) rfl ?_
    refine z_goto 26 dX9_takeSign_18 (by decide) ?_
    refine z_vret dX9_takeSign_26 rfl ?_
    subst hQ0
    have h := (zb_n _).mp c_1
    rw [if_pos h]
    exact ⟨rfl, rfl⟩
abbrev x9_hasSign : ZX := (RX9, cX9_hasSign, 3, (some .boolean), "hasSign", 1, 40, false)
set_option maxHeartbeats 4000000 in
theorem c9_hasSign (I : Nat → Nat → Int32) (L : Nat → Nat → Int64) (c : Int32) (A : Nat) (hA : A ≤ 601) (h7 : I 0 7 = nI A) : Zm yX9_hasSign cX9_hasSign 3 (some .boolean) 1 40 0 0 [.ref 0, .int c] (mh I L) (mQ (some (.int (zb (msg I L A c)))) (mnx I A (msg I L A c)) L) := by
  refine Zm_of (lg := false) (by decide) (fun _ => by simp [Value.category]) (fun _ => Nat.le_of_ble_eq_true rfl) ?_
  show Zf x9_hasSign 0 0 0 (zargs [.ref 0, .int c]) [] (mh I L) _
  generalize hQ0 : (mQ (some (.int (zb (msg I L A c)))) (mnx I A (msg I L A c)) L : Option Value → ZH → Prop) = Q0
  refine z_aload_n (i := 0) dX9_hasSign_0 rfl rfl ?_
  refine z_iload_n (i := 1) dX9_hasSign_1 rfl rfl ?_
  refine z_callV (st := []) (mc2 := 0) (ms2 := 0) zi9_176 zv_yX9_isSign (c9_isSign _ _ _ A hA h7) dX9_hasSign_2 (show (0 : Nat) < 35 by decide) rfl rfl rfl rfl (by decide) (by decide) (Nat.le_of_ble_eq_true rfl) (by decide) (by decide) (fun r h2 hq => ?_)
  obtain ⟨rfl, rfl⟩ := hq
  refine z_istore_n (i := 2) dX9_hasSign_5 rfl (by decide) rfl ?_
  refine z_aload_n (i := 0) dX9_hasSign_6 rfl rfl ?_
  refine z_dup dX9_hasSign_7 rfl ?_
  refine z_gI zf9_170.g dX9_hasSign_8 (by decide) rfl ?_
  rw [h7]
  refine z_iload_n (i := 2) dX9_hasSign_11 rfl rfl ?_
  refine z_if_eq 19 dX9_hasSign_12 (by decide) (fun c_1 => ?_) (fun c_1 => ?_)
  · skip
    refine z_iconst (v := 0) dX9_hasSign_19 (by decide) ?_
    refine z_iadd dX9_hasSign_20 ?_
    refine z_putI zf9_170 dX9_hasSign_21 (fun h => by cases h) (by decide) rfl ?_
    refine z_iload_n (i := 2) dX9_hasSign_24 rfl rfl ?_
    refine z_zret dX9_hasSign_25 rfl (zb_or _) ?_
    subst hQ0
    have h := (zb_0 _).mp c_1
    unfold mnx
    rw [h]
    exact ⟨rfl, by rw [show nI A + 0 = I 0 7 by rw [h7]; exact Int32.add_zero _, zu_id]; rfl⟩
  · skip
    refine z_iconst (v := 1) dX9_hasSign_15 (by decide) ?_
    refine z_goto 20 dX9_hasSign_16 (by decide) ?_
    refine z_iadd dX9_hasSign_20 ?_
    refine z_putI zf9_170 dX9_hasSign_21 (fun h => by cases h) (by decide) rfl ?_
    refine z_iload_n (i := 2) dX9_hasSign_24 rfl rfl ?_
    refine z_zret dX9_hasSign_25 rfl (zb_or _) ?_
    subst hQ0
    have h := (zb_n _).mp c_1
    unfold mnx
    rw [h]
    exact ⟨rfl, by rw [show nI A + 1 = nI (A + 1) from nI_1 A]; rfl⟩
abbrev x9_hasWord : ZX := (RX9, cX9_hasWord, 3, (some .boolean), "hasWord", 1, 40, false)
set_option maxHeartbeats 4000000 in
theorem c9_hasWord (I : Nat → Nat → Int32) (L : Nat → Nat → Int64) (w : Nat) (hw : w < 12) (A : Nat) (hA : A ≤ 601) (h7 : I 0 7 = nI A) : Zm yX9_hasWord cX9_hasWord 3 (some .boolean) 1 40 0 0 [.ref 0, .int (nI w)] (mh I L) (mQ (some (.int (zb (mwd I L A w)))) (mnx I A (mwd I L A w)) L) := by
  refine Zm_of (lg := false) (by decide) (fun _ => by simp [Value.category]) (fun _ => Nat.le_of_ble_eq_true rfl) ?_
  show Zf x9_hasWord 0 0 0 (zargs [.ref 0, .int (nI w)]) [] (mh I L) _
  generalize hQ0 : (mQ (some (.int (zb (mwd I L A w)))) (mnx I A (mwd I L A w)) L : Option Value → ZH → Prop) = Q0
  refine z_aload_n (i := 0) dX9_hasWord_0 rfl rfl ?_
  refine z_iload_n (i := 1) dX9_hasWord_1 rfl rfl ?_
  refine z_callV (st := []) (mc2 := 0) (ms2 := 0) zi9_183 zv_yX9_isWord (c9_isWord _ _ w hw A hA h7) dX9_hasWord_2 (show (0 : Nat) < 35 by decide) rfl rfl rfl rfl (by decide) (by decide) (Nat.le_of_ble_eq_true rfl) (by decide) (by decide) (fun r h2 hq => ?_)
  obtain ⟨rfl, rfl⟩ := hq
  refine z_istore_n (i := 2) dX9_hasWord_5 rfl (by decide) rfl ?_
  refine z_aload_n (i := 0) dX9_hasWord_6 rfl rfl ?_
  refine z_dup dX9_hasWord_7 rfl ?_
  refine z_gI zf9_170.g dX9_hasWord_8 (by decide) rfl ?_
  rw [h7]
  refine z_iload_n (i := 2) dX9_hasWord_11 rfl rfl ?_
  refine z_if_eq 19 dX9_hasWord_12 (by decide) (fun c_1 => ?_) (fun c_1 => ?_)
  · skip
    refine z_iconst (v := 0) dX9_hasWord_19 (by decide) ?_
    refine z_iadd dX9_hasWord_20 ?_
    refine z_putI zf9_170 dX9_hasWord_21 (fun h => by cases h) (by decide) rfl ?_
    refine z_iload_n (i := 2) dX9_hasWord_24 rfl rfl ?_
    refine z_zret dX9_hasWord_25 rfl (zb_or _) ?_
    subst hQ0
    have h := (zb_0 _).mp c_1
    unfold mnx
    rw [h]
    exact ⟨rfl, by rw [show nI A + 0 = I 0 7 by rw [h7]; exact Int32.add_zero _, zu_id]; rfl⟩
  · skip
    refine z_iconst (v := 1) dX9_hasWord_15 (by decide) ?_
    refine z_goto 20 dX9_hasWord_16 (by decide) ?_
    refine z_iadd dX9_hasWord_20 ?_
    refine z_putI zf9_170 dX9_hasWord_21 (fun h => by cases h) (by decide) rfl ?_
    refine z_iload_n (i := 2) dX9_hasWord_24 rfl rfl ?_
    refine z_zret dX9_hasWord_25 rfl (zb_or _) ?_
    subst hQ0
    have h := (zb_n _).mp c_1
    unfold mnx
    rw [h]
    exact ⟨rfl, by rw [show nI A + 1 = nI (A + 1) from nI_1 A]; rfl⟩
abbrev x9_takeWord : ZX := (RX9, cX9_takeWord, 2, none, "takeWord", 2, 80, false)
set_option maxHeartbeats 4000000 in
theorem c9_takeWord (I : Nat → Nat → Int32) (L : Nat → Nat → Int64) (w : Nat) (hw : w < 12) (A : Nat) (hA : A ≤ 601) (h7 : I 0 7 = nI A) : Zm yX9_takeWord cX9_takeWord 2 none 2 80 0 0 [.ref 0, .int (nI w)] (mh I L) (mQ none (if mwd I L A w = true then zu I 0 7 (nI (A + 1)) else mwr I A 1) L) := by
  refine Zm_of (lg := false) (by decide) (fun _ => by simp [Value.category]) (fun _ => Nat.le_of_ble_eq_true rfl) ?_
  show Zf x9_takeWord 0 0 0 (zargs [.ref 0, .int (nI w)]) [] (mh I L) _
  generalize hQ0 : (mQ none (if mwd I L A w = true then zu I 0 7 (nI (A + 1)) else mwr I A 1) L : Option Value → ZH → Prop) = Q0
  refine z_aload_n (i := 0) dX9_takeWord_0 rfl rfl ?_
  refine z_iload_n (i := 1) dX9_takeWord_1 rfl rfl ?_
  refine z_callV (st := []) (mc2 := 0) (ms2 := 0) zi9_186 zv_yX9_hasWord (c9_hasWord _ _ w hw A hA h7) dX9_takeWord_2 (show (0 : Nat) < 35 by decide) rfl rfl rfl rfl (by decide) (by decide) (Nat.le_of_ble_eq_true rfl) (by decide) (by decide) (fun r h2 hq => ?_)
  obtain ⟨rfl, rfl⟩ := hq
  refine z_if_ne 13 dX9_takeWord_5 (by decide) (fun c_1 => ?_) (fun c_1 => ?_)
  · skip
    refine z_vret dX9_takeWord_13 rfl ?_
    subst hQ0
    have h := (zb_n _).mp c_1
    rw [if_pos h]
    unfold mnx
    rw [h]
    exact ⟨rfl, rfl⟩
  · skip
    have h := (zb_0 _).mp c_1
    rw [show mnx I A (mwd I L A w) = I by unfold mnx; rw [h]; rfl]
    refine z_aload_n (i := 0) dX9_takeWord_8 rfl rfl ?_
    refine z_iconst (v := 1) dX9_takeWord_9 (by decide) ?_
    refine z_callV (st := []) (mc2 := 0) (ms2 := 0) zi9_179 zv_yX9_wrong (c9_wrong I L 1 (by rw [h7]; exact zvin (by omega) (by omega))) dX9_takeWord_10 (show (0 : Nat) < 35 by decide) rfl rfl rfl rfl (by decide) (by decide) (Nat.le_of_ble_eq_true rfl) (by decide) (by decide) (fun r h2 hq => ?_)
    obtain ⟨rfl, rfl⟩ := hq
    try simp only [Option.toList, List.nil_append]
    refine z_vret dX9_takeWord_13 rfl ?_
    subst hQ0
    rw [if_neg (by rw [h]; decide)]
    unfold mwr
    rw [h7, zcl (by omega)]
    exact ⟨rfl, rfl⟩
def mem (I : Nat → Nat → Int32) (b k : Nat) (c a : Int32) : Nat → Nat → Int32 := zu (zu (zu I 9 (660 * b + k) c) 10 (660 * b + k) a) 0 17 (nI (k + 1))
def mop3 (I : Nat → Nat → Int32) (d : Nat) : Nat → Nat → Int32 := zu (zu (zu I 11 d 0) 12 d 0) 13 d 0
abbrev x9_emit : ZX := (RX9, cX9_emit, 3, none, "emit", 0, 0, false)
set_option maxHeartbeats 4000000 in
theorem c9_emit (I : Nat → Nat → Int32) (L : Nat → Nat → Int64) (c a : Int32) (b k : Nat) (hb : b < 2) (hk : k < 660) (h16 : I 0 16 = nI b) (h17 : I 0 17 = nI k) : Zm yX9_emit cX9_emit 3 none 0 0 0 0 [.ref 0, .int c, .int a] (mh I L) (mQ none (mem I b k c a) L) := by
  refine Zm_of (lg := false) (by decide) (fun _ => by simp [Value.category]) (fun _ => Nat.le_of_ble_eq_true rfl) ?_
  show Zf x9_emit 0 0 0 (zargs [.ref 0, .int c, .int a]) [] (mh I L) _
  generalize hQ0 : (mQ none (mem I b k c a) L : Option Value → ZH → Prop) = Q0
  refine z_aload_n (i := 0) dX9_emit_0 rfl rfl ?_
  refine z_gR zf9_59.g dX9_emit_1 (by decide) rfl rfl ?_
  refine z_sipush (v := 660) dX9_emit_4 (by decide) ?_
  refine z_aload_n (i := 0) dX9_emit_7 rfl rfl ?_
  refine z_gI zf9_189.g dX9_emit_8 (by decide) rfl ?_
  rw [h16]
  refine z_imul dX9_emit_11 ?_
  refine z_aload_n (i := 0) dX9_emit_12 rfl rfl ?_
  refine z_gI zf9_192.g dX9_emit_13 (by decide) rfl ?_
  rw [h17]
  refine z_iadd dX9_emit_16 ?_
  refine z_top (y := .int (nI (660 * b + k))) (by simp only [zl660, pk_mul, nI_add]) ?_
  refine z_iload_n (i := 1) dX9_emit_17 rfl rfl ?_
  refine z_iast dX9_emit_18 (by decide) rfl (zvin (by omega) (by omega)) ?_
  simp only [zcl (show 660 * b + k ≤ 100000 by omega)]
  refine z_aload_n (i := 0) dX9_emit_19 rfl rfl ?_
  refine z_gR zf9_62.g dX9_emit_20 (by decide) rfl rfl ?_
  refine z_sipush (v := 660) dX9_emit_23 (by decide) ?_
  refine z_aload_n (i := 0) dX9_emit_26 rfl rfl ?_
  refine z_gI zf9_189.g dX9_emit_27 (by decide) rfl ?_
  rw [show zu I 9 (660 * b + k) c 0 16 = nI b from h16]
  refine z_imul dX9_emit_30 ?_
  refine z_aload_n (i := 0) dX9_emit_31 rfl rfl ?_
  refine z_gI zf9_192.g dX9_emit_32 (by decide) rfl ?_
  rw [show zu I 9 (660 * b + k) c 0 17 = nI k from h17]
  refine z_iadd dX9_emit_35 ?_
  refine z_top (y := .int (nI (660 * b + k))) (by simp only [zl660, pk_mul, nI_add]) ?_
  refine z_iload_n (i := 2) dX9_emit_36 rfl rfl ?_
  refine z_iast dX9_emit_37 (by decide) rfl (zvin (by omega) (by omega)) ?_
  simp only [zcl (show 660 * b + k ≤ 100000 by omega)]
  refine z_aload_n (i := 0) dX9_emit_38 rfl rfl ?_
  refine z_dup dX9_emit_39 rfl ?_
  refine z_gI zf9_192.g dX9_emit_40 (by decide) rfl ?_
  rw [show zu (zu I 9 (660 * b + k) c) 10 (660 * b + k) a 0 17 = nI k from h17]
  refine z_iconst (v := 1) dX9_emit_43 (by decide) ?_
  refine z_iadd dX9_emit_44 ?_
  refine z_top (y := .int (nI (k + 1))) (by rw [zl1, nI_add]) ?_
  refine z_putI zf9_192 dX9_emit_45 (fun h => by cases h) (by decide) rfl ?_
  refine z_vret dX9_emit_48 rfl ?_
  subst hQ0
  exact ⟨rfl, rfl⟩
abbrev x9_opens : ZX := (RX9, cX9_opens, 1, none, "opens", 0, 0, false)
set_option maxHeartbeats 4000000 in
theorem c9_opens (I : Nat → Nat → Int32) (L : Nat → Nat → Int64) (d : Nat) (hd : d < 7) (h18 : I 0 18 = nI d) : Zm yX9_opens cX9_opens 1 none 0 0 0 0 [.ref 0] (mh I L) (mQ none (mop3 I d) L) := by
  refine Zm_of (lg := false) (by decide) (fun _ => by simp [Value.category]) (fun _ => Nat.le_of_ble_eq_true rfl) ?_
  show Zf x9_opens 0 0 0 (zargs [.ref 0]) [] (mh I L) _
  generalize hQ0 : (mQ none (mop3 I d) L : Option Value → ZH → Prop) = Q0
  refine z_aload_n (i := 0) dX9_opens_0 rfl rfl ?_
  refine z_gR zf9_65.g dX9_opens_1 (by decide) rfl rfl ?_
  refine z_aload_n (i := 0) dX9_opens_4 rfl rfl ?_
  refine z_gI zf9_209.g dX9_opens_5 (by decide) rfl ?_
  rw [h18]
  refine z_iconst (v := 0) dX9_opens_8 (by decide) ?_
  refine z_iast dX9_opens_9 (by decide) rfl (zvin (by omega) (by omega)) ?_
  simp only [zcl (show d ≤ 100000 by omega)]
  refine z_aload_n (i := 0) dX9_opens_10 rfl rfl ?_
  refine z_gR zf9_68.g dX9_opens_11 (by decide) rfl rfl ?_
  refine z_aload_n (i := 0) dX9_opens_14 rfl rfl ?_
  refine z_gI zf9_209.g dX9_opens_15 (by decide) rfl ?_
  rw [show zu I 11 d 0 0 18 = nI d from h18]
  refine z_iconst (v := 0) dX9_opens_18 (by decide) ?_
  refine z_iast dX9_opens_19 (by decide) rfl (zvin (by omega) (by omega)) ?_
  simp only [zcl (show d ≤ 100000 by omega)]
  refine z_aload_n (i := 0) dX9_opens_20 rfl rfl ?_
  refine z_gR zf9_71.g dX9_opens_21 (by decide) rfl rfl ?_
  refine z_aload_n (i := 0) dX9_opens_24 rfl rfl ?_
  refine z_gI zf9_209.g dX9_opens_25 (by decide) rfl ?_
  rw [show zu (zu I 11 d 0) 12 d 0 0 18 = nI d from h18]
  refine z_iconst (v := 0) dX9_opens_28 (by decide) ?_
  refine z_iast dX9_opens_29 (by decide) rfl (zvin (by omega) (by omega)) ?_
  simp only [zcl (show d ≤ 100000 by omega)]
  refine z_vret dX9_opens_30 rfl ?_
  subst hQ0
  exact ⟨rfl, rfl⟩
/-- the first of the names 4 to 11 that stands there, from name k on -/
def mpw (I : Nat → Nat → Int32) (L : Nat → Nat → Int64) (A : Nat) : Nat → Nat → Int32
  | _, 0 => -1
  | k, m + 1 => if mwd I L A (4 + k) = true then nI k else mpw I L A (k + 1) m
abbrev x9_partWord : ZX := (RX9, cX9_partWord, 2, (some .int), "partWord", 1, 40, false)
set_option maxHeartbeats 4000000 in
theorem l9_partWord {I : Nat → Nat → Int32} {L : Nat → Nat → Int64} {Q : Option Value → ZH → Prop} {A : Nat} (hA : A ≤ 601) (h7 : I 0 7 = nI A) (hQ : Q (some (.int (mpw I L A 0 8))) (mh I L)) : ∀ (m j : Nat), 8 - j < m → j ≤ 8 → mpw I L A j (8 - j) = mpw I L A 0 8 → ∀ ls : Nat → Option Value, ls 0 = some (.ref 0) → ls 1 = some (.int (nI j)) → Zf x9_partWord 0 0 2 ls [] (mh I L) Q := by
  intro m
  induction m with
  | zero => intro j h; omega
  | succ m ih =>
  intro j hm hj hv ls hl0 hl1
  refine z_iload_n (i := 1) dX9_partWord_2 rfl hl1 ?_
  refine z_bipush (v := 8) dX9_partWord_3 (by decide) ?_
  rw [zl8]
  refine z_icmp_ge 26 dX9_partWord_5 (by decide) (fun c_1 => ?_) (fun c_1 => ?_)
  · skip
    refine z_iconst (v := (-1)) dX9_partWord_26 (by decide) ?_
    refine z_iret dX9_partWord_27 rfl ?_
    have h1 := (zle (by omega) (by omega)).mp c_1
    rw [show 8 - j = 0 by omega] at hv
    rw [show (-1 : Int32) = mpw I L A 0 8 from hv]
    exact hQ
  · skip
    have h1 : ¬ 8 ≤ j := fun q => c_1 ((zle (by omega) (by omega)).mpr q)
    have hs : mpw I L A j (8 - j) = if mwd I L A (4 + j) = true then nI j else mpw I L A (j + 1) (8 - (j + 1)) := by rw [show 8 - j = (8 - (j + 1)) + 1 by omega]; rfl
    refine z_aload_n (i := 0) dX9_partWord_8 rfl hl0 ?_
    refine z_iconst (v := 4) dX9_partWord_9 (by decide) ?_
    refine z_iload_n (i := 1) dX9_partWord_10 rfl hl1 ?_
    refine z_iadd dX9_partWord_11 ?_
    refine z_top (y := .int (nI (4 + j))) (by rw [zl4, nI_add]) ?_
    refine z_callV (st := []) (mc2 := 0) (ms2 := 0) zi9_183 zv_yX9_isWord (c9_isWord _ _ (4 + j) (by omega) A hA h7) dX9_partWord_12 (show (0 : Nat) < 35 by decide) rfl rfl rfl rfl (by decide) (by decide) (Nat.le_of_ble_eq_true rfl) (by decide) (by decide) (fun r h2 hq => ?_)
    obtain ⟨rfl, rfl⟩ := hq
    refine z_if_eq 20 dX9_partWord_15 (by decide) (fun c_2 => ?_) (fun c_2 => ?_)
    · skip
      refine z_iinc dX9_partWord_20 hl1 rfl ?_
      refine z_goto 2 dX9_partWord_23 (by decide) ?_
      have h := (zb_0 _).mp c_2
      rw [if_neg (by rw [h]; decide)] at hs
      rw [zinc]
      exact ih (j + 1) (by omega) (by omega) (by rw [← hs, hv]) _ hl0 rfl
    · skip
      refine z_iload_n (i := 1) dX9_partWord_18 rfl hl1 ?_
      refine z_iret dX9_partWord_19 rfl ?_
      rw [if_pos ((zb_n _).mp c_2)] at hs
      rw [← hs, hv]
      exact hQ
set_option maxHeartbeats 4000000 in
theorem c9_partWord (I : Nat → Nat → Int32) (L : Nat → Nat → Int64) (A : Nat) (hA : A ≤ 601) (h7 : I 0 7 = nI A) : Zm yX9_partWord cX9_partWord 2 (some .int) 1 40 0 0 [.ref 0] (mh I L) (mQ (some (.int (mpw I L A 0 8))) I L) := by
  refine Zm_of (lg := false) (by decide) (fun _ => by simp [Value.category]) (fun _ => Nat.le_of_ble_eq_true rfl) ?_
  show Zf x9_partWord 0 0 0 (zargs [.ref 0]) [] (mh I L) _
  refine z_iconst (v := 0) dX9_partWord_0 (by decide) ?_
  refine z_istore_n (i := 1) dX9_partWord_1 rfl (by decide) rfl ?_
  exact l9_partWord hA h7 ⟨rfl, rfl⟩ 9 0 (by omega) (by omega) rfl _ rfl rfl
