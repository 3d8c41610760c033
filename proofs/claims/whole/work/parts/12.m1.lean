theorem zl0 : (0 : Int32) = nI 0 := rfl
theorem zl1 : (1 : Int32) = nI 1 := rfl
theorem zl2 : (2 : Int32) = nI 2 := rfl
theorem zl3 : (3 : Int32) = nI 3 := rfl
theorem zl4 : (4 : Int32) = nI 4 := rfl
theorem zl5 : (5 : Int32) = nI 5 := rfl
theorem zl6 : (6 : Int32) = nI 6 := rfl
theorem zl7 : (7 : Int32) = nI 7 := rfl
theorem zl8 : (8 : Int32) = nI 8 := rfl
theorem zl9 : (9 : Int32) = nI 9 := rfl
theorem zl10 : (10 : Int32) = nI 10 := rfl
theorem zl15 : (15 : Int32) = nI 15 := rfl
theorem zl16 : (16 : Int32) = nI 16 := rfl
theorem zl20 : (20 : Int32) = nI 20 := rfl
theorem zl21 : (21 : Int32) = nI 21 := rfl
theorem zl24 : (24 : Int32) = nI 24 := rfl
theorem zl26 : (26 : Int32) = nI 26 := rfl
theorem zl28 : (28 : Int32) = nI 28 := rfl
theorem zl31 : (31 : Int32) = nI 31 := rfl
theorem zl32 : (32 : Int32) = nI 32 := rfl
theorem zl37 : (37 : Int32) = nI 37 := rfl
theorem zl48 : (48 : Int32) = nI 48 := rfl
theorem zl50 : (50 : Int32) = nI 50 := rfl
theorem zl56 : (56 : Int32) = nI 56 := rfl
theorem zl60 : (60 : Int32) = nI 60 := rfl
theorem zl97 : (97 : Int32) = nI 97 := rfl
theorem zl96 : (96 : Int32) = nI 96 := rfl
theorem zl122 : (122 : Int32) = nI 122 := rfl
theorem zl126 : (126 : Int32) = nI 126 := rfl
theorem zl255 : (255 : Int32) = nI 255 := rfl
theorem zl356 : (356 : Int32) = nI 356 := rfl
theorem zl357 : (357 : Int32) = nI 357 := rfl
theorem zl600 : (600 : Int32) = nI 600 := rfl
theorem zl602 : (602 : Int32) = nI 602 := rfl
theorem zl660 : (660 : Int32) = nI 660 := rfl
theorem zl800 : (800 : Int32) = nI 800 := rfl
theorem zl1000 : (1000 : Int32) = nI 1000 := rfl
theorem zl2000 : (2000 : Int32) = nI 2000 := rfl
theorem zinc (a : Nat) : nI a + Int32.ofInt 1 = nI (a + 1) := by rw [show Int32.ofInt 1 = (1 : Int32) by decide]; exact nI_1 a
theorem zclamp {n : Nat} (h : n < 2 ^ 31) : (nI n).toNatClampNeg = n := nI_clamp h
abbrev x9_thrown : ZX := (RX9, cX9_thrown, 1, (some .int), "thrown", 0, 0, false)
set_option maxHeartbeats 4000000 in
theorem c9_thrown (I : Nat → Nat → Int32) (L : Nat → Nat → Int64) : Zm yX9_thrown cX9_thrown 1 (some .int) 0 0 0 0 [.ref 0] (mh I L) (mQ (some (.int (I 0 0))) I L) := by
  refine Zm_of (lg := false) (by decide) (fun _ => by simp [Value.category]) (fun _ => Nat.le_of_ble_eq_true rfl) ?_
  show Zf x9_thrown 0 0 0 (zargs [.ref 0]) [] (mh I L) _
  refine z_aload_n dX9_thrown_0 rfl rfl ?_
  refine z_gI zf9_137.g dX9_thrown_1 (by decide) rfl ?_
  refine z_iret dX9_thrown_4 rfl ?_
  exact ⟨rfl, rfl⟩
abbrev x9_isPitch : ZX := (RX9, cX9_isPitch, 2, (some .boolean), "isPitch", 0, 0, false)
set_option maxHeartbeats 4000000 in
theorem c9_isPitch (I : Nat → Nat → Int32) (L : Nat → Nat → Int64) (p : Int32) : Zm yX9_isPitch cX9_isPitch 2 (some .boolean) 0 0 0 0 [.ref 0, .int p] (mh I L) (mQ (some (.int (if p < 0 then 0 else if I 0 24 ≤ p then 0 else 1))) I L) := by
  refine Zm_of (lg := false) (by decide) (fun _ => by simp [Value.category]) (fun _ => Nat.le_of_ble_eq_true rfl) ?_
  show Zf x9_isPitch 0 0 0 (zargs [.ref 0, .int p]) [] (mh I L) _
  refine z_iload_n dX9_isPitch_0 rfl rfl ?_
  refine z_if_lt 16 dX9_isPitch_1 (by decide) (fun c_1 => ?_) (fun c_1 => ?_)
  · skip
    refine z_iconst (v := 0) dX9_isPitch_16 (by decide) ?_
    refine z_zret dX9_isPitch_17 rfl (by decide) ?_
    exact ⟨by simp [*], by simp [*]⟩
  · skip
    refine z_iload_n dX9_isPitch_4 rfl rfl ?_
    refine z_aload_n dX9_isPitch_5 rfl rfl ?_
    refine z_gI zf9_236.g dX9_isPitch_6 (by decide) rfl ?_
    refine z_icmp_ge 16 dX9_isPitch_9 (by decide) (fun c_2 => ?_) (fun c_2 => ?_)
    · skip
      refine z_iconst (v := 0) dX9_isPitch_16 (by decide) ?_
      refine z_zret dX9_isPitch_17 rfl (by decide) ?_
      exact ⟨by simp [*], by simp [*]⟩
    · skip
      refine z_iconst (v := 1) dX9_isPitch_12 (by decide) ?_
      refine z_goto 17 dX9_isPitch_13 (by decide) ?_
      refine z_zret dX9_isPitch_17 rfl (by decide) ?_
      exact ⟨by simp [*], by simp [*]⟩
abbrev x9_isLetter : ZX := (RX9, cX9_isLetter, 1, (some .boolean), "isLetter", 0, 0, false)
set_option maxHeartbeats 4000000 in
theorem c9_isLetter (I : Nat → Nat → Int32) (L : Nat → Nat → Int64) (c : Int32) : Zm yX9_isLetter cX9_isLetter 1 (some .boolean) 0 0 0 0 [.int c] (mh I L) (mQ (some (.int (if c < 97 then 0 else if 122 < c then 0 else 1))) I L) := by
  refine Zm_of (lg := false) (by decide) (fun _ => by simp [Value.category]) (fun _ => Nat.le_of_ble_eq_true rfl) ?_
  show Zf x9_isLetter 0 0 0 (zargs [.int c]) [] (mh I L) _
  refine z_iload_n dX9_isLetter_0 rfl rfl ?_
  refine z_bipush (v := 97) dX9_isLetter_1 (by decide) ?_
  refine z_icmp_lt 16 dX9_isLetter_3 (by decide) (fun c_1 => ?_) (fun c_1 => ?_)
  · skip
    refine z_iconst (v := 0) dX9_isLetter_16 (by decide) ?_
    refine z_zret dX9_isLetter_17 rfl (by decide) ?_
    exact ⟨by simp [*], by simp [*]⟩
  · skip
    refine z_iload_n dX9_isLetter_6 rfl rfl ?_
    refine z_bipush (v := 122) dX9_isLetter_7 (by decide) ?_
    refine z_icmp_gt 16 dX9_isLetter_9 (by decide) (fun c_2 => ?_) (fun c_2 => ?_)
    · skip
      refine z_iconst (v := 0) dX9_isLetter_16 (by decide) ?_
      refine z_zret dX9_isLetter_17 rfl (by decide) ?_
      exact ⟨by simp [*], by simp [*]⟩
    · skip
      refine z_iconst (v := 1) dX9_isLetter_12 (by decide) ?_
      refine z_goto 17 dX9_isLetter_13 (by decide) ?_
      refine z_zret dX9_isLetter_17 rfl (by decide) ?_
      exact ⟨by simp [*], by simp [*]⟩
abbrev x9_isDigit : ZX := (RX9, cX9_isDigit, 1, (some .boolean), "isDigit", 0, 0, false)
set_option maxHeartbeats 4000000 in
theorem c9_isDigit (I : Nat → Nat → Int32) (L : Nat → Nat → Int64) (c : Int32) : Zm yX9_isDigit cX9_isDigit 1 (some .boolean) 0 0 0 0 [.int c] (mh I L) (mQ (some (.int (if c < 48 then 0 else if 57 < c then 0 else 1))) I L) := by
  refine Zm_of (lg := false) (by decide) (fun _ => by simp [Value.category]) (fun _ => Nat.le_of_ble_eq_true rfl) ?_
  show Zf x9_isDigit 0 0 0 (zargs [.int c]) [] (mh I L) _
  refine z_iload_n dX9_isDigit_0 rfl rfl ?_
  refine z_bipush (v := 48) dX9_isDigit_1 (by decide) ?_
  refine z_icmp_lt 16 dX9_isDigit_3 (by decide) (fun c_1 => ?_) (fun c_1 => ?_)
  · skip
    refine z_iconst (v := 0) dX9_isDigit_16 (by decide) ?_
    refine z_zret dX9_isDigit_17 rfl (by decide) ?_
    exact ⟨by simp [*], by simp [*]⟩
  · skip
    refine z_iload_n dX9_isDigit_6 rfl rfl ?_
    refine z_bipush (v := 57) dX9_isDigit_7 (by decide) ?_
    refine z_icmp_gt 16 dX9_isDigit_9 (by decide) (fun c_2 => ?_) (fun c_2 => ?_)
    · skip
      refine z_iconst (v := 0) dX9_isDigit_16 (by decide) ?_
      refine z_zret dX9_isDigit_17 rfl (by decide) ?_
      exact ⟨by simp [*], by simp [*]⟩
    · skip
      refine z_iconst (v := 1) dX9_isDigit_12 (by decide) ?_
      refine z_goto 17 dX9_isDigit_13 (by decide) ?_
      refine z_zret dX9_isDigit_17 rfl (by decide) ?_
      exact ⟨by simp [*], by simp [*]⟩
abbrev x9_wrong : ZX := (RX9, cX9_wrong, 2, none, "wrong", 0, 0, false)
set_option maxHeartbeats 4000000 in
theorem c9_wrong (I : Nat → Nat → Int32) (L : Nat → Nat → Int64) (w : Int32) (h7 : vp_in (I 0 7) 602) : Zm yX9_wrong cX9_wrong 2 none 0 0 0 0 [.ref 0, .int w] (mh I L) (mQ none (if I 0 8 = 0 then zu I 0 8 (w + 16 * I 3 (I 0 7).toNatClampNeg) else I) L) := by
  refine Zm_of (lg := false) (by decide) (fun _ => by simp [Value.category]) (fun _ => Nat.le_of_ble_eq_true rfl) ?_
  show Zf x9_wrong 0 0 0 (zargs [.ref 0, .int w]) [] (mh I L) _
  refine z_aload_n dX9_wrong_0 rfl rfl ?_
  refine z_gI zf9_173.g dX9_wrong_1 (by decide) rfl ?_
  refine z_if_ne 25 dX9_wrong_4 (by decide) (fun c_1 => ?_) (fun c_1 => ?_)
  · skip
    refine z_vret dX9_wrong_25 rfl ?_
    exact ⟨by simp [*], by simp [*]⟩
  · skip
    refine z_aload_n dX9_wrong_7 rfl rfl ?_
    refine z_iload_n dX9_wrong_8 rfl rfl ?_
    refine z_bipush (v := 16) dX9_wrong_9 (by decide) ?_
    refine z_aload_n dX9_wrong_11 rfl rfl ?_
    refine z_gR zf9_16.g dX9_wrong_12 (by decide) rfl rfl ?_
    refine z_aload_n dX9_wrong_15 rfl rfl ?_
    refine z_gI zf9_170.g dX9_wrong_16 (by decide) rfl ?_
    refine z_iald dX9_wrong_19 (by decide) rfl (by assumption) ?_
    refine z_imul dX9_wrong_20 ?_
    refine z_iadd dX9_wrong_21 ?_
    refine z_putI zf9_173 dX9_wrong_22 (fun h => by cases h) (by decide) rfl ?_
    refine z_vret dX9_wrong_25 rfl ?_
    exact ⟨by simp [*], by simp [*]⟩
def mleast (f : Nat → Int32) : Nat → Int32
  | 0 => 1000
  | k + 1 => if f k < mleast f k then f k else mleast f k
def msum (f : Nat → Int32) : Nat → Int32
  | 0 => 0
  | k + 1 => msum f k + f k
abbrev x9_leastOf : ZX := (RX9, cX9_leastOf, 4, (some .int), "leastOf", 0, 0, false)
set_option maxHeartbeats 4000000 in
theorem l9_leastOf {I : Nat → Nat → Int32} {L : Nat → Nat → Int64} {Q : Option Value → ZH → Prop} {A p : Nat} (hA : A < 35) (hKA : mK A = (0, 144)) (hp : p < 6) (hQ : Q (some (.int (mleast (fun k => I A (24 * p + k)) 24))) (mh I L)) : ∀ (m j : Nat), 24 - j < m → j ≤ 24 → ∀ ls : Nat → Option Value, ls 0 = some (.ref A) → ls 1 = some (.int (nI p)) → ls 2 = some (.int (mleast (fun k => I A (24 * p + k)) j)) → ls 3 = some (.int (nI (24 * p + j))) → Zf x9_leastOf 0 0 9 ls [] (mh I L) Q := by
  intro m
  induction m with
  | zero => intro j h; omega
  | succ m ih =>
  intro j hm hj ls hl0 hl1 hl2 hl3
  refine z_iload_n dX9_leastOf_9 rfl hl3 ?_
  refine z_bipush (v := 24) dX9_leastOf_10 (by decide) ?_
  refine z_iload_n dX9_leastOf_12 rfl hl1 ?_
  refine z_imul dX9_leastOf_13 ?_
  refine z_bipush (v := 24) dX9_leastOf_14 (by decide) ?_
  refine z_iadd dX9_leastOf_16 ?_
  simp only [zl24, pk_mul, nI_add]
  refine z_icmp_ge 41 dX9_leastOf_17 (by decide) (fun c_1 => ?_) (fun c_1 => ?_)
  · skip
    have h1 := (nI_leI (by omega) (by omega)).mp c_1
    have h2 : j = 24 := by omega
    subst h2
    refine z_iload_n dX9_leastOf_41 rfl hl2 ?_
    refine z_iret dX9_leastOf_42 rfl ?_
    exact hQ
  · skip
    have h1 : ¬ 24 * p + 24 ≤ 24 * p + j := fun q => c_1 ((nI_leI (by omega) (by omega)).mpr q)
    refine z_aload_n dX9_leastOf_20 rfl hl0 ?_
    refine z_iload_n dX9_leastOf_21 rfl hl3 ?_
    refine z_iald dX9_leastOf_22 hA hKA (vp_in_nI (by omega) (by omega)) ?_
    refine z_iload_n dX9_leastOf_23 rfl hl2 ?_
    rw [zclamp (show 24 * p + j < 2 ^ 31 by omega)]
    refine z_icmp_ge 33 dX9_leastOf_24 (by decide) (fun c_2 => ?_) (fun c_2 => ?_)
    · skip
      refine z_iload_n dX9_leastOf_33 rfl hl2 ?_
      refine z_istore_n dX9_leastOf_34 rfl (by decide) rfl ?_
      refine z_iinc dX9_leastOf_35 hl3 rfl ?_
      refine z_goto 9 dX9_leastOf_38 (by decide) ?_
      rw [zinc]
      refine ih (j + 1) (by omega) (by omega) _ hl0 hl1 ?_ rfl
      show some (Value.int _) = some (Value.int (if _ then _ else _))
      first | rw [if_pos (Int32.not_le.mp c_2)] | rw [if_neg (Int32.not_lt.mpr c_2)]
    · skip
      refine z_aload_n dX9_leastOf_27 rfl hl0 ?_
      refine z_iload_n dX9_leastOf_28 rfl hl3 ?_
      refine z_iald dX9_leastOf_29 hA hKA (vp_in_nI (by omega) (by omega)) ?_
      rw [zclamp (show 24 * p + j < 2 ^ 31 by omega)]
      refine z_goto 34 dX9_leastOf_30 (by decide) ?_
      refine z_istore_n dX9_leastOf_34 rfl (by decide) rfl ?_
      refine z_iinc dX9_leastOf_35 hl3 rfl ?_
      refine z_goto 9 dX9_leastOf_38 (by decide) ?_
      rw [zinc]
      refine ih (j + 1) (by omega) (by omega) _ hl0 hl1 ?_ rfl
      show some (Value.int _) = some (Value.int (if _ then _ else _))
      first | rw [if_pos (Int32.not_le.mp c_2)] | rw [if_neg (Int32.not_lt.mpr c_2)]
set_option maxHeartbeats 4000000 in
theorem c9_leastOf (I : Nat → Nat → Int32) (L : Nat → Nat → Int64) (A p : Nat) (hA : A < 35) (hKA : mK A = (0, 144)) (hp : p < 6) : Zm yX9_leastOf cX9_leastOf 4 (some .int) 0 0 0 0 [.ref A, .int (nI p)] (mh I L) (mQ (some (.int (mleast (fun k => I A (24 * p + k)) 24))) I L) := by
  refine Zm_of (lg := false) (by decide) (fun _ => by simp [Value.category]) (fun _ => Nat.le_of_ble_eq_true rfl) ?_
  show Zf x9_leastOf 0 0 0 (zargs [.ref A, .int (nI p)]) [] (mh I L) _
  refine z_sipush (v := 1000) dX9_leastOf_0 (by decide) ?_
  refine z_istore_n dX9_leastOf_3 rfl (by decide) rfl ?_
  refine z_bipush (v := 24) dX9_leastOf_4 (by decide) ?_
  refine z_iload_n dX9_leastOf_6 rfl rfl ?_
  refine z_imul dX9_leastOf_7 ?_
  simp only [zl24, pk_mul]
  refine z_istore_n dX9_leastOf_8 rfl (by decide) rfl ?_
  exact l9_leastOf hA hKA hp ⟨rfl, rfl⟩ 25 0 (by omega) (by omega) _ rfl rfl rfl rfl
abbrev x9_meanOf : ZX := (RX9, cX9_meanOf, 4, (some .int), "meanOf", 0, 0, false)
set_option maxHeartbeats 4000000 in
theorem l9_meanOf {I : Nat → Nat → Int32} {L : Nat → Nat → Int64} {Q : Option Value → ZH → Prop} {A p : Nat} (hA : A < 35) (hKA : mK A = (0, 144)) (hp : p < 6) (hQ : Q (some (.int (msum (fun k => I A (24 * p + k)) 24 / 24))) (mh I L)) : ∀ (m j : Nat), 24 - j < m → j ≤ 24 → ∀ ls : Nat → Option Value, ls 0 = some (.ref A) → ls 1 = some (.int (nI p)) → ls 2 = some (.int (msum (fun k => I A (24 * p + k)) j)) → ls 3 = some (.int (nI (24 * p + j))) → Zf x9_meanOf 0 0 7 ls [] (mh I L) Q := by
  intro m
  induction m with
  | zero => intro j h; omega
  | succ m ih =>
  intro j hm hj ls hl0 hl1 hl2 hl3
  refine z_iload_n dX9_meanOf_7 rfl hl3 ?_
  refine z_bipush (v := 24) dX9_meanOf_8 (by decide) ?_
  refine z_iload_n dX9_meanOf_10 rfl hl1 ?_
  refine z_imul dX9_meanOf_11 ?_
  refine z_bipush (v := 24) dX9_meanOf_12 (by decide) ?_
  refine z_iadd dX9_meanOf_14 ?_
  simp only [zl24, pk_mul, nI_add]
  refine z_icmp_ge 30 dX9_meanOf_15 (by decide) (fun c_1 => ?_) (fun c_1 => ?_)
  · skip
    have h1 := (nI_leI (by omega) (by omega)).mp c_1
    have h2 : j = 24 := by omega
    subst h2
    refine z_iload_n dX9_meanOf_30 rfl hl2 ?_
    refine z_bipush (v := 24) dX9_meanOf_31 (by decide) ?_
    refine z_idiv dX9_meanOf_33 (by decide) ?_
    refine z_iret dX9_meanOf_34 rfl ?_
    exact hQ
  · skip
    have h1 : ¬ 24 * p + 24 ≤ 24 * p + j := fun q => c_1 ((nI_leI (by omega) (by omega)).mpr q)
    refine z_iload_n dX9_meanOf_18 rfl hl2 ?_
    refine z_aload_n dX9_meanOf_19 rfl hl0 ?_
    refine z_iload_n dX9_meanOf_20 rfl hl3 ?_
    refine z_iald dX9_meanOf_21 hA hKA (vp_in_nI (by omega) (by omega)) ?_
    rw [zclamp (show 24 * p + j < 2 ^ 31 by omega)]
    refine z_iadd dX9_meanOf_22 ?_
    refine z_istore_n dX9_meanOf_23 rfl (by decide) rfl ?_
    refine z_iinc dX9_meanOf_24 hl3 rfl ?_
    refine z_goto 7 dX9_meanOf_27 (by decide) ?_
    rw [zinc]
    exact ih (j + 1) (by omega) (by omega) _ hl0 hl1 rfl rfl
set_option maxHeartbeats 4000000 in
theorem c9_meanOf (I : Nat → Nat → Int32) (L : Nat → Nat → Int64) (A p : Nat) (hA : A < 35) (hKA : mK A = (0, 144)) (hp : p < 6) : Zm yX9_meanOf cX9_meanOf 4 (some .int) 0 0 0 0 [.ref A, .int (nI p)] (mh I L) (mQ (some (.int (msum (fun k => I A (24 * p + k)) 24 / 24))) I L) := by
  refine Zm_of (lg := false) (by decide) (fun _ => by simp [Value.category]) (fun _ => Nat.le_of_ble_eq_true rfl) ?_
  show Zf x9_meanOf 0 0 0 (zargs [.ref A, .int (nI p)]) [] (mh I L) _
  refine z_iconst (v := 0) dX9_meanOf_0 (by decide) ?_
  refine z_istore_n dX9_meanOf_1 rfl (by decide) rfl ?_
  refine z_bipush (v := 24) dX9_meanOf_2 (by decide) ?_
  refine z_iload_n dX9_meanOf_4 rfl rfl ?_
  refine z_imul dX9_meanOf_5 ?_
  simp only [zl24, pk_mul]
  refine z_istore_n dX9_meanOf_6 rfl (by decide) rfl ?_
  exact l9_meanOf hA hKA hp ⟨rfl, rfl⟩ 25 0 (by omega) (by omega) _ rfl rfl rfl rfl
