def mok (I : Nat → Nat → Int32) (P G D : Nat) : Prop := P ≤ 6 ∧ G ≤ 60 ∧ D ≤ 357 ∧ I 0 24 = nI P ∧ I 0 35 = nI G ∧ I 0 34 = nI D ∧ (∀ g, g < G → ∃ W, W ≤ 50 ∧ I 29 g = nI W) ∧ ∀ g, g < G → I 31 g = 0 → I 32 g = -1
theorem mok_lays {I : Nat → Nat → Int32} {P G D : Nat} (h : mok I P G D) (g : Nat) (s : Int32) : mok (mlays I g s) P G D := by
  obtain ⟨h1, h2, h3, h4, h5, h6, h7, h8⟩ := h
  refine ⟨h1, h2, h3, h4, h5, h6, h7, fun q hq h0 => ?_⟩
  unfold mlays at h0 ⊢
  rw [zu_apply, if_neg (by omega), zu_apply] at h0
  rw [zu_apply]
  by_cases e : q = g
  · rw [if_pos ⟨rfl, e⟩] at h0
    exact absurd h0 (by decide)
  · rw [if_neg (by omega)] at h0
    rw [if_neg (by omega), zu_apply, if_neg (by omega)]
    exact h8 q hq h0
theorem mok_unl {I : Nat → Nat → Int32} {P G D : Nat} (h : mok I P G D) (g : Nat) : mok (munl I g) P G D := by
  obtain ⟨h1, h2, h3, h4, h5, h6, h7, h8⟩ := h
  refine ⟨h1, h2, h3, h4, h5, h6, h7, fun q hq h0 => ?_⟩
  unfold munl at h0 ⊢
  rw [zu_apply, if_neg (by omega), zu_apply] at h0
  rw [zu_apply]
  by_cases e : q = g
  · rw [if_pos ⟨rfl, e⟩]
  · rw [if_neg (by omega)] at h0
    rw [if_neg (by omega), zu_apply, if_neg (by omega)]
    exact h8 q hq h0
theorem mok_gw {I J : Nat → Nat → Int32} {P G D k g : Nat} (h : mok I P G D) (e : mgw I P G D k g = some J) : mok J P G D := by
  unfold mgw at e
  split at e
  · cases e
  · split at e
    · cases e
    · cases e
      exact mok_lays (mok_lays (mok_unl h k) _ _) _ _
theorem mok_lk {I J : Nat → Nat → Int32} {P G D g : Nat} (h : mok I P G D) : ∀ (m k : Nat), mlk I P G D g k m = some J → mok J P G D
  | 0, k, e => by cases e
  | m + 1, k, e => by
    unfold mlk at e
    split at e
    · split at e
      · cases e
        exact mok_gw h (by assumption)
      · exact mok_lk h m _ e
    · exact mok_lk h m _ e
theorem mok_lo {I J : Nat → Nat → Int32} {P G D g : Nat} (h : mok I P G D) (e : mlo I P G D g = some J) : mok J P G D := by
  unfold mlo at e
  split at e
  · exact mok_lk h _ _ e
  · cases e
    exact mok_lays h _ _
def mlayG (P G D : Nat) (w r : Int32) (x : (Nat → Nat → Int32) × Int32) : Nat → (Nat → Nat → Int32) × Int32
  | 0 => x
  | j + 1 => if (mlayG P G D w r x j).1 31 j = 0 ∧ (mlayG P G D w r x j).1 29 j = w ∧ (mlayG P G D w r x j).1 28 j = r then (match mlo (mlayG P G D w r x j).1 P G D j with
    | some J => (J, (mlayG P G D w r x j).2)
    | none => ((mlayG P G D w r x j).1, (mlayG P G D w r x j).2 + 1)) else mlayG P G D w r x j
def mlayR (P G D : Nat) (w : Int32) (x : (Nat → Nat → Int32) × Int32) : Nat → (Nat → Nat → Int32) × Int32
  | 0 => x
  | i + 1 => mlayG P G D w (9 - nI i) (mlayR P G D w x i) G
theorem mok_layG {P G D : Nat} {w r : Int32} {x : (Nat → Nat → Int32) × Int32} (h : mok x.1 P G D) : ∀ j, mok (mlayG P G D w r x j).1 P G D
  | 0 => h
  | j + 1 => by
    unfold mlayG
    split
    · split
      · exact mok_lo (mok_layG h j) (by assumption)
      · exact mok_layG h j
    · exact mok_layG h j
theorem mok_layR {P G D : Nat} {w : Int32} {x : (Nat → Nat → Int32) × Int32} (h : mok x.1 P G D) : ∀ i, mok (mlayR P G D w x i).1 P G D
  | 0 => h
  | i + 1 => mok_layG (mok_layR h i) G
theorem mr_lt : ∀ i, i ≤ 10 → ((9 - nI i < 0) ↔ i = 10) := by decide +kernel
theorem mr_dec (i : Nat) : (9 - nI i) + Int32.ofInt (-1) = 9 - nI (i + 1) := by
  rw [show Int32.ofInt (-1) = -(1 : Int32) by decide, nI_succ, ← Int32.sub_eq_add_neg, Int32.sub_sub]
theorem zinc1 (x : Int32) : x + Int32.ofInt 1 = x + 1 := by rw [show Int32.ofInt 1 = (1 : Int32) by decide]
abbrev x9_lay_ : ZX := (RX9, cX9_lay_, 5, (some .int), "lay", 6, 240, false)
set_option maxHeartbeats 4000000 in
theorem l9_layG {L : Nat → Nat → Int64} {Q : Option Value → ZH → Prop} {P G D : Nat} {w r : Int32} {x : (Nat → Nat → Int32) × Int32} (ok : mok x.1 P G D) (hx : ∀ ls : Nat → Option Value, ls 0 = some (.ref 0) → ls 1 = some (.int w) → ls 2 = some (.int (mlayG P G D w r x G).2) → ls 3 = some (.int r) → Zf x9_lay_ 0 0 86 ls [] (mh (mlayG P G D w r x G).1 L) Q) : ∀ (m j : Nat), G - j < m → j ≤ G → ∀ ls : Nat → Option Value, ls 0 = some (.ref 0) → ls 1 = some (.int w) → ls 2 = some (.int (mlayG P G D w r x j).2) → ls 3 = some (.int r) → ls 4 = some (.int (nI j)) → Zf x9_lay_ 0 0 27 ls [] (mh (mlayG P G D w r x j).1 L) Q := by
  intro m
  induction m with
  | zero => intro j h; omega
  | succ m ih =>
  intro j hm hj ls hl0 hl1 hl2 hl3 hl4
  have ok2 := mok_layG (w := w) (r := r) ok j
  have hs : mlayG P G D w r x (j + 1) = if (mlayG P G D w r x j).1 31 j = 0 ∧ (mlayG P G D w r x j).1 29 j = w ∧ (mlayG P G D w r x j).1 28 j = r then (match mlo (mlayG P G D w r x j).1 P G D j with | some J => (J, (mlayG P G D w r x j).2) | none => ((mlayG P G D w r x j).1, (mlayG P G D w r x j).2 + 1)) else mlayG P G D w r x j := rfl
  have hfin : j = G → mlayG P G D w r x j = mlayG P G D w r x G := fun e => by rw [e]
  generalize mlayG P G D w r x j = y at ok2 hs hl2 hfin ⊢
  obtain ⟨J, lf⟩ := y
  dsimp only at ok2 hs hl2 hfin ⊢
  obtain ⟨hP, hG, hD, h24, h35, h34, hw, hn⟩ := id ok2
  refine z_iload dX9_lay__27 hl4 ?_
  refine z_aload_n (i := 0) dX9_lay__29 rfl hl0 ?_
  refine z_gI zf9_253.g dX9_lay__30 (by decide) rfl ?_
  rw [h35]
  refine z_icmp_ge 86 dX9_lay__33 (by decide) (fun c_1 => ?_) (fun c_1 => ?_)
  · skip
    have h1 := (zle (by omega) (by omega)).mp c_1
    have e := hfin (by omega)
    have hx2 := hx ls hl0 hl1 (by rw [← e]; exact hl2) hl3
    rw [← e] at hx2
    exact hx2
  · skip
    have h1 : ¬ G ≤ j := fun q => c_1 ((zle (by omega) (by omega)).mpr q)
    refine z_aload_n (i := 0) dX9_lay__36 rfl hl0 ?_
    refine z_gR zf9_125.g dX9_lay__37 (by decide) rfl rfl ?_
    refine z_iload dX9_lay__40 hl4 ?_
    refine z_iald dX9_lay__42 (by decide) rfl (zvin (by omega) (by omega)) ?_
    rw [zcl (by omega)]
    refine z_if_ne 80 dX9_lay__43 (by decide) (fun c_2 => ?_) (fun c_2 => ?_)
    · skip
      refine z_iinc dX9_lay__80 hl4 rfl ?_
      refine z_goto 27 dX9_lay__83 (by decide) ?_
      rw [if_neg (fun h => c_2 h.1)] at hs
      rw [zinc]
      have h9 := ih (j + 1) (by omega) (by omega) (va_up ls 4 (some (Value.int (nI (j + 1))))) hl0 hl1 (by rw [hs]; exact hl2) hl3 rfl
      rw [hs] at h9
      exact h9
    · skip
      refine z_aload_n (i := 0) dX9_lay__46 rfl hl0 ?_
      refine z_gR zf9_119.g dX9_lay__47 (by decide) rfl rfl ?_
      refine z_iload dX9_lay__50 hl4 ?_
      refine z_iald dX9_lay__52 (by decide) rfl (zvin (by omega) (by omega)) ?_
      rw [zcl (by omega)]
      refine z_iload_n (i := 1) dX9_lay__53 rfl hl1 ?_
      refine z_icmp_ne 80 dX9_lay__54 (by decide) (fun c_3 => ?_) (fun c_3 => ?_)
      · skip
        refine z_iinc dX9_lay__80 hl4 rfl ?_
        refine z_goto 27 dX9_lay__83 (by decide) ?_
        rw [if_neg (fun h => c_3 h.2.1)] at hs
        rw [zinc]
        have h9 := ih (j + 1) (by omega) (by omega) (va_up ls 4 (some (Value.int (nI (j + 1))))) hl0 hl1 (by rw [hs]; exact hl2) hl3 rfl
        rw [hs] at h9
        exact h9
      · skip
        refine z_aload_n (i := 0) dX9_lay__57 rfl hl0 ?_
        refine z_gR zf9_116.g dX9_lay__58 (by decide) rfl rfl ?_
        refine z_iload dX9_lay__61 hl4 ?_
        refine z_iald dX9_lay__63 (by decide) rfl (zvin (by omega) (by omega)) ?_
        rw [zcl (by omega)]
        refine z_iload_n (i := 3) dX9_lay__64 rfl hl3 ?_
        refine z_icmp_ne 80 dX9_lay__65 (by decide) (fun c_4 => ?_) (fun c_4 => ?_)
        · skip
          refine z_iinc dX9_lay__80 hl4 rfl ?_
          refine z_goto 27 dX9_lay__83 (by decide) ?_
          rw [if_neg (fun h => c_4 h.2.2)] at hs
          rw [zinc]
          have h9 := ih (j + 1) (by omega) (by omega) (va_up ls 4 (some (Value.int (nI (j + 1))))) hl0 hl1 (by rw [hs]; exact hl2) hl3 rfl
          rw [hs] at h9
          exact h9
        · skip
          refine z_aload_n (i := 0) dX9_lay__68 rfl hl0 ?_
          refine z_iload dX9_lay__69 hl4 ?_
          refine z_callV (st := []) (mc2 := 0) (ms2 := 0) zi9_279 zv_yX9_laysOne (c9_laysOne J L P G D hP hG hD h24 h35 h34 j hw (by omega) c_2 (hn j (by omega) c_2)) dX9_lay__71 (show (0 : Nat) < 35 by decide) rfl rfl rfl rfl (by decide) (by decide) (Nat.le_of_ble_eq_true rfl) (by decide) (by decide) (fun r h2 hq => ?_)
          obtain ⟨rfl, rfl⟩ := hq
          rw [if_pos ⟨c_2, c_3, c_4⟩] at hs
          refine z_if_ne 80 dX9_lay__74 (by decide) (fun c_5 => ?_) (fun c_5 => ?_)
          · skip
            refine z_iinc dX9_lay__80 hl4 rfl ?_
            refine z_goto 27 dX9_lay__83 (by decide) ?_
            rw [zinc]
            cases hlo : mlo J P G D j with
            | none => rw [hlo] at c_5; simp [zb] at c_5
            | some J2 =>
              rw [hlo] at hs
              have h9 := ih (j + 1) (by omega) (by omega) (va_up ls 4 (some (Value.int (nI (j + 1))))) hl0 hl1 (by rw [hs]; exact hl2) hl3 rfl
              rw [hs] at h9
              exact h9
          · skip
            refine z_iinc dX9_lay__77 hl2 rfl ?_
            refine z_iinc dX9_lay__80 hl4 rfl ?_
            refine z_goto 27 dX9_lay__83 (by decide) ?_
            rw [zinc, zinc1]
            cases hlo : mlo J P G D j with
            | some J2 => rw [hlo] at c_5; simp [zb] at c_5
            | none =>
              rw [hlo] at hs
              have h9 := ih (j + 1) (by omega) (by omega) (va_up (va_up ls 2 (some (Value.int (lf + 1)))) 4 (some (Value.int (nI (j + 1))))) hl0 hl1 (by rw [hs]; rfl) hl3 rfl
              rw [hs] at h9
              exact h9
set_option maxHeartbeats 4000000 in
theorem l9_layR {L : Nat → Nat → Int64} {Q : Option Value → ZH → Prop} {P G D : Nat} {w : Int32} {x : (Nat → Nat → Int32) × Int32} (ok : mok x.1 P G D) (hQ : Q (some (.int (mlayR P G D w x 10).2)) (mh (mlayR P G D w x 10).1 L)) : ∀ (m j : Nat), 10 - j < m → j ≤ 10 → ∀ ls : Nat → Option Value, ls 0 = some (.ref 0) → ls 1 = some (.int w) → ls 2 = some (.int (mlayR P G D w x j).2) → ls 3 = some (.int (9 - nI j)) → Zf x9_lay_ 0 0 20 ls [] (mh (mlayR P G D w x j).1 L) Q := by
  intro m
  induction m with
  | zero => intro j h; omega
  | succ m ih =>
  intro j hm hj ls hl0 hl1 hl2 hl3
  refine z_iload_n (i := 3) dX9_lay__20 rfl hl3 ?_
  refine z_if_lt 92 dX9_lay__21 (by decide) (fun c_1 => ?_) (fun c_1 => ?_)
  · skip
    refine z_iload_n (i := 2) dX9_lay__92 rfl hl2 ?_
    refine z_iret dX9_lay__93 rfl ?_
    have h1 := (mr_lt j hj).mp c_1
    subst h1
    exact hQ
  · skip
    refine z_iconst (v := 0) dX9_lay__24 (by decide) ?_
    refine z_istore (i := 4) dX9_lay__25 (by decide) rfl ?_
    have h1 : j ≠ 10 := fun e => c_1 ((mr_lt j hj).mpr e)
    refine l9_layG (x := mlayR P G D w x j) (r := 9 - nI j) (mok_layR ok j) (fun ls2 a0 a1 a2 a3 => ?_) (G + 1) 0 (by omega) (by omega) _ hl0 hl1 hl2 hl3 rfl
    refine z_iinc dX9_lay__86 a3 rfl ?_
    refine z_goto 20 dX9_lay__89 (by decide) ?_
    rw [mr_dec]
    exact ih (j + 1) (by omega) (by omega) _ a0 a1 a2 rfl
def mgone (I : Nat → Nat → Int32) (w : Int32) : Int32 := if w < 0 then 1 else if 50 < w then 1 else if I 0 34 < 7 * (w + 1) then 0 else 1
set_option maxHeartbeats 4000000 in
theorem c9_lay_ (I : Nat → Nat → Int32) (L : Nat → Nat → Int64) (P G D : Nat) (w : Int32) (ok : mok I P G D) : Zm yX9_lay_ cX9_lay_ 5 (some .int) 6 240 0 0 [.ref 0, .int w] (mh I L) (mQ (some (.int (if mgone I w = 0 then (mlayR P G D w (zu I 0 0 0, 0) 10).2 else -1))) (if mgone I w = 0 then (mlayR P G D w (zu I 0 0 0, 0) 10).1 else zu I 0 0 0) L) := by
  refine Zm_of (lg := false) (by decide) (fun _ => by simp [Value.category]) (fun _ => Nat.le_of_ble_eq_true rfl) ?_
  show Zf x9_lay_ 0 0 0 (zargs [.ref 0, .int w]) [] (mh I L) _
  generalize hQ0 : (mQ (some (.int (if mgone I w = 0 then (mlayR P G D w (zu I 0 0 0, 0) 10).2 else -1))) (if mgone I w = 0 then (mlayR P G D w (zu I 0 0 0, 0) 10).1 else zu I 0 0 0) L : Option Value → ZH → Prop) = Q0
  refine z_aload_n (i := 0) dX9_lay__0 rfl rfl ?_
  refine z_iconst (v := 0) dX9_lay__1 (by decide) ?_
  refine z_putI zf9_137 dX9_lay__2 (fun h => by cases h) (by decide) rfl ?_
  refine z_aload_n (i := 0) dX9_lay__5 rfl rfl ?_
  refine z_iload_n (i := 1) dX9_lay__6 rfl rfl ?_
  refine z_callV (st := []) (mc2 := 0) (ms2 := 0) zi9_249 zv_yX9_isGone (c9_isGone (zu I 0 0 0) L w) dX9_lay__7 (show (0 : Nat) < 35 by decide) rfl rfl rfl rfl (by decide) (by decide) (Nat.le_of_ble_eq_true rfl) (by decide) (by decide) (fun r h2 hq => ?_)
  obtain ⟨rfl, rfl⟩ := hq
  refine z_if_eq 15 dX9_lay__10 (by decide) (fun c_1 => ?_) (fun c_1 => ?_)
  · skip
    refine z_iconst (v := 0) dX9_lay__15 (by decide) ?_
    refine z_istore_n (i := 2) dX9_lay__16 rfl (by decide) rfl ?_
    refine z_bipush (v := 9) dX9_lay__17 (by decide) ?_
    refine z_istore_n (i := 3) dX9_lay__19 rfl (by decide) rfl ?_
    subst hQ0
    rw [if_pos (show mgone I w = 0 from c_1), if_pos (show mgone I w = 0 from c_1)]
    exact l9_layR (P := P) (G := G) (D := D) (w := w) (x := (zu I 0 0 0, 0)) ok ⟨rfl, rfl⟩ 11 0 (by omega) (by omega) _ rfl rfl rfl rfl
  · skip
    refine z_iconst (v := (-1)) dX9_lay__13 (by decide) ?_
    refine z_iret dX9_lay__14 rfl ?_
    subst hQ0
    rw [if_neg (show ¬ mgone I w = 0 from c_1), if_neg (show ¬ mgone I w = 0 from c_1)]
    exact ⟨rfl, rfl⟩
