theorem mwl_ne : ∀ (cs : List (Nat × Int32)) (I : Nat → Nat → Int32) (h a : Nat), a ≠ 15 → mwl cs I h a = I a
  | [], _, _, _, _ => rfl
  | c :: cs, I, h, a, ha => by
    unfold mwl
    split
    · rw [mwl_ne cs _ _ a ha, zu_ne _ _ _ ha]
    · split
      · rw [mwl_ne cs _ _ a ha, zu_ne _ _ _ ha]
      · rw [mwl_ne cs _ _ a ha, zu_ne _ _ _ ha]
abbrev MLn : Type := Int32 × List (Nat × Int32)
/-- a line of a text, at place q -/
def mlin (I : Nat → Nat → Int32) (q : Nat) (l : MLn) : Prop := I 7 q = l.1 ∧ mrpn l.2 0 ∧ l.2.length ≤ 660 ∧ ∃ i, I 8 q = nI i ∧ mcode I i l.2 ∧ i + l.2.length < 1320
theorem mlin_cong {I J : Nat → Nat → Int32} {q : Nat} {l : MLn} (h : mlin I q l) (h7 : J 7 = I 7) (h8 : J 8 = I 8) (h9 : J 9 = I 9) (h10 : J 10 = I 10) : mlin J q l := by
  obtain ⟨a, b, c, i, d, e, f⟩ := h
  refine ⟨by rw [h7]; exact a, b, c, i, by rw [h8]; exact d, ⟨fun j x hx => ?_, ?_⟩, f⟩
  · rw [h9, h10]; exact e.1 j x hx
  · rw [h9]; exact e.2
def mtx (I : Nat → Nat → Int32) (hd : Nat) (ts : List MLn) : Prop := hd < 2 ∧ I 0 15 = nI hd ∧ ts.length ≤ 16 ∧ I 6 hd = nI ts.length ∧ ∀ (q : Nat) (l : MLn), ts[q]? = some l → mlin I (16 * hd + q) l
theorem mtx_cong {I J : Nat → Nat → Int32} {hd : Nat} {ts : List MLn} (h : mtx I hd ts) (h0 : J 0 15 = I 0 15) (h6 : J 6 = I 6) (h7 : J 7 = I 7) (h8 : J 8 = I 8) (h9 : J 9 = I 9) (h10 : J 10 = I 10) : mtx J hd ts := by
  obtain ⟨a, b, c, d, e⟩ := h
  exact ⟨a, by rw [h0]; exact b, c, by rw [h6]; exact d, fun q l hq => mlin_cong (e q l hq) h7 h8 h9 h10⟩
def mshut : List MLn → (Nat → Nat → Int32) → Int32 → (Nat → Nat → Int32) × Bool
  | [], I, _ => (I, false)
  | l :: ts, I, p => if l.1 < 0 ∨ l.1 = p then (if mwl l.2 I 0 15 0 = 0 then mshut ts (mwl l.2 I 0) p else (mwl l.2 I 0, true)) else mshut ts I p
theorem mshut_ne : ∀ (ts : List MLn) (I : Nat → Nat → Int32) (p : Int32) (a : Nat), a ≠ 15 → (mshut ts I p).1 a = I a
  | [], _, _, _, _ => rfl
  | l :: ts, I, p, a, ha => by
    unfold mshut
    split
    · split
      · rw [mshut_ne ts _ p a ha, mwl_ne _ _ _ a ha]
      · exact mwl_ne _ _ _ a ha
    · exact mshut_ne ts I p a ha
abbrev x9_isShut : ZX := (RX9, cX9_isShut, 4, (some .boolean), "isShut", 1, 40, false)
set_option maxHeartbeats 4000000 in
theorem l9_isShut1 {I : Nat → Nat → Int32} {L : Nat → Nat → Int64} {Q : Option Value → ZH → Prop} {hd n k : Nat} (hhd : hd < 2) (h15 : I 0 15 = nI hd) (h6 : I 6 hd = nI n) (hQ : Q (some (.int 1)) (mh I L)) (ls : Nat → Option Value) (hl0 : ls 0 = some (.ref 0)) (hl2 : ls 2 = some (.int 1)) (hl3 : ls 3 = some (.int (nI k))) : Zf x9_isShut 0 0 10 ls [] (mh I L) Q := by
  refine z_iload_n (i := 3) dX9_isShut_10 rfl hl3 ?_
  refine z_bipush (v := 16) dX9_isShut_11 (by decide) ?_
  refine z_aload_n (i := 0) dX9_isShut_13 rfl hl0 ?_
  refine z_gI zf9_198.g dX9_isShut_14 (by decide) rfl ?_
  rw [h15]
  refine z_imul dX9_isShut_17 ?_
  refine z_aload_n (i := 0) dX9_isShut_18 rfl hl0 ?_
  refine z_gR zf9_50.g dX9_isShut_19 (by decide) rfl rfl ?_
  refine z_aload_n (i := 0) dX9_isShut_22 rfl hl0 ?_
  refine z_gI zf9_198.g dX9_isShut_23 (by decide) rfl ?_
  rw [h15]
  refine z_iald dX9_isShut_26 (by decide) rfl (zvin (by omega) (by omega)) ?_
  rw [zcl (by omega), h6]
  refine z_iadd dX9_isShut_27 ?_
  refine z_icmp_ge 79 dX9_isShut_28 (by decide) (fun c_1 => ?_) (fun c_1 => ?_)
  · skip
    refine z_iload_n (i := 2) dX9_isShut_79 rfl hl2 ?_
    refine z_zret dX9_isShut_80 rfl (by decide) ?_
    exact hQ
  · skip
    refine z_iload_n (i := 2) dX9_isShut_31 rfl hl2 ?_
    refine z_if_ne 79 dX9_isShut_32 (by decide) (fun _ => ?_) (fun c_2 => absurd c_2 (by decide))
    refine z_iload_n (i := 2) dX9_isShut_79 rfl hl2 ?_
    refine z_zret dX9_isShut_80 rfl (by decide) ?_
    exact hQ
set_option maxHeartbeats 4000000 in
theorem l9_isShut {L : Nat → Nat → Int64} {Q : Option Value → ZH → Prop} {hd n P : Nat} (hhd : hd < 2) (hn : n ≤ 16) (hP : P < 6) : ∀ (ts : List MLn) (q : Nat) (I : Nat → Nat → Int32) (ls : Nat → Option Value), q + ts.length = n → I 0 15 = nI hd → I 6 hd = nI n → (∀ (j : Nat) (l : MLn), ts[j]? = some l → mlin I (16 * hd + q + j) l) → ls 0 = some (.ref 0) → ls 1 = some (.int (nI P)) → ls 2 = some (.int 0) → ls 3 = some (.int (nI (16 * hd + q))) → Q (some (.int (zb (mshut ts I (nI P)).2))) (mh (mshut ts I (nI P)).1 L) → Zf x9_isShut 0 0 10 ls [] (mh I L) Q := by
  intro ts
  induction ts with
  | nil =>
    intro q I ls hq h15 h6 hs hl0 hl1 hl2 hl3 hQ
    simp only [List.length_nil, Nat.add_zero] at hq
    subst hq
    refine z_iload_n (i := 3) dX9_isShut_10 rfl hl3 ?_
    refine z_bipush (v := 16) dX9_isShut_11 (by decide) ?_
    refine z_aload_n (i := 0) dX9_isShut_13 rfl hl0 ?_
    refine z_gI zf9_198.g dX9_isShut_14 (by decide) rfl ?_
    rw [h15]
    refine z_imul dX9_isShut_17 ?_
    refine z_aload_n (i := 0) dX9_isShut_18 rfl hl0 ?_
    refine z_gR zf9_50.g dX9_isShut_19 (by decide) rfl rfl ?_
    refine z_aload_n (i := 0) dX9_isShut_22 rfl hl0 ?_
    refine z_gI zf9_198.g dX9_isShut_23 (by decide) rfl ?_
    rw [h15]
    refine z_iald dX9_isShut_26 (by decide) rfl (zvin (by omega) (by omega)) ?_
    rw [zcl (by omega), h6]
    refine z_iadd dX9_isShut_27 ?_
    simp only [zl16, pk_mul, nI_add]
    refine z_icmp_ge 79 dX9_isShut_28 (by decide) (fun _ => ?_) (fun c_1 => absurd ((zle (by omega) (by omega)).mpr (by omega)) c_1)
    refine z_iload_n (i := 2) dX9_isShut_79 rfl hl2 ?_
    refine z_zret dX9_isShut_80 rfl (by decide) ?_
    exact hQ
  | cons l ts ih =>
    intro q I ls hq h15 h6 hs hl0 hl1 hl2 hl3 hQ
    simp only [List.length_cons] at hq
    obtain ⟨h7, hr, hlen, i, h8, hc, hi⟩ := hs 0 l rfl
    rw [Nat.add_zero] at h7 h8
    have hs2 : ∀ (j : Nat) (l : MLn), ts[j]? = some l → mlin I (16 * hd + (q + 1) + j) l := fun j l hj => by
      have := hs (j + 1) l (by simpa using hj)
      rwa [show 16 * hd + q + (j + 1) = 16 * hd + (q + 1) + j by omega] at this
    have hm : mshut (l :: ts) I (nI P) = if l.1 < 0 ∨ l.1 = nI P then (if mwl l.2 I 0 15 0 = 0 then mshut ts (mwl l.2 I 0) (nI P) else (mwl l.2 I 0, true)) else mshut ts I (nI P) := rfl
    refine z_iload_n (i := 3) dX9_isShut_10 rfl hl3 ?_
    refine z_bipush (v := 16) dX9_isShut_11 (by decide) ?_
    refine z_aload_n (i := 0) dX9_isShut_13 rfl hl0 ?_
    refine z_gI zf9_198.g dX9_isShut_14 (by decide) rfl ?_
    rw [h15]
    refine z_imul dX9_isShut_17 ?_
    refine z_aload_n (i := 0) dX9_isShut_18 rfl hl0 ?_
    refine z_gR zf9_50.g dX9_isShut_19 (by decide) rfl rfl ?_
    refine z_aload_n (i := 0) dX9_isShut_22 rfl hl0 ?_
    refine z_gI zf9_198.g dX9_isShut_23 (by decide) rfl ?_
    rw [h15]
    refine z_iald dX9_isShut_26 (by decide) rfl (zvin (by omega) (by omega)) ?_
    rw [zcl (by omega), h6]
    refine z_iadd dX9_isShut_27 ?_
    simp only [zl16, pk_mul, nI_add]
    refine z_icmp_ge 79 dX9_isShut_28 (by decide) (fun c_1 => absurd c_1 (fun h => absurd ((zle (by omega) (by omega)).mp h) (by omega))) (fun _ => ?_)
    refine z_iload_n (i := 2) dX9_isShut_31 rfl hl2 ?_
    refine z_if_ne 79 dX9_isShut_32 (by decide) (fun c_2 => absurd c_2 (by decide)) (fun _ => ?_)
    refine z_aload_n (i := 0) dX9_isShut_35 rfl hl0 ?_
    refine z_gR zf9_53.g dX9_isShut_36 (by decide) rfl rfl ?_
    refine z_iload_n (i := 3) dX9_isShut_39 rfl hl3 ?_
    refine z_iald dX9_isShut_40 (by decide) rfl (zvin (by omega) (by omega)) ?_
    rw [zcl (by omega), h7]
    refine z_if_lt 54 dX9_isShut_41 (by decide) (fun c_3 => ?_) (fun c_3 => ?_)
    · skip
      refine z_aload_n (i := 0) dX9_isShut_54 rfl hl0 ?_
      refine z_aload_n (i := 0) dX9_isShut_55 rfl hl0 ?_
      refine z_gR zf9_56.g dX9_isShut_56 (by decide) rfl rfl ?_
      refine z_iload_n (i := 3) dX9_isShut_59 rfl hl3 ?_
      refine z_iald dX9_isShut_60 (by decide) rfl (zvin (by omega) (by omega)) ?_
      rw [zcl (by omega), h8]
      refine z_callV (st := []) (mc2 := 0) (ms2 := 0) zi9_282 zv_yX9_worth (c9_worth I L i l.2 hc hr hi hlen) dX9_isShut_61 (show (0 : Nat) < 35 by decide) rfl rfl rfl rfl (by decide) (by decide) (Nat.le_of_ble_eq_true rfl) (by decide) (by decide) (fun r h2 hq => ?_)
      obtain ⟨rfl, rfl⟩ := hq
      refine z_if_eq 71 dX9_isShut_64 (by decide) (fun c_4 => ?_) (fun c_4 => ?_)
      · skip
        refine z_iconst (v := 0) dX9_isShut_71 (by decide) ?_
        refine z_istore_n (i := 2) dX9_isShut_72 rfl (by decide) rfl ?_
        refine z_iinc dX9_isShut_73 hl3 rfl ?_
        refine z_goto 10 dX9_isShut_76 (by decide) ?_
        rw [if_pos (Or.inl c_3), if_pos c_4] at hm
        rw [hm] at hQ
        rw [zinc]
        exact ih (q + 1) _ _ (by omega) (by rw [mwl_ne _ _ _ _ (by decide)]; exact h15) (by rw [mwl_ne _ _ _ _ (by decide)]; exact h6) (fun j l hj => mlin_cong (hs2 j l hj) (mwl_ne _ _ _ _ (by decide)) (mwl_ne _ _ _ _ (by decide)) (mwl_ne _ _ _ _ (by decide)) (mwl_ne _ _ _ _ (by decide))) hl0 hl1 rfl rfl hQ
      · skip
        refine z_iconst (v := 1) dX9_isShut_67 (by decide) ?_
        refine z_goto 72 dX9_isShut_68 (by decide) ?_
        refine z_istore_n (i := 2) dX9_isShut_72 rfl (by decide) rfl ?_
        refine z_iinc dX9_isShut_73 hl3 rfl ?_
        refine z_goto 10 dX9_isShut_76 (by decide) ?_
        rw [if_pos (Or.inl c_3), if_neg c_4] at hm
        rw [hm] at hQ
        dsimp only at hQ
        rw [zinc]
        exact l9_isShut1 hhd (by rw [mwl_ne _ _ _ _ (by decide)]; exact h15) (by rw [mwl_ne _ _ _ _ (by decide)]; exact h6) hQ _ hl0 rfl rfl
    · skip
      refine z_aload_n (i := 0) dX9_isShut_44 rfl hl0 ?_
      refine z_gR zf9_53.g dX9_isShut_45 (by decide) rfl rfl ?_
      refine z_iload_n (i := 3) dX9_isShut_48 rfl hl3 ?_
      refine z_iald dX9_isShut_49 (by decide) rfl (zvin (by omega) (by omega)) ?_
      rw [zcl (by omega), h7]
      refine z_iload_n (i := 1) dX9_isShut_50 rfl hl1 ?_
      refine z_icmp_ne 71 dX9_isShut_51 (by decide) (fun c_5 => ?_) (fun c_5 => ?_)
      · skip
        refine z_iconst (v := 0) dX9_isShut_71 (by decide) ?_
        refine z_istore_n (i := 2) dX9_isShut_72 rfl (by decide) rfl ?_
        refine z_iinc dX9_isShut_73 hl3 rfl ?_
        refine z_goto 10 dX9_isShut_76 (by decide) ?_
        rw [if_neg (fun h => h.elim c_3 c_5)] at hm
        rw [hm] at hQ
        rw [zinc]
        exact ih (q + 1) _ _ (by omega) h15 h6 hs2 hl0 hl1 rfl rfl hQ
      · skip
        refine z_aload_n (i := 0) dX9_isShut_54 rfl hl0 ?_
        refine z_aload_n (i := 0) dX9_isShut_55 rfl hl0 ?_
        refine z_gR zf9_56.g dX9_isShut_56 (by decide) rfl rfl ?_
        refine z_iload_n (i := 3) dX9_isShut_59 rfl hl3 ?_
        refine z_iald dX9_isShut_60 (by decide) rfl (zvin (by omega) (by omega)) ?_
        rw [zcl (by omega), h8]
        refine z_callV (st := []) (mc2 := 0) (ms2 := 0) zi9_282 zv_yX9_worth (c9_worth I L i l.2 hc hr hi hlen) dX9_isShut_61 (show (0 : Nat) < 35 by decide) rfl rfl rfl rfl (by decide) (by decide) (Nat.le_of_ble_eq_true rfl) (by decide) (by decide) (fun r h2 hq => ?_)
        obtain ⟨rfl, rfl⟩ := hq
        refine z_if_eq 71 dX9_isShut_64 (by decide) (fun c_6 => ?_) (fun c_6 => ?_)
        · skip
          refine z_iconst (v := 0) dX9_isShut_71 (by decide) ?_
          refine z_istore_n (i := 2) dX9_isShut_72 rfl (by decide) rfl ?_
          refine z_iinc dX9_isShut_73 hl3 rfl ?_
          refine z_goto 10 dX9_isShut_76 (by decide) ?_
          rw [if_pos (Or.inr c_5), if_pos c_6] at hm
          rw [hm] at hQ
          rw [zinc]
          exact ih (q + 1) _ _ (by omega) (by rw [mwl_ne _ _ _ _ (by decide)]; exact h15) (by rw [mwl_ne _ _ _ _ (by decide)]; exact h6) (fun j l hj => mlin_cong (hs2 j l hj) (mwl_ne _ _ _ _ (by decide)) (mwl_ne _ _ _ _ (by decide)) (mwl_ne _ _ _ _ (by decide)) (mwl_ne _ _ _ _ (by decide))) hl0 hl1 rfl rfl hQ
        · skip
          refine z_iconst (v := 1) dX9_isShut_67 (by decide) ?_
          refine z_goto 72 dX9_isShut_68 (by decide) ?_
          refine z_istore_n (i := 2) dX9_isShut_72 rfl (by decide) rfl ?_
          refine z_iinc dX9_isShut_73 hl3 rfl ?_
          refine z_goto 10 dX9_isShut_76 (by decide) ?_
          rw [if_pos (Or.inr c_5), if_neg c_6] at hm
          rw [hm] at hQ
          dsimp only at hQ
          rw [zinc]
          exact l9_isShut1 hhd (by rw [mwl_ne _ _ _ _ (by decide)]; exact h15) (by rw [mwl_ne _ _ _ _ (by decide)]; exact h6) hQ _ hl0 rfl rfl
set_option maxHeartbeats 4000000 in
theorem c9_isShut (I : Nat → Nat → Int32) (L : Nat → Nat → Int64) (hd P : Nat) (ts : List MLn) (hP : P < 6) (ht : mtx I hd ts) : Zm yX9_isShut cX9_isShut 4 (some .boolean) 1 40 0 0 [.ref 0, .int (nI P)] (mh I L) (mQ (some (.int (zb (mshut ts I (nI P)).2))) (mshut ts I (nI P)).1 L) := by
  refine Zm_of (lg := false) (by decide) (fun _ => by simp [Value.category]) (fun _ => Nat.le_of_ble_eq_true rfl) ?_
  show Zf x9_isShut 0 0 0 (zargs [.ref 0, .int (nI P)]) [] (mh I L) _
  generalize hQ0 : (mQ (some (.int (zb (mshut ts I (nI P)).2))) (mshut ts I (nI P)).1 L : Option Value → ZH → Prop) = Q0
  obtain ⟨hhd, h15, hn, h6, hs⟩ := ht
  refine z_iconst (v := 0) dX9_isShut_0 (by decide) ?_
  refine z_istore_n (i := 2) dX9_isShut_1 rfl (by decide) rfl ?_
  refine z_bipush (v := 16) dX9_isShut_2 (by decide) ?_
  refine z_aload_n (i := 0) dX9_isShut_4 rfl rfl ?_
  refine z_gI zf9_198.g dX9_isShut_5 (by decide) rfl ?_
  rw [h15]
  refine z_imul dX9_isShut_8 ?_
  simp only [zl16, pk_mul]
  refine z_istore_n (i := 3) dX9_isShut_9 rfl (by decide) rfl ?_
  subst hQ0
  exact l9_isShut hhd hn hP ts 0 I _ (by omega) h15 h6 (fun j l hj => by rw [Nat.add_zero]; exact hs j l hj) rfl rfl rfl rfl ⟨rfl, rfl⟩
