theorem z_callVQ {X : ZX} {mc ms pc : Nat} {ls : Nat → Option Value} {st : List Value} {h : ZH} {Q : Option Value → ZH → Prop} {index na mc' ms' mc2 ms2 fr lo i : Nat} {y : MethodName} {cc : ByteArray} {nL : Nat} {ret : Option FieldType} {as : List Value} {r0 : Option Value} {s0 : List Value} (hi12 : i < 12) (hcls : y.cls = "java/lang/String") (hi : zInv X.1 index y cc nL ret na) (hy : zIns y) (hm : Zm y cc nL ret fr lo mc' ms' (.float (UInt32.ofNat i) :: as) h (kQh r0 h)) (hd : decode X.2.1 pc = .ok (.invokevirtual index, 3)) (hs0 : s0 = as.reverse ++ .float (UInt32.ofNat i) :: st) (hna : as.length = na) (hfr : fr + 1 ≤ X.2.2.2.2.2.1) (hlo : 8 + (nL + 11) + lo ≤ X.2.2.2.2.2.2.1) (hst : (st.map Value.category).sum ≤ 8) (hmc : mc2 + mc' ≤ mc) (hms : ms2 + ms' ≤ ms)
    (kk : Zf X mc2 ms2 (pc + 3) ls (r0.toList ++ st) h Q) : Zf X mc ms pc ls s0 h Q :=
  z_callVF hi12 hcls hi hy hm hd hs0 hna hfr hlo hst hmc hms (fun r h2 hq => by obtain ⟨rfl, rfl⟩ := hq; exact kk)
def wi (i : Nat) : Nat := ([1, 3, 4, 9, 11, 0, 2, 5, 7, 10, 6, 8] : List Nat).getD i 0
theorem wi_len : ∀ i, i < 12 → zLen.getD i 0 = wln (wi i) := by decide +kernel
theorem wi_chr : ∀ i, i < 12 → ∀ q, q < wln (wi i) → zchr i q = nI (wch (wi i) q) ∧ wch (wi i) q ≤ 126 := by decide +kernel
/-- a word stands at a -/
def spl (ch : Nat → Nat) (a w : Nat) : Bool := decide (∀ q, q < wln w → ch (a + q) = wch w q)
abbrev x6_spells : ZX := (RX6, cX6_spells, 4, (some .boolean), "spells", 4, 160, false)
set_option maxHeartbeats 4000000 in
theorem l6_spells {n : Nat} {K : Nat → Nat × Nat} {I : Nat → Nat → Int32} {L : Nat → Nat → Int64} {R : Nat → Nat → Option Nat} {Q : Option Value → ZH → Prop} {s a i : Nat} {ch : Nat → Nat} (hi : i < 12) (hsa : s < n) (hks : K s = (2, 600)) (ha : a + zLen.getD i 0 ≤ 600) (hch : ∀ q, q < zLen.getD i 0 → I s (a + q) = nI (ch (a + q)) ∧ ch (a + q) ≤ 126) (hQ : Q (some (.int (zb (spl ch a (wi i))))) (n, K, I, L, R)) : ∀ (m j : Nat), zLen.getD i 0 - j < m → j ≤ zLen.getD i 0 → (∀ q, q < j → ch (a + q) = wch (wi i) q) → ∀ ls : Nat → Option Value, ls 0 = some (.ref s) → ls 1 = some (.int (nI a)) → ls 2 = some (.float (UInt32.ofNat i)) → ls 3 = some (.int (nI j)) → Zf x6_spells 0 0 2 ls [] (n, K, I, L, R) Q := by
  intro m
  induction m with
  | zero => intro j h; omega
  | succ m ih =>
  intro j hm hj hal ls hl0 hl1 hl2 hl3
  have h6 := (zLenS i hi).2
  have hwl := wi_len i hi
  by_cases hlt : j < zLen.getD i 0
  · have hc := hch j hlt
    have hw := wi_chr i hi j (by omega)
    refine z_iload_n (i := 3) dX6_spells_2 rfl hl3 ?_
    refine z_aload_nF (i := 2) dX6_spells_3 rfl hl2 ?_
    refine z_callVQ (st := [_]) (mc2 := 0) (ms2 := 0) hi rfl zJ_84 zJv_len (cJ_length _ i hi) dX6_spells_4 rfl rfl (by decide) (by decide) (Nat.le_of_ble_eq_true rfl) (by decide) (by decide) ?_
    refine z_icmp_ge 39 dX6_spells_7 (by decide) (fun c_1 => absurd c_1 (fun q => by have := (zle (by omega) (by omega)).mp q; omega)) (fun _ => ?_)
    refine z_iload_n (i := 1) dX6_spells_10 rfl hl1 ?_
    refine z_iload_n (i := 3) dX6_spells_11 rfl hl3 ?_
    refine z_iadd dX6_spells_12 ?_
    refine z_top (y := .int (nI (a + j))) (by rw [nI_add]) ?_
    refine z_aload_n (i := 0) dX6_spells_13 rfl hl0 ?_
    refine z_alenC dX6_spells_14 hsa hks rfl ?_
    refine z_icmp_ge 31 dX6_spells_15 (by decide) (fun c_2 => absurd c_2 (fun q => by have := (zle (a := 600) (b := a + j) (by omega) (by omega)).mp q; omega)) (fun _ => ?_)
    refine z_aload_n (i := 0) dX6_spells_18 rfl hl0 ?_
    refine z_iload_n (i := 1) dX6_spells_19 rfl hl1 ?_
    refine z_iload_n (i := 3) dX6_spells_20 rfl hl3 ?_
    refine z_iadd dX6_spells_21 ?_
    refine z_top (y := .int (nI (a + j))) (by rw [nI_add]) ?_
    refine z_cald dX6_spells_22 hsa hks (zvin (by omega) (by omega)) ?_
    rw [zcl (by omega), hc.1]
    refine z_aload_nF (i := 2) dX6_spells_23 rfl hl2 ?_
    refine z_iload_n (i := 3) dX6_spells_24 rfl hl3 ?_
    refine z_callVQ (st := [_]) (mc2 := 0) (ms2 := 0) hi rfl zJ_90 zJv_chr (cJ_chr _ i j hi hlt) dX6_spells_25 rfl rfl (by decide) (by decide) (Nat.le_of_ble_eq_true rfl) (by decide) (by decide) ?_
    refine z_icmp_eq 33 dX6_spells_28 (by decide) (fun c_3 => ?_) (fun c_3 => ?_)
    · skip
      refine z_iinc dX6_spells_33 hl3 rfl ?_
      refine z_goto 2 dX6_spells_36 (by decide) ?_
      rw [zinc]
      refine ih (j + 1) (by omega) (by omega) (fun q hq => ?_) _ hl0 hl1 hl2 rfl
      by_cases e : q = j
      · subst e
        exact (zeq (by omega) (by omega)).mp (c_3.trans hw.1)
      · exact hal q (by omega)
    · skip
      refine z_iconst (v := 0) dX6_spells_31 (by decide) ?_
      refine z_zret dX6_spells_32 rfl (by decide) ?_
      have hf : spl ch a (wi i) = false := by
        unfold spl
        refine decide_eq_false (fun hall => c_3 ?_)
        rw [hw.1, hall j (by omega)]
      rw [hf] at hQ
      exact hQ
  · have hje : j = zLen.getD i 0 := by omega
    refine z_iload_n (i := 3) dX6_spells_2 rfl hl3 ?_
    refine z_aload_nF (i := 2) dX6_spells_3 rfl hl2 ?_
    refine z_callVQ (st := [_]) (mc2 := 0) (ms2 := 0) hi rfl zJ_84 zJv_len (cJ_length _ i hi) dX6_spells_4 rfl rfl (by decide) (by decide) (Nat.le_of_ble_eq_true rfl) (by decide) (by decide) ?_
    refine z_icmp_ge 39 dX6_spells_7 (by decide) (fun _ => ?_) (fun c_1 => absurd ((zle (by omega) (by omega)).mpr (by omega)) c_1)
    refine z_iconst (v := 1) dX6_spells_39 (by decide) ?_
    refine z_zret dX6_spells_40 rfl (by decide) ?_
    have hf : spl ch a (wi i) = true := by
      unfold spl
      exact decide_eq_true (fun q hq => hal q (by omega))
    rw [hf] at hQ
    exact hQ
set_option maxHeartbeats 4000000 in
theorem c6_spells (n : Nat) (K : Nat → Nat × Nat) (I : Nat → Nat → Int32) (L : Nat → Nat → Int64) (R : Nat → Nat → Option Nat) (s a i : Nat) (ch : Nat → Nat) (hi : i < 12) (hsa : s < n) (hks : K s = (2, 600)) (ha : a + wln (wi i) ≤ 600) (hch : ∀ q, q < wln (wi i) → I s (a + q) = nI (ch (a + q)) ∧ ch (a + q) ≤ 126) : Zm yX6_spells cX6_spells 4 (some .boolean) 4 160 0 0 [.ref s, .int (nI a), .float (UInt32.ofNat i)] ((n, K, I, L, R)) (kQ (some (.int (zb (spl ch a (wi i))))) n K I L R) := by
  refine Zm_of (lg := false) (by decide) (fun _ => by simp [Value.category]) (fun _ => Nat.le_of_ble_eq_true rfl) ?_
  show Zf x6_spells 0 0 0 (zargs [.ref s, .int (nI a), .float (UInt32.ofNat i)]) [] ((n, K, I, L, R)) _
  rw [← wi_len i hi] at ha hch
  refine z_iconst (v := 0) dX6_spells_0 (by decide) ?_
  refine z_istore_n (i := 3) dX6_spells_1 rfl (by decide) rfl ?_
  exact l6_spells hi hsa hks ha hch ⟨rfl, rfl⟩ 10 0 (by have := (zLenS i hi).2; omega) (by omega) (fun q hq => by omega) _ rfl rfl rfl rfl
theorem spl_y {ch : Nat → Nat} {a w : Nat} (hl : ∀ i, i < wln w → isLn (ch (a + i)) = true) (hw : w < 12) (h : spl ch a w = true) : wk (hsh ch a (wln w)) 12 = 3 + w := (wk_word hl hw).mpr ⟨rfl, of_decide_eq_true h⟩
theorem spl_n {ch : Nat → Nat} {a m : Nat} (hl : ∀ i, i < m → isLn (ch (a + i)) = true) (h : ∀ w, w < 12 → wln w = m → spl ch a w = false) : wk (hsh ch a m) 12 = 1 := by
  rcases wk_spec (hsh ch a m) 12 with ⟨w, hw, h1, -⟩ | ⟨h1, -⟩
  · obtain ⟨h2, h3⟩ := (wk_word hl hw).mp h1
    have := h w hw h2.symm
    rw [h2] at h3
    exact absurd h3 (of_decide_eq_false this)
  · exact h1
theorem wln_3 : ∀ w, w < 12 → wln w = 3 → w = 1 ∨ w = 3 ∨ w = 4 ∨ w = 9 ∨ w = 11 := by decide +kernel
theorem wln_4 : ∀ w, w < 12 → wln w = 4 → w = 0 ∨ w = 2 ∨ w = 5 ∨ w = 7 ∨ w = 10 := by decide +kernel
theorem wln_5 : ∀ w, w < 12 → wln w = 5 → w = 6 := by decide +kernel
theorem wln_6 : ∀ w, w < 12 → wln w = 6 → w = 8 := by decide +kernel
theorem wln_o : ∀ w, w < 12 → 3 ≤ wln w ∧ wln w ≤ 6 := by decide +kernel
abbrev x6_shortWordKind : ZX := (RX6, cX6_shortWordKind, 2, (some .int), "shortWordKind", 5, 200, false)
set_option maxHeartbeats 4000000 in
theorem c6_shortWordKind (n : Nat) (K : Nat → Nat × Nat) (I : Nat → Nat → Int32) (L : Nat → Nat → Int64) (R : Nat → Nat → Option Nat) (s a : Nat) (ch : Nat → Nat) (hsa : s < n) (hks : K s = (2, 600)) (ha : a + 3 ≤ 600) (hch : ∀ q, q < 3 → I s (a + q) = nI (ch (a + q)) ∧ isLn (ch (a + q)) = true) : Zm yX6_shortWordKind cX6_shortWordKind 2 (some .int) 5 200 0 0 [.ref s, .int (nI a)] ((n, K, I, L, R)) (kQ (some (.int (nI (wk (hsh ch a 3) 12)))) n K I L R) := by
  refine Zm_of (lg := false) (by decide) (fun _ => by simp [Value.category]) (fun _ => Nat.le_of_ble_eq_true rfl) ?_
  show Zf x6_shortWordKind 0 0 0 (zargs [.ref s, .int (nI a)]) [] ((n, K, I, L, R)) _
  have hb : ∀ q, q < 3 → I s (a + q) = nI (ch (a + q)) ∧ ch (a + q) ≤ 126 := fun q hq => ⟨(hch q hq).1, by have := isLn_t.mp (hch q hq).2; omega⟩
  have hl : ∀ i, i < 3 → isLn (ch (a + i)) = true := fun i hi => (hch i hi).2
  refine z_aload_n (i := 0) dX6_shortWordKind_0 rfl rfl ?_
  refine z_iload_n (i := 1) dX6_shortWordKind_1 rfl rfl ?_
  refine z_ldcS (i := 0) (by decide) rfl rfl dX6_shortWordKind_2 ?_
  refine z_callS (st := []) (mc2 := 0) (ms2 := 0) zi6_58 zs_yX6_spells (c6_spells n K I L R s a 0 ch (by decide) hsa hks ha hb) dX6_shortWordKind_4 rfl rfl (by decide) (by decide) (Nat.le_of_ble_eq_true rfl) (by decide) (by decide) (fun r h2 hq => ?_)
  obtain ⟨rfl, rfl⟩ := hq
  refine z_if_eq 12 dX6_shortWordKind_7 (by decide) (fun c_1 => ?_) (fun c_1 => ?_)
  · skip
    refine z_aload_n (i := 0) dX6_shortWordKind_12 rfl rfl ?_
    refine z_iload_n (i := 1) dX6_shortWordKind_13 rfl rfl ?_
    refine z_ldcS (i := 1) (by decide) rfl rfl dX6_shortWordKind_14 ?_
    refine z_callS (st := []) (mc2 := 0) (ms2 := 0) zi6_58 zs_yX6_spells (c6_spells n K I L R s a 1 ch (by decide) hsa hks ha hb) dX6_shortWordKind_16 rfl rfl (by decide) (by decide) (Nat.le_of_ble_eq_true rfl) (by decide) (by decide) (fun r h2 hq => ?_)
    obtain ⟨rfl, rfl⟩ := hq
    refine z_if_eq 25 dX6_shortWordKind_19 (by decide) (fun c_2 => ?_) (fun c_2 => ?_)
    · skip
      refine z_aload_n (i := 0) dX6_shortWordKind_25 rfl rfl ?_
      refine z_iload_n (i := 1) dX6_shortWordKind_26 rfl rfl ?_
      refine z_ldcS (i := 2) (by decide) rfl rfl dX6_shortWordKind_27 ?_
      refine z_callS (st := []) (mc2 := 0) (ms2 := 0) zi6_58 zs_yX6_spells (c6_spells n K I L R s a 2 ch (by decide) hsa hks ha hb) dX6_shortWordKind_29 rfl rfl (by decide) (by decide) (Nat.le_of_ble_eq_true rfl) (by decide) (by decide) (fun r h2 hq => ?_)
      obtain ⟨rfl, rfl⟩ := hq
      refine z_if_eq 38 dX6_shortWordKind_32 (by decide) (fun c_3 => ?_) (fun c_3 => ?_)
      · skip
        refine z_aload_n (i := 0) dX6_shortWordKind_38 rfl rfl ?_
        refine z_iload_n (i := 1) dX6_shortWordKind_39 rfl rfl ?_
        refine z_ldcS (i := 3) (by decide) rfl rfl dX6_shortWordKind_40 ?_
        refine z_callS (st := []) (mc2 := 0) (ms2 := 0) zi6_58 zs_yX6_spells (c6_spells n K I L R s a 3 ch (by decide) hsa hks ha hb) dX6_shortWordKind_42 rfl rfl (by decide) (by decide) (Nat.le_of_ble_eq_true rfl) (by decide) (by decide) (fun r h2 hq => ?_)
        obtain ⟨rfl, rfl⟩ := hq
        refine z_if_eq 51 dX6_shortWordKind_45 (by decide) (fun c_4 => ?_) (fun c_4 => ?_)
        · skip
          refine z_aload_n (i := 0) dX6_shortWordKind_51 rfl rfl ?_
          refine z_iload_n (i := 1) dX6_shortWordKind_52 rfl rfl ?_
          refine z_ldcS (i := 4) (by decide) rfl rfl dX6_shortWordKind_53 ?_
          refine z_callS (st := []) (mc2 := 0) (ms2 := 0) zi6_58 zs_yX6_spells (c6_spells n K I L R s a 4 ch (by decide) hsa hks ha hb) dX6_shortWordKind_55 rfl rfl (by decide) (by decide) (Nat.le_of_ble_eq_true rfl) (by decide) (by decide) (fun r h2 hq => ?_)
          obtain ⟨rfl, rfl⟩ := hq
          refine z_if_eq 66 dX6_shortWordKind_58 (by decide) (fun c_5 => ?_) (fun c_5 => ?_)
          · skip
            refine z_iconst (v := 1) dX6_shortWordKind_66 (by decide) ?_
            refine z_iret dX6_shortWordKind_67 rfl ?_
            have hn : wk (hsh ch a 3) 12 = 1 := spl_n hl (fun w hw hwl => by
              rcases wln_3 w hw hwl with rfl | rfl | rfl | rfl | rfl
              · exact (zb_0 _).mp c_1
              · exact (zb_0 _).mp c_2
              · exact (zb_0 _).mp c_3
              · exact (zb_0 _).mp c_4
              · exact (zb_0 _).mp c_5)
            rw [hn]
            exact ⟨rfl, rfl⟩
          · skip
            refine z_bipush (v := 14) dX6_shortWordKind_61 (by decide) ?_
            refine z_goto 67 dX6_shortWordKind_63 (by decide) ?_
            refine z_iret dX6_shortWordKind_67 rfl ?_
            rw [show wk (hsh ch a 3) 12 = 3 + 11 from spl_y (w := 11) hl (by decide) ((zb_n _).mp c_5)]
            exact ⟨rfl, rfl⟩
        · skip
          refine z_bipush (v := 12) dX6_shortWordKind_48 (by decide) ?_
          refine z_iret dX6_shortWordKind_50 rfl ?_
          rw [show wk (hsh ch a 3) 12 = 3 + 9 from spl_y (w := 9) hl (by decide) ((zb_n _).mp c_4)]
          exact ⟨rfl, rfl⟩
      · skip
        refine z_bipush (v := 7) dX6_shortWordKind_35 (by decide) ?_
        refine z_iret dX6_shortWordKind_37 rfl ?_
        rw [show wk (hsh ch a 3) 12 = 3 + 4 from spl_y (w := 4) hl (by decide) ((zb_n _).mp c_3)]
        exact ⟨rfl, rfl⟩
    · skip
      refine z_bipush (v := 6) dX6_shortWordKind_22 (by decide) ?_
      refine z_iret dX6_shortWordKind_24 rfl ?_
      rw [show wk (hsh ch a 3) 12 = 3 + 3 from spl_y (w := 3) hl (by decide) ((zb_n _).mp c_2)]
      exact ⟨rfl, rfl⟩
  · skip
    refine z_iconst (v := 4) dX6_shortWordKind_10 (by decide) ?_
    refine z_iret dX6_shortWordKind_11 rfl ?_
    rw [show wk (hsh ch a 3) 12 = 3 + 1 from spl_y (w := 1) hl (by decide) ((zb_n _).mp c_1)]
    exact ⟨rfl, rfl⟩
abbrev x6_fourLetterKind : ZX := (RX6, cX6_fourLetterKind, 2, (some .int), "fourLetterKind", 5, 200, false)
set_option maxHeartbeats 4000000 in
theorem c6_fourLetterKind (n : Nat) (K : Nat → Nat × Nat) (I : Nat → Nat → Int32) (L : Nat → Nat → Int64) (R : Nat → Nat → Option Nat) (s a : Nat) (ch : Nat → Nat) (hsa : s < n) (hks : K s = (2, 600)) (ha : a + 4 ≤ 600) (hch : ∀ q, q < 4 → I s (a + q) = nI (ch (a + q)) ∧ isLn (ch (a + q)) = true) : Zm yX6_fourLetterKind cX6_fourLetterKind 2 (some .int) 5 200 0 0 [.ref s, .int (nI a)] ((n, K, I, L, R)) (kQ (some (.int (nI (wk (hsh ch a 4) 12)))) n K I L R) := by
  refine Zm_of (lg := false) (by decide) (fun _ => by simp [Value.category]) (fun _ => Nat.le_of_ble_eq_true rfl) ?_
  show Zf x6_fourLetterKind 0 0 0 (zargs [.ref s, .int (nI a)]) [] ((n, K, I, L, R)) _
  have hb : ∀ q, q < 4 → I s (a + q) = nI (ch (a + q)) ∧ ch (a + q) ≤ 126 := fun q hq => ⟨(hch q hq).1, by have := isLn_t.mp (hch q hq).2; omega⟩
  have hl : ∀ i, i < 4 → isLn (ch (a + i)) = true := fun i hi => (hch i hi).2
  refine z_aload_n (i := 0) dX6_fourLetterKind_0 rfl rfl ?_
  refine z_iload_n (i := 1) dX6_fourLetterKind_1 rfl rfl ?_
  refine z_ldcS (i := 5) (by decide) rfl rfl dX6_fourLetterKind_2 ?_
  refine z_callS (st := []) (mc2 := 0) (ms2 := 0) zi6_58 zs_yX6_spells (c6_spells n K I L R s a 5 ch (by decide) hsa hks ha hb) dX6_fourLetterKind_4 rfl rfl (by decide) (by decide) (Nat.le_of_ble_eq_true rfl) (by decide) (by decide) (fun r h2 hq => ?_)
  obtain ⟨rfl, rfl⟩ := hq
  refine z_if_eq 12 dX6_fourLetterKind_7 (by decide) (fun c_1 => ?_) (fun c_1 => ?_)
  · skip
    refine z_aload_n (i := 0) dX6_fourLetterKind_12 rfl rfl ?_
    refine z_iload_n (i := 1) dX6_fourLetterKind_13 rfl rfl ?_
    refine z_ldcS (i := 6) (by decide) rfl rfl dX6_fourLetterKind_14 ?_
    refine z_callS (st := []) (mc2 := 0) (ms2 := 0) zi6_58 zs_yX6_spells (c6_spells n K I L R s a 6 ch (by decide) hsa hks ha hb) dX6_fourLetterKind_16 rfl rfl (by decide) (by decide) (Nat.le_of_ble_eq_true rfl) (by decide) (by decide) (fun r h2 hq => ?_)
    obtain ⟨rfl, rfl⟩ := hq
    refine z_if_eq 24 dX6_fourLetterKind_19 (by decide) (fun c_2 => ?_) (fun c_2 => ?_)
    · skip
      refine z_aload_n (i := 0) dX6_fourLetterKind_24 rfl rfl ?_
      refine z_iload_n (i := 1) dX6_fourLetterKind_25 rfl rfl ?_
      refine z_ldcS (i := 7) (by decide) rfl rfl dX6_fourLetterKind_26 ?_
      refine z_callS (st := []) (mc2 := 0) (ms2 := 0) zi6_58 zs_yX6_spells (c6_spells n K I L R s a 7 ch (by decide) hsa hks ha hb) dX6_fourLetterKind_28 rfl rfl (by decide) (by decide) (Nat.le_of_ble_eq_true rfl) (by decide) (by decide) (fun r h2 hq => ?_)
      obtain ⟨rfl, rfl⟩ := hq
      refine z_if_eq 37 dX6_fourLetterKind_31 (by decide) (fun c_3 => ?_) (fun c_3 => ?_)
      · skip
        refine z_aload_n (i := 0) dX6_fourLetterKind_37 rfl rfl ?_
        refine z_iload_n (i := 1) dX6_fourLetterKind_38 rfl rfl ?_
        refine z_ldcS (i := 8) (by decide) rfl rfl dX6_fourLetterKind_39 ?_
        refine z_callS (st := []) (mc2 := 0) (ms2 := 0) zi6_58 zs_yX6_spells (c6_spells n K I L R s a 8 ch (by decide) hsa hks ha hb) dX6_fourLetterKind_41 rfl rfl (by decide) (by decide) (Nat.le_of_ble_eq_true rfl) (by decide) (by decide) (fun r h2 hq => ?_)
        obtain ⟨rfl, rfl⟩ := hq
        refine z_if_eq 50 dX6_fourLetterKind_44 (by decide) (fun c_4 => ?_) (fun c_4 => ?_)
        · skip
          refine z_aload_n (i := 0) dX6_fourLetterKind_50 rfl rfl ?_
          refine z_iload_n (i := 1) dX6_fourLetterKind_51 rfl rfl ?_
          refine z_ldcS (i := 9) (by decide) rfl rfl dX6_fourLetterKind_52 ?_
          refine z_callS (st := []) (mc2 := 0) (ms2 := 0) zi6_58 zs_yX6_spells (c6_spells n K I L R s a 9 ch (by decide) hsa hks ha hb) dX6_fourLetterKind_54 rfl rfl (by decide) (by decide) (Nat.le_of_ble_eq_true rfl) (by decide) (by decide) (fun r h2 hq => ?_)
          obtain ⟨rfl, rfl⟩ := hq
          refine z_if_eq 65 dX6_fourLetterKind_57 (by decide) (fun c_5 => ?_) (fun c_5 => ?_)
          · skip
            refine z_iconst (v := 1) dX6_fourLetterKind_65 (by decide) ?_
            refine z_iret dX6_fourLetterKind_66 rfl ?_
            have hn : wk (hsh ch a 4) 12 = 1 := spl_n hl (fun w hw hwl => by
              rcases wln_4 w hw hwl with rfl | rfl | rfl | rfl | rfl
              · exact (zb_0 _).mp c_1
              · exact (zb_0 _).mp c_2
              · exact (zb_0 _).mp c_3
              · exact (zb_0 _).mp c_4
              · exact (zb_0 _).mp c_5)
            rw [hn]
            exact ⟨rfl, rfl⟩
          · skip
            refine z_bipush (v := 13) dX6_fourLetterKind_60 (by decide) ?_
            refine z_goto 66 dX6_fourLetterKind_62 (by decide) ?_
            refine z_iret dX6_fourLetterKind_66 rfl ?_
            rw [show wk (hsh ch a 4) 12 = 3 + 10 from spl_y (w := 10) hl (by decide) ((zb_n _).mp c_5)]
            exact ⟨rfl, rfl⟩
        · skip
          refine z_bipush (v := 10) dX6_fourLetterKind_47 (by decide) ?_
          refine z_iret dX6_fourLetterKind_49 rfl ?_
          rw [show wk (hsh ch a 4) 12 = 3 + 7 from spl_y (w := 7) hl (by decide) ((zb_n _).mp c_4)]
          exact ⟨rfl, rfl⟩
      · skip
        refine z_bipush (v := 8) dX6_fourLetterKind_34 (by decide) ?_
        refine z_iret dX6_fourLetterKind_36 rfl ?_
        rw [show wk (hsh ch a 4) 12 = 3 + 5 from spl_y (w := 5) hl (by decide) ((zb_n _).mp c_3)]
        exact ⟨rfl, rfl⟩
    · skip
      refine z_iconst (v := 5) dX6_fourLetterKind_22 (by decide) ?_
      refine z_iret dX6_fourLetterKind_23 rfl ?_
      rw [show wk (hsh ch a 4) 12 = 3 + 2 from spl_y (w := 2) hl (by decide) ((zb_n _).mp c_2)]
      exact ⟨rfl, rfl⟩
  · skip
    refine z_iconst (v := 3) dX6_fourLetterKind_10 (by decide) ?_
    refine z_iret dX6_fourLetterKind_11 rfl ?_
    rw [show wk (hsh ch a 4) 12 = 3 + 0 from spl_y (w := 0) hl (by decide) ((zb_n _).mp c_1)]
    exact ⟨rfl, rfl⟩
abbrev x6_wordKind : ZX := (RX6, cX6_wordKind, 3, (some .int), "wordKind", 6, 240, false)
set_option maxHeartbeats 4000000 in
theorem c6_wordKind (n : Nat) (K : Nat → Nat × Nat) (I : Nat → Nat → Int32) (L : Nat → Nat → Int64) (R : Nat → Nat → Option Nat) (s a m : Nat) (ch : Nat → Nat) (hsa : s < n) (hks : K s = (2, 600)) (ha : a + m ≤ 600) (hch : ∀ q, q < m → I s (a + q) = nI (ch (a + q)) ∧ isLn (ch (a + q)) = true) : Zm yX6_wordKind cX6_wordKind 3 (some .int) 6 240 0 0 [.ref s, .int (nI a), .int (nI (a + m))] (n, K, I, L, R) (kQ (some (.int (nI (wk (hsh ch a m) 12)))) n K I L R) := by
  refine Zm_of (lg := false) (by decide) (fun _ => by simp [Value.category]) (fun _ => Nat.le_of_ble_eq_true rfl) ?_
  show Zf x6_wordKind 0 0 0 (zargs [.ref s, .int (nI a), .int (nI (a + m))]) [] (n, K, I, L, R) _
  have hb : ∀ q, q < m → I s (a + q) = nI (ch (a + q)) ∧ ch (a + q) ≤ 126 := fun q hq => ⟨(hch q hq).1, by have := isLn_t.mp (hch q hq).2; omega⟩
  have hl : ∀ i, i < m → isLn (ch (a + i)) = true := fun i hi => (hch i hi).2
  refine z_iload_n (i := 2) dX6_wordKind_0 rfl rfl ?_
  refine z_iload_n (i := 1) dX6_wordKind_1 rfl rfl ?_
  refine z_isub dX6_wordKind_2 ?_
  refine z_top (y := .int (nI m)) (by rw [← nI_add, Int32.add_comm, Int32.add_sub_cancel]) ?_
  by_cases e3 : m = 3
  · subst e3
    refine z_tableIn (off := 29) 32 dX6_wordKind_3 (by decide) (by decide) (by decide) (by decide) ?_
    refine z_aload_n (i := 0) dX6_wordKind_32 rfl rfl ?_
    refine z_iload_n (i := 1) dX6_wordKind_33 rfl rfl ?_
    refine z_callS (st := []) (mc2 := 0) (ms2 := 0) zi6_49 zs_yX6_shortWordKind (c6_shortWordKind n K I L R s a ch hsa hks ha hch) dX6_wordKind_34 rfl rfl (by decide) (by decide) (Nat.le_of_ble_eq_true rfl) (by decide) (by decide) (fun r h2 hq => ?_)
    obtain ⟨rfl, rfl⟩ := hq
    refine z_iret dX6_wordKind_37 rfl ?_
    exact ⟨rfl, rfl⟩
  by_cases e4 : m = 4
  · subst e4
    refine z_tableIn (off := 35) 38 dX6_wordKind_3 (by decide) (by decide) (by decide) (by decide) ?_
    refine z_aload_n (i := 0) dX6_wordKind_38 rfl rfl ?_
    refine z_iload_n (i := 1) dX6_wordKind_39 rfl rfl ?_
    refine z_callS (st := []) (mc2 := 0) (ms2 := 0) zi6_53 zs_yX6_fourLetterKind (c6_fourLetterKind n K I L R s a ch hsa hks ha hch) dX6_wordKind_40 rfl rfl (by decide) (by decide) (Nat.le_of_ble_eq_true rfl) (by decide) (by decide) (fun r h2 hq => ?_)
    obtain ⟨rfl, rfl⟩ := hq
    refine z_iret dX6_wordKind_43 rfl ?_
    exact ⟨rfl, rfl⟩
  by_cases e5 : m = 5
  · subst e5
    refine z_tableIn (off := 41) 44 dX6_wordKind_3 (by decide) (by decide) (by decide) (by decide) ?_
    refine z_aload_n (i := 0) dX6_wordKind_44 rfl rfl ?_
    refine z_iload_n (i := 1) dX6_wordKind_45 rfl rfl ?_
    refine z_ldcS (i := 10) (by decide) rfl rfl dX6_wordKind_46 ?_
    refine z_callS (st := []) (mc2 := 0) (ms2 := 0) zi6_58 zs_yX6_spells (c6_spells n K I L R s a 10 ch (by decide) hsa hks ha hb) dX6_wordKind_48 rfl rfl (by decide) (by decide) (Nat.le_of_ble_eq_true rfl) (by decide) (by decide) (fun r h2 hq => ?_)
    obtain ⟨rfl, rfl⟩ := hq
    refine z_if_eq 59 dX6_wordKind_51 (by decide) (fun c_1 => ?_) (fun c_1 => ?_)
    · skip
      refine z_iconst (v := 1) dX6_wordKind_59 (by decide) ?_
      refine z_iret dX6_wordKind_60 rfl ?_
      have hn : wk (hsh ch a 5) 12 = 1 := spl_n hl (fun w hw hwl => by
        rw [wln_5 w hw hwl]
        exact (zb_0 _).mp c_1)
      rw [hn]
      exact ⟨rfl, rfl⟩
    · skip
      refine z_bipush (v := 9) dX6_wordKind_54 (by decide) ?_
      refine z_goto 60 dX6_wordKind_56 (by decide) ?_
      refine z_iret dX6_wordKind_60 rfl ?_
      rw [show wk (hsh ch a 5) 12 = 3 + 6 from spl_y (w := 6) hl (by decide) ((zb_n _).mp c_1)]
      exact ⟨rfl, rfl⟩
  by_cases e6 : m = 6
  · subst e6
    refine z_tableIn (off := 58) 61 dX6_wordKind_3 (by decide) (by decide) (by decide) (by decide) ?_
    refine z_aload_n (i := 0) dX6_wordKind_61 rfl rfl ?_
    refine z_iload_n (i := 1) dX6_wordKind_62 rfl rfl ?_
    refine z_ldcS (i := 11) (by decide) rfl rfl dX6_wordKind_63 ?_
    refine z_callS (st := []) (mc2 := 0) (ms2 := 0) zi6_58 zs_yX6_spells (c6_spells n K I L R s a 11 ch (by decide) hsa hks ha hb) dX6_wordKind_65 rfl rfl (by decide) (by decide) (Nat.le_of_ble_eq_true rfl) (by decide) (by decide) (fun r h2 hq => ?_)
    obtain ⟨rfl, rfl⟩ := hq
    refine z_if_eq 76 dX6_wordKind_68 (by decide) (fun c_1 => ?_) (fun c_1 => ?_)
    · skip
      refine z_iconst (v := 1) dX6_wordKind_76 (by decide) ?_
      refine z_iret dX6_wordKind_77 rfl ?_
      have hn : wk (hsh ch a 6) 12 = 1 := spl_n hl (fun w hw hwl => by
        rw [wln_6 w hw hwl]
        exact (zb_0 _).mp c_1)
      rw [hn]
      exact ⟨rfl, rfl⟩
    · skip
      refine z_bipush (v := 11) dX6_wordKind_71 (by decide) ?_
      refine z_goto 77 dX6_wordKind_73 (by decide) ?_
      refine z_iret dX6_wordKind_77 rfl ?_
      rw [show wk (hsh ch a 6) 12 = 3 + 8 from spl_y (w := 8) hl (by decide) ((zb_n _).mp c_1)]
      exact ⟨rfl, rfl⟩
  have hn : wk (hsh ch a m) 12 = 1 := spl_n hl (fun w hw hwl => by
    have := wln_o w hw
    omega)
  rw [hn]
  refine z_tableOut 78 dX6_wordKind_3 (by rw [nI_toInt (by omega)]; omega) (by decide) ?_
  refine z_iconst (v := 1) dX6_wordKind_78 (by decide) ?_
  refine z_iret dX6_wordKind_79 rfl ?_
  exact ⟨rfl, rfl⟩
