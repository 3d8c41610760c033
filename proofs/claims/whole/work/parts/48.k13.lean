/-! the tokens of the class: sorts, numbers, marks -/
def ksort (c : Nat) : Nat := if c = 10 ∨ c = 32 then 0 else if isLn c = true then 1 else if isDn c = true then 2 else 3
theorem isLn_t {c : Nat} : isLn c = true ↔ 97 ≤ c ∧ c ≤ 122 := by simp [isLn]
theorem isDn_t {c : Nat} : isDn c = true ↔ 48 ≤ c ∧ c ≤ 57 := by simp [isDn]
abbrev x6_sortOf : ZX := (RX6, cX6_sortOf, 1, (some .int), "sortOf", 0, 0, false)
set_option maxHeartbeats 4000000 in
theorem c6_sortOf (n : Nat) (K : Nat → Nat × Nat) (I : Nat → Nat → Int32) (L : Nat → Nat → Int64) (R : Nat → Nat → Option Nat) (c : Nat) (hc : c ≤ 1000) : Zm yX6_sortOf cX6_sortOf 1 (some .int) 0 0 0 0 [.int (nI c)] ((n, K, I, L, R)) (kQ (some (.int (nI (ksort c)))) n K I L R) := by
  refine Zm_of (lg := false) (by decide) (fun _ => by simp [Value.category]) (fun _ => Nat.le_of_ble_eq_true rfl) ?_
  show Zf x6_sortOf 0 0 0 (zargs [.int (nI c)]) [] ((n, K, I, L, R)) _
  have l1 : nI c = 10 ↔ c = 10 := zeq (b := 10) (by omega) (by omega)
  have l2 : nI c = 32 ↔ c = 32 := zeq (b := 32) (by omega) (by omega)
  have l3 : nI c < 97 ↔ c < 97 := zlt (b := 97) (by omega) (by omega)
  have l4 : 122 < nI c ↔ 122 < c := zlt (a := 122) (by omega) (by omega)
  have l5 : nI c < 48 ↔ c < 48 := zlt (b := 48) (by omega) (by omega)
  have l6 : 57 < nI c ↔ 57 < c := zlt (a := 57) (by omega) (by omega)
  have hs : ksort c = if c = 10 ∨ c = 32 then 0 else if 97 ≤ c ∧ c ≤ 122 then 1 else if 48 ≤ c ∧ c ≤ 57 then 2 else 3 := by
    unfold ksort
    simp only [isLn_t, isDn_t]
  refine z_iload_n (i := 0) dX6_sortOf_0 rfl rfl ?_
  refine z_bipush (v := 10) dX6_sortOf_1 (by decide) ?_
  refine z_icmp_eq 12 dX6_sortOf_3 (by decide) (fun c_1 => ?_) (fun c_1 => ?_)
  · skip
    refine z_iconst (v := 0) dX6_sortOf_12 (by decide) ?_
    refine z_iret dX6_sortOf_13 rfl ?_
    simp only [l1, l2, l3, l4, l5, l6] at *
    rw [hs]
    refine ⟨?_, rfl⟩
    first | (rw [if_pos (by omega)]; rfl) | (rw [if_neg (by omega), if_pos (by omega)]; rfl) | (rw [if_neg (by omega), if_neg (by omega), if_pos (by omega)]; rfl) | (rw [if_neg (by omega), if_neg (by omega), if_neg (by omega)]; rfl)
  · skip
    refine z_iload_n (i := 0) dX6_sortOf_6 rfl rfl ?_
    refine z_bipush (v := 32) dX6_sortOf_7 (by decide) ?_
    refine z_icmp_ne 14 dX6_sortOf_9 (by decide) (fun c_2 => ?_) (fun c_2 => ?_)
    · skip
      refine z_iload_n (i := 0) dX6_sortOf_14 rfl rfl ?_
      refine z_bipush (v := 97) dX6_sortOf_15 (by decide) ?_
      refine z_icmp_lt 28 dX6_sortOf_17 (by decide) (fun c_3 => ?_) (fun c_3 => ?_)
      · skip
        refine z_iload_n (i := 0) dX6_sortOf_28 rfl rfl ?_
        refine z_bipush (v := 48) dX6_sortOf_29 (by decide) ?_
        refine z_icmp_lt 44 dX6_sortOf_31 (by decide) (fun c_4 => ?_) (fun c_4 => ?_)
        · skip
          refine z_iconst (v := 3) dX6_sortOf_44 (by decide) ?_
          refine z_iret dX6_sortOf_45 rfl ?_
          simp only [l1, l2, l3, l4, l5, l6] at *
          rw [hs]
          refine ⟨?_, rfl⟩
          first | (rw [if_pos (by omega)]; rfl) | (rw [if_neg (by omega), if_pos (by omega)]; rfl) | (rw [if_neg (by omega), if_neg (by omega), if_pos (by omega)]; rfl) | (rw [if_neg (by omega), if_neg (by omega), if_neg (by omega)]; rfl)
        · skip
          refine z_iload_n (i := 0) dX6_sortOf_34 rfl rfl ?_
          refine z_bipush (v := 57) dX6_sortOf_35 (by decide) ?_
          refine z_icmp_gt 44 dX6_sortOf_37 (by decide) (fun c_5 => ?_) (fun c_5 => ?_)
          · skip
            refine z_iconst (v := 3) dX6_sortOf_44 (by decide) ?_
            refine z_iret dX6_sortOf_45 rfl ?_
            simp only [l1, l2, l3, l4, l5, l6] at *
            rw [hs]
            refine ⟨?_, rfl⟩
            first | (rw [if_pos (by omega)]; rfl) | (rw [if_neg (by omega), if_pos (by omega)]; rfl) | (rw [if_neg (by omega), if_neg (by omega), if_pos (by omega)]; rfl) | (rw [if_neg (by omega), if_neg (by omega), if_neg (by omega)]; rfl)
          · skip
            refine z_iconst (v := 2) dX6_sortOf_40 (by decide) ?_
            refine z_goto 45 dX6_sortOf_41 (by decide) ?_
            refine z_iret dX6_sortOf_45 rfl ?_
            simp only [l1, l2, l3, l4, l5, l6] at *
            rw [hs]
            refine ⟨?_, rfl⟩
            first | (rw [if_pos (by omega)]; rfl) | (rw [if_neg (by omega), if_pos (by omega)]; rfl) | (rw [if_neg (by omega), if_neg (by omega), if_pos (by omega)]; rfl) | (rw [if_neg (by omega), if_neg (by omega), if_neg (by omega)]; rfl)
      · skip
        refine z_iload_n (i := 0) dX6_sortOf_20 rfl rfl ?_
        refine z_bipush (v := 122) dX6_sortOf_21 (by decide) ?_
        refine z_icmp_gt 28 dX6_sortOf_23 (by decide) (fun c_6 => ?_) (fun c_6 => ?_)
        · skip
          refine z_iload_n (i := 0) dX6_sortOf_28 rfl rfl ?_
          refine z_bipush (v := 48) dX6_sortOf_29 (by decide) ?_
          refine z_icmp_lt 44 dX6_sortOf_31 (by decide) (fun c_7 => ?_) (fun c_7 => ?_)
          · skip
            refine z_iconst (v := 3) dX6_sortOf_44 (by decide) ?_
            refine z_iret dX6_sortOf_45 rfl ?_
            simp only [l1, l2, l3, l4, l5, l6] at *
            rw [hs]
            refine ⟨?_, rfl⟩
            first | (rw [if_pos (by omega)]; rfl) | (rw [if_neg (by omega), if_pos (by omega)]; rfl) | (rw [if_neg (by omega), if_neg (by omega), if_pos (by omega)]; rfl) | (rw [if_neg (by omega), if_neg (by omega), if_neg (by omega)]; rfl)
          · skip
            refine z_iload_n (i := 0) dX6_sortOf_34 rfl rfl ?_
            refine z_bipush (v := 57) dX6_sortOf_35 (by decide) ?_
            refine z_icmp_gt 44 dX6_sortOf_37 (by decide) (fun c_8 => ?_) (fun c_8 => ?_)
            · skip
              refine z_iconst (v := 3) dX6_sortOf_44 (by decide) ?_
              refine z_iret dX6_sortOf_45 rfl ?_
              simp only [l1, l2, l3, l4, l5, l6] at *
              rw [hs]
              refine ⟨?_, rfl⟩
              first | (rw [if_pos (by omega)]; rfl) | (rw [if_neg (by omega), if_pos (by omega)]; rfl) | (rw [if_neg (by omega), if_neg (by omega), if_pos (by omega)]; rfl) | (rw [if_neg (by omega), if_neg (by omega), if_neg (by omega)]; rfl)
            · skip
              refine z_iconst (v := 2) dX6_sortOf_40 (by decide) ?_
              refine z_goto 45 dX6_sortOf_41 (by decide) ?_
              refine z_iret dX6_sortOf_45 rfl ?_
              simp only [l1, l2, l3, l4, l5, l6] at *
              rw [hs]
              refine ⟨?_, rfl⟩
              first | (rw [if_pos (by omega)]; rfl) | (rw [if_neg (by omega), if_pos (by omega)]; rfl) | (rw [if_neg (by omega), if_neg (by omega), if_pos (by omega)]; rfl) | (rw [if_neg (by omega), if_neg (by omega), if_neg (by omega)]; rfl)
        · skip
          refine z_iconst (v := 1) dX6_sortOf_26 (by decide) ?_
          refine z_iret dX6_sortOf_27 rfl ?_
          simp only [l1, l2, l3, l4, l5, l6] at *
          rw [hs]
          refine ⟨?_, rfl⟩
          first | (rw [if_pos (by omega)]; rfl) | (rw [if_neg (by omega), if_pos (by omega)]; rfl) | (rw [if_neg (by omega), if_neg (by omega), if_pos (by omega)]; rfl) | (rw [if_neg (by omega), if_neg (by omega), if_neg (by omega)]; rfl)
    · skip
      refine z_iconst (v := 0) dX6_sortOf_12 (by decide) ?_
      refine z_iret dX6_sortOf_13 rfl ?_
      simp only [l1, l2, l3, l4, l5, l6] at *
      rw [hs]
      refine ⟨?_, rfl⟩
      first | (rw [if_pos (by omega)]; rfl) | (rw [if_neg (by omega), if_pos (by omega)]; rfl) | (rw [if_neg (by omega), if_neg (by omega), if_pos (by omega)]; rfl) | (rw [if_neg (by omega), if_neg (by omega), if_neg (by omega)]; rfl)
abbrev x6_numberValue : ZX := (RX6, cX6_numberValue, 5, (some .int), "numberValue", 0, 0, false)
set_option maxHeartbeats 4000000 in
theorem l6_num {n : Nat} {K : Nat → Nat × Nat} {I : Nat → Nat → Int32} {L : Nat → Nat → Int64} {R : Nat → Nat → Option Nat} {Q : Option Value → ZH → Prop} {s a e : Nat} {ch : Nat → Nat} (hsa : s < n) (hks : K s = (2, 600)) (he : e ≤ 600) (hch : ∀ i, a ≤ i → i < e → I s i = nI (ch i) ∧ isDn (ch i) = true) (hQ : Q (some (.int (nI (dcm ch a (e - a))))) (n, K, I, L, R)) : ∀ (m j : Nat), e - j < m → a ≤ j → j ≤ e → ∀ ls : Nat → Option Value, ls 0 = some (.ref s) → ls 2 = some (.int (nI e)) → ls 3 = some (.int (nI (dcm ch a (j - a)))) → ls 4 = some (.int (nI j)) → Zf x6_numberValue 0 0 5 ls [] (n, K, I, L, R) Q := by
  intro m
  induction m with
  | zero => intro j h; omega
  | succ m ih =>
  intro j hm haj hje ls hl0 hl2 hl3 hl4
  refine z_iload dX6_numberValue_5 hl4 ?_
  refine z_iload_n (i := 2) dX6_numberValue_7 rfl hl2 ?_
  refine z_icmp_ge 37 dX6_numberValue_8 (by decide) (fun c_1 => ?_) (fun c_1 => ?_)
  · skip
    refine z_iload_n (i := 3) dX6_numberValue_37 rfl hl3 ?_
    refine z_iret dX6_numberValue_38 rfl ?_
    have h1 := (zle (by omega) (by omega)).mp c_1
    have h2 : j = e := by omega
    subst h2
    exact hQ
  · skip
    have h1 : ¬ e ≤ j := fun q => c_1 ((zle (by omega) (by omega)).mpr q)
    obtain ⟨hc1, hc2⟩ := hch j haj (by omega)
    rw [isDn_t] at hc2
    refine z_iload dX6_numberValue_11 hl4 ?_
    refine z_aload_n (i := 0) dX6_numberValue_13 rfl hl0 ?_
    refine z_alenC dX6_numberValue_14 hsa hks rfl ?_
    refine z_icmp_ge 37 dX6_numberValue_15 (by decide) (fun c_2 => absurd c_2 (by rw [show Int32.ofNat 600 = nI 600 from rfl, zle (by omega) (by omega)]; omega)) (fun _ => ?_)
    refine z_iload_n (i := 3) dX6_numberValue_18 rfl hl3 ?_
    refine z_bipush (v := 10) dX6_numberValue_19 (by decide) ?_
    refine z_imul dX6_numberValue_21 ?_
    refine z_aload_n (i := 0) dX6_numberValue_22 rfl hl0 ?_
    refine z_iload dX6_numberValue_23 hl4 ?_
    refine z_cald dX6_numberValue_25 hsa hks (zvin (by omega) (by omega)) ?_
    rw [zcl (by omega), hc1]
    refine z_bipush (v := 48) dX6_numberValue_26 (by decide) ?_
    refine z_isub dX6_numberValue_28 ?_
    refine z_iadd dX6_numberValue_29 ?_
    refine z_top (y := .int (nI (dcm ch a (j + 1 - a)))) (by rw [zl10, zl48, pk_mul, pk_sub (by omega), nI_add, show j + 1 - a = (j - a) + 1 by omega]; simp only [dcm]; rw [show a + (j - a) = j by omega, Nat.mul_comm 10]) ?_
    refine z_istore_n (i := 3) dX6_numberValue_30 rfl (by decide) rfl ?_
    refine z_iinc dX6_numberValue_31 hl4 rfl ?_
    refine z_goto 5 dX6_numberValue_34 (by decide) ?_
    rw [zinc]
    exact ih (j + 1) (by omega) (by omega) (by omega) _ hl0 hl2 rfl rfl
set_option maxHeartbeats 4000000 in
theorem c6_numberValue (n : Nat) (K : Nat → Nat × Nat) (I : Nat → Nat → Int32) (L : Nat → Nat → Int64) (R : Nat → Nat → Option Nat) (s a e : Nat) (ch : Nat → Nat) (hsa : s < n) (hks : K s = (2, 600)) (hae : a ≤ e) (he : e ≤ 600) (hch : ∀ i, a ≤ i → i < e → I s i = nI (ch i) ∧ isDn (ch i) = true) : Zm yX6_numberValue cX6_numberValue 5 (some .int) 0 0 0 0 [.ref s, .int (nI a), .int (nI e)] ((n, K, I, L, R)) (kQ (some (.int (nI (dcm ch a (e - a))))) n K I L R) := by
  refine Zm_of (lg := false) (by decide) (fun _ => by simp [Value.category]) (fun _ => Nat.le_of_ble_eq_true rfl) ?_
  show Zf x6_numberValue 0 0 0 (zargs [.ref s, .int (nI a), .int (nI e)]) [] ((n, K, I, L, R)) _
  refine z_iconst (v := 0) dX6_numberValue_0 (by decide) ?_
  refine z_istore_n (i := 3) dX6_numberValue_1 rfl (by decide) rfl ?_
  refine z_iload_n (i := 1) dX6_numberValue_2 rfl rfl ?_
  refine z_istore (i := 4) dX6_numberValue_3 (by decide) rfl ?_
  exact l6_num hsa hks he hch ⟨rfl, rfl⟩ 601 a (by omega) (by omega) hae _ rfl rfl (by rw [Nat.sub_self]; rfl) rfl
