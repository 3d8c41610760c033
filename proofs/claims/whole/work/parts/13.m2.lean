def zb (b : Bool) : Int32 := if b then 1 else 0
theorem zb_0 (b : Bool) : zb b = 0 ↔ b = false := by cases b <;> decide
theorem zb_n (b : Bool) : ¬ zb b = 0 ↔ b = true := by cases b <;> decide
theorem zb_or (b : Bool) : zb b = 0 ∨ zb b = 1 := by cases b <;> decide
theorem zvin {n N : Nat} (h : n < N) (hN : N ≤ 100000) : vp_in (nI n) N := vp_in_nI h (by omega)
theorem zcl {n : Nat} (h : n ≤ 100000) : (nI n).toNatClampNeg = n := nI_clamp (by omega)
theorem zle {a b : Nat} (ha : a ≤ 1000000) (hb : b ≤ 1000000) : nI a ≤ nI b ↔ a ≤ b := nI_leI (by omega) (by omega)
theorem zlt {a b : Nat} (ha : a ≤ 1000000) (hb : b ≤ 1000000) : nI a < nI b ↔ a < b := nI_ltI (by omega) (by omega)
theorem zeq {a b : Nat} (ha : a ≤ 1000000) (hb : b ≤ 1000000) : nI a = nI b ↔ a = b := nI_eq (by omega) (by omega)
theorem zdiv {a d : Nat} (ha : a ≤ 1000000) (h0 : 0 < d) (hd : d ≤ 1000000) : nI a / nI d = nI (a / d) := pk_div (by omega) h0 (by omega)
theorem zrem {a d : Nat} (ha : a ≤ 1000000) (h0 : 0 < d) (hd : d ≤ 1000000) : nI a - nI a / nI d * nI d = nI (a % d) := pk_rem (by omega) h0 (by omega)
def mshare (how row col : Int32) : Int32 := if how = 0 then (if row = 1 ∨ row = 2 then (if col = 0 ∨ col = 5 then 3 else if col = 2 ∨ col = 3 then 2 else 1) else 1) else (if col = 2 ∨ col = 3 then (if row = 1 ∨ row = 2 then 2 else 3) else 1)
abbrev x9_share : ZX := (RX9, cX9_share, 5, (some .int), "share", 0, 0, false)
set_option maxHeartbeats 4000000 in
theorem c9_share (I : Nat → Nat → Int32) (L : Nat → Nat → Int64) (how row col : Int32) : Zm yX9_share cX9_share 5 (some .int) 0 0 0 0 [.int how, .int row, .int col] (mh I L) (mQ (some (.int (mshare how row col))) I L) := by
  refine Zm_of (lg := false) (by decide) (fun _ => by simp [Value.category]) (fun _ => Nat.le_of_ble_eq_true rfl) ?_
  show Zf x9_share 0 0 0 (zargs [.int how, .int row, .int col]) [] (mh I L) _
  refine z_iload_n dX9_share_0 rfl rfl ?_
  refine z_iconst (v := 1) dX9_share_1 (by decide) ?_
  refine z_icmp_eq 10 dX9_share_2 (by decide) (fun c_1 => ?_) (fun c_1 => ?_)
  · skip
    refine z_iconst (v := 1) dX9_share_10 (by decide) ?_
    refine z_goto 15 dX9_share_11 (by decide) ?_
    refine z_istore_n dX9_share_15 rfl (by decide) rfl ?_
    refine z_iload_n dX9_share_16 rfl rfl ?_
    refine z_iconst (v := 2) dX9_share_17 (by decide) ?_
    refine z_icmp_eq 26 dX9_share_18 (by decide) (fun c_2 => ?_) (fun c_2 => ?_)
    · skip
      refine z_iconst (v := 1) dX9_share_26 (by decide) ?_
      refine z_goto 31 dX9_share_27 (by decide) ?_
      refine z_istore dX9_share_31 (by decide) rfl ?_
      refine z_iload_n dX9_share_33 rfl rfl ?_
      refine z_if_ne 69 dX9_share_34 (by decide) (fun c_3 => ?_) (fun c_3 => ?_)
      · skip
        refine z_iload dX9_share_69 rfl ?_
        refine z_if_ne 78 dX9_share_71 (by decide) (fun _ => ?_) (fun c_4 => absurd c_4 (by decide))
        refine z_iload_n dX9_share_78 rfl rfl ?_
        refine z_if_eq 86 dX9_share_79 (by decide) (fun c_5 => absurd c_5 (by decide)) (fun _ => ?_)
        refine z_iconst (v := 2) dX9_share_82 (by decide) ?_
        refine z_goto 87 dX9_share_83 (by decide) ?_
        refine z_iret dX9_share_87 rfl ?_
        exact ⟨by simp only [mshare]; simp_all, rfl⟩
      · skip
        refine z_iload_n dX9_share_37 rfl rfl ?_
        refine z_if_ne 45 dX9_share_38 (by decide) (fun _ => ?_) (fun c_6 => absurd c_6 (by decide))
        refine z_iload_n dX9_share_45 rfl rfl ?_
        refine z_if_eq 54 dX9_share_46 (by decide) (fun c_7 => ?_) (fun c_7 => ?_)
        · skip
          refine z_iconst (v := 3) dX9_share_54 (by decide) ?_
          refine z_goto 68 dX9_share_55 (by decide) ?_
          refine z_iret dX9_share_68 rfl ?_
          exact ⟨by simp only [mshare]; simp_all, rfl⟩
        · skip
          refine z_iload_n dX9_share_49 rfl rfl ?_
          refine z_iconst (v := 5) dX9_share_50 (by decide) ?_
          refine z_icmp_ne 58 dX9_share_51 (by decide) (fun c_8 => ?_) (fun c_8 => ?_)
          · skip
            refine z_iload dX9_share_58 rfl ?_
            refine z_if_eq 67 dX9_share_60 (by decide) (fun c_9 => absurd c_9 (by decide)) (fun _ => ?_)
            refine z_iconst (v := 2) dX9_share_63 (by decide) ?_
            refine z_goto 68 dX9_share_64 (by decide) ?_
            refine z_iret dX9_share_68 rfl ?_
            exact ⟨by simp only [mshare]; simp_all, rfl⟩
          · skip
            refine z_iconst (v := 3) dX9_share_54 (by decide) ?_
            refine z_goto 68 dX9_share_55 (by decide) ?_
            refine z_iret dX9_share_68 rfl ?_
            exact ⟨by simp only [mshare]; simp_all, rfl⟩
    · skip
      refine z_iload_n dX9_share_21 rfl rfl ?_
      refine z_iconst (v := 3) dX9_share_22 (by decide) ?_
      refine z_icmp_ne 30 dX9_share_23 (by decide) (fun c_10 => ?_) (fun c_10 => ?_)
      · skip
        refine z_iconst (v := 0) dX9_share_30 (by decide) ?_
        refine z_istore dX9_share_31 (by decide) rfl ?_
        refine z_iload_n dX9_share_33 rfl rfl ?_
        refine z_if_ne 69 dX9_share_34 (by decide) (fun c_11 => ?_) (fun c_11 => ?_)
        · skip
          refine z_iload dX9_share_69 rfl ?_
          refine z_if_ne 78 dX9_share_71 (by decide) (fun c_12 => absurd c_12 (by decide)) (fun _ => ?_)
          refine z_iconst (v := 1) dX9_share_74 (by decide) ?_
          refine z_goto 87 dX9_share_75 (by decide) ?_
          refine z_iret dX9_share_87 rfl ?_
          exact ⟨by simp only [mshare]; simp_all, rfl⟩
        · skip
          refine z_iload_n dX9_share_37 rfl rfl ?_
          refine z_if_ne 45 dX9_share_38 (by decide) (fun _ => ?_) (fun c_13 => absurd c_13 (by decide))
          refine z_iload_n dX9_share_45 rfl rfl ?_
          refine z_if_eq 54 dX9_share_46 (by decide) (fun c_14 => ?_) (fun c_14 => ?_)
          · skip
            refine z_iconst (v := 3) dX9_share_54 (by decide) ?_
            refine z_goto 68 dX9_share_55 (by decide) ?_
            refine z_iret dX9_share_68 rfl ?_
            exact ⟨by simp only [mshare]; simp_all, rfl⟩
          · skip
            refine z_iload_n dX9_share_49 rfl rfl ?_
            refine z_iconst (v := 5) dX9_share_50 (by decide) ?_
            refine z_icmp_ne 58 dX9_share_51 (by decide) (fun c_15 => ?_) (fun c_15 => ?_)
            · skip
              refine z_iload dX9_share_58 rfl ?_
              refine z_if_eq 67 dX9_share_60 (by decide) (fun _ => ?_) (fun c_16 => absurd c_16 (by decide))
              refine z_iconst (v := 1) dX9_share_67 (by decide) ?_
              refine z_iret dX9_share_68 rfl ?_
              exact ⟨by simp only [mshare]; simp_all, rfl⟩
            · skip
              refine z_iconst (v := 3) dX9_share_54 (by decide) ?_
              refine z_goto 68 dX9_share_55 (by decide) ?_
              refine z_iret dX9_share_68 rfl ?_
              exact ⟨by simp only [mshare]; simp_all, rfl⟩
      · skip
        refine z_iconst (v := 1) dX9_share_26 (by decide) ?_
        refine z_goto 31 dX9_share_27 (by decide) ?_
        refine z_istore dX9_share_31 (by decide) rfl ?_
        refine z_iload_n dX9_share_33 rfl rfl ?_
        refine z_if_ne 69 dX9_share_34 (by decide) (fun c_17 => ?_) (fun c_17 => ?_)
        · skip
          refine z_iload dX9_share_69 rfl ?_
          refine z_if_ne 78 dX9_share_71 (by decide) (fun _ => ?_) (fun c_18 => absurd c_18 (by decide))
          refine z_iload_n dX9_share_78 rfl rfl ?_
          refine z_if_eq 86 dX9_share_79 (by decide) (fun c_19 => absurd c_19 (by decide)) (fun _ => ?_)
          refine z_iconst (v := 2) dX9_share_82 (by decide) ?_
          refine z_goto 87 dX9_share_83 (by decide) ?_
          refine z_iret dX9_share_87 rfl ?_
          exact ⟨by simp only [mshare]; simp_all, rfl⟩
        · skip
          refine z_iload_n dX9_share_37 rfl rfl ?_
          refine z_if_ne 45 dX9_share_38 (by decide) (fun _ => ?_) (fun c_20 => absurd c_20 (by decide))
          refine z_iload_n dX9_share_45 rfl rfl ?_
          refine z_if_eq 54 dX9_share_46 (by decide) (fun c_21 => ?_) (fun c_21 => ?_)
          · skip
            refine z_iconst (v := 3) dX9_share_54 (by decide) ?_
            refine z_goto 68 dX9_share_55 (by decide) ?_
            refine z_iret dX9_share_68 rfl ?_
            exact ⟨by simp only [mshare]; simp_all, rfl⟩
          · skip
            refine z_iload_n dX9_share_49 rfl rfl ?_
            refine z_iconst (v := 5) dX9_share_50 (by decide) ?_
            refine z_icmp_ne 58 dX9_share_51 (by decide) (fun c_22 => ?_) (fun c_22 => ?_)
            · skip
              refine z_iload dX9_share_58 rfl ?_
              refine z_if_eq 67 dX9_share_60 (by decide) (fun c_23 => absurd c_23 (by decide)) (fun _ => ?_)
              refine z_iconst (v := 2) dX9_share_63 (by decide) ?_
              refine z_goto 68 dX9_share_64 (by decide) ?_
              refine z_iret dX9_share_68 rfl ?_
              exact ⟨by simp only [mshare]; simp_all, rfl⟩
            · skip
              refine z_iconst (v := 3) dX9_share_54 (by decide) ?_
              refine z_goto 68 dX9_share_55 (by decide) ?_
              refine z_iret dX9_share_68 rfl ?_
              exact ⟨by simp only [mshare]; simp_all, rfl⟩
  · skip
    refine z_iload_n dX9_share_5 rfl rfl ?_
    refine z_iconst (v := 2) dX9_share_6 (by decide) ?_
    refine z_icmp_ne 14 dX9_share_7 (by decide) (fun c_24 => ?_) (fun c_24 => ?_)
    · skip
      refine z_iconst (v := 0) dX9_share_14 (by decide) ?_
      refine z_istore_n dX9_share_15 rfl (by decide) rfl ?_
      refine z_iload_n dX9_share_16 rfl rfl ?_
      refine z_iconst (v := 2) dX9_share_17 (by decide) ?_
      refine z_icmp_eq 26 dX9_share_18 (by decide) (fun c_25 => ?_) (fun c_25 => ?_)
      · skip
        refine z_iconst (v := 1) dX9_share_26 (by decide) ?_
        refine z_goto 31 dX9_share_27 (by decide) ?_
        refine z_istore dX9_share_31 (by decide) rfl ?_
        refine z_iload_n dX9_share_33 rfl rfl ?_
        refine z_if_ne 69 dX9_share_34 (by decide) (fun c_26 => ?_) (fun c_26 => ?_)
        · skip
          refine z_iload dX9_share_69 rfl ?_
          refine z_if_ne 78 dX9_share_71 (by decide) (fun _ => ?_) (fun c_27 => absurd c_27 (by decide))
          refine z_iload_n dX9_share_78 rfl rfl ?_
          refine z_if_eq 86 dX9_share_79 (by decide) (fun _ => ?_) (fun c_28 => absurd c_28 (by decide))
          refine z_iconst (v := 3) dX9_share_86 (by decide) ?_
          refine z_iret dX9_share_87 rfl ?_
          exact ⟨by simp only [mshare]; simp_all, rfl⟩
        · skip
          refine z_iload_n dX9_share_37 rfl rfl ?_
          refine z_if_ne 45 dX9_share_38 (by decide) (fun c_29 => absurd c_29 (by decide)) (fun _ => ?_)
          refine z_iconst (v := 1) dX9_share_41 (by decide) ?_
          refine z_goto 68 dX9_share_42 (by decide) ?_
          refine z_iret dX9_share_68 rfl ?_
          exact ⟨by simp only [mshare]; simp_all, rfl⟩
      · skip
        refine z_iload_n dX9_share_21 rfl rfl ?_
        refine z_iconst (v := 3) dX9_share_22 (by decide) ?_
        refine z_icmp_ne 30 dX9_share_23 (by decide) (fun c_30 => ?_) (fun c_30 => ?_)
        · skip
          refine z_iconst (v := 0) dX9_share_30 (by decide) ?_
          refine z_istore dX9_share_31 (by decide) rfl ?_
          refine z_iload_n dX9_share_33 rfl rfl ?_
          refine z_if_ne 69 dX9_share_34 (by decide) (fun c_31 => ?_) (fun c_31 => ?_)
          · skip
            refine z_iload dX9_share_69 rfl ?_
            refine z_if_ne 78 dX9_share_71 (by decide) (fun c_32 => absurd c_32 (by decide)) (fun _ => ?_)
            refine z_iconst (v := 1) dX9_share_74 (by decide) ?_
            refine z_goto 87 dX9_share_75 (by decide) ?_
            refine z_iret dX9_share_87 rfl ?_
            exact ⟨by simp only [mshare]; simp_all, rfl⟩
          · skip
            refine z_iload_n dX9_share_37 rfl rfl ?_
            refine z_if_ne 45 dX9_share_38 (by decide) (fun c_33 => absurd c_33 (by decide)) (fun _ => ?_)
            refine z_iconst (v := 1) dX9_share_41 (by decide) ?_
            refine z_goto 68 dX9_share_42 (by decide) ?_
            refine z_iret dX9_share_68 rfl ?_
            exact ⟨by simp only [mshare]; simp_all, rfl⟩
        · skip
          refine z_iconst (v := 1) dX9_share_26 (by decide) ?_
          refine z_goto 31 dX9_share_27 (by decide) ?_
          refine z_istore dX9_share_31 (by decide) rfl ?_
          refine z_iload_n dX9_share_33 rfl rfl ?_
          refine z_if_ne 69 dX9_share_34 (by decide) (fun c_34 => ?_) (fun c_34 => ?_)
          · skip
            refine z_iload dX9_share_69 rfl ?_
            refine z_if_ne 78 dX9_share_71 (by decide) (fun _ => ?_) (fun c_35 => absurd c_35 (by decide))
            refine z_iload_n dX9_share_78 rfl rfl ?_
            refine z_if_eq 86 dX9_share_79 (by decide) (fun _ => ?_) (fun c_36 => absurd c_36 (by decide))
            refine z_iconst (v := 3) dX9_share_86 (by decide) ?_
            refine z_iret dX9_share_87 rfl ?_
            exact ⟨by simp only [mshare]; simp_all, rfl⟩
          · skip
            refine z_iload_n dX9_share_37 rfl rfl ?_
            refine z_if_ne 45 dX9_share_38 (by decide) (fun c_37 => absurd c_37 (by decide)) (fun _ => ?_)
            refine z_iconst (v := 1) dX9_share_41 (by decide) ?_
            refine z_goto 68 dX9_share_42 (by decide) ?_
            refine z_iret dX9_share_68 rfl ?_
            exact ⟨by simp only [mshare]; simp_all, rfl⟩
    · skip
      refine z_iconst (v := 1) dX9_share_10 (by decide) ?_
      refine z_goto 15 dX9_share_11 (by decide) ?_
      refine z_istore_n dX9_share_15 rfl (by decide) rfl ?_
      refine z_iload_n dX9_share_16 rfl rfl ?_
      refine z_iconst (v := 2) dX9_share_17 (by decide) ?_
      refine z_icmp_eq 26 dX9_share_18 (by decide) (fun c_38 => ?_) (fun c_38 => ?_)
      · skip
        refine z_iconst (v := 1) dX9_share_26 (by decide) ?_
        refine z_goto 31 dX9_share_27 (by decide) ?_
        refine z_istore dX9_share_31 (by decide) rfl ?_
        refine z_iload_n dX9_share_33 rfl rfl ?_
        refine z_if_ne 69 dX9_share_34 (by decide) (fun c_39 => ?_) (fun c_39 => ?_)
        · skip
          refine z_iload dX9_share_69 rfl ?_
          refine z_if_ne 78 dX9_share_71 (by decide) (fun _ => ?_) (fun c_40 => absurd c_40 (by decide))
          refine z_iload_n dX9_share_78 rfl rfl ?_
          refine z_if_eq 86 dX9_share_79 (by decide) (fun c_41 => absurd c_41 (by decide)) (fun _ => ?_)
          refine z_iconst (v := 2) dX9_share_82 (by decide) ?_
          refine z_goto 87 dX9_share_83 (by decide) ?_
          refine z_iret dX9_share_87 rfl ?_
          exact ⟨by simp only [mshare]; simp_all, rfl⟩
        · skip
          refine z_iload_n dX9_share_37 rfl rfl ?_
          refine z_if_ne 45 dX9_share_38 (by decide) (fun _ => ?_) (fun c_42 => absurd c_42 (by decide))
          refine z_iload_n dX9_share_45 rfl rfl ?_
          refine z_if_eq 54 dX9_share_46 (by decide) (fun c_43 => ?_) (fun c_43 => ?_)
          · skip
            refine z_iconst (v := 3) dX9_share_54 (by decide) ?_
            refine z_goto 68 dX9_share_55 (by decide) ?_
            refine z_iret dX9_share_68 rfl ?_
            exact ⟨by simp only [mshare]; simp_all, rfl⟩
          · skip
            refine z_iload_n dX9_share_49 rfl rfl ?_
            refine z_iconst (v := 5) dX9_share_50 (by decide) ?_
            refine z_icmp_ne 58 dX9_share_51 (by decide) (fun c_44 => ?_) (fun c_44 => ?_)
            · skip
              refine z_iload dX9_share_58 rfl ?_
              refine z_if_eq 67 dX9_share_60 (by decide) (fun c_45 => absurd c_45 (by decide)) (fun _ => ?_)
              refine z_iconst (v := 2) dX9_share_63 (by decide) ?_
              refine z_goto 68 dX9_share_64 (by decide) ?_
              refine z_iret dX9_share_68 rfl ?_
              exact ⟨by simp only [mshare]; simp_all, rfl⟩
            · skip
              refine z_iconst (v := 3) dX9_share_54 (by decide) ?_
              refine z_goto 68 dX9_share_55 (by decide) ?_
              refine z_iret dX9_share_68 rfl ?_
              exact ⟨by simp only [mshare]; simp_all, rfl⟩
      · skip
        refine z_iload_n dX9_share_21 rfl rfl ?_
        refine z_iconst (v := 3) dX9_share_22 (by decide) ?_
        refine z_icmp_ne 30 dX9_share_23 (by decide) (fun c_46 => ?_) (fun c_46 => ?_)
        · skip
          refine z_iconst (v := 0) dX9_share_30 (by decide) ?_
          refine z_istore dX9_share_31 (by decide) rfl ?_
          refine z_iload_n dX9_share_33 rfl rfl ?_
          refine z_if_ne 69 dX9_share_34 (by decide) (fun c_47 => ?_) (fun c_47 => ?_)
          · skip
            refine z_iload dX9_share_69 rfl ?_
            refine z_if_ne 78 dX9_share_71 (by decide) (fun c_48 => absurd c_48 (by decide)) (fun _ => ?_)
            refine z_iconst (v := 1) dX9_share_74 (by decide) ?_
            refine z_goto 87 dX9_share_75 (by decide) ?_
            refine z_iret dX9_share_87 rfl ?_
            exact ⟨by simp only [mshare]; simp_all, rfl⟩
          · skip
            refine z_iload_n dX9_share_37 rfl rfl ?_
            refine z_if_ne 45 dX9_share_38 (by decide) (fun _ => ?_) (fun c_49 => absurd c_49 (by decide))
            refine z_iload_n dX9_share_45 rfl rfl ?_
            refine z_if_eq 54 dX9_share_46 (by decide) (fun c_50 => ?_) (fun c_50 => ?_)
            · skip
              refine z_iconst (v := 3) dX9_share_54 (by decide) ?_
              refine z_goto 68 dX9_share_55 (by decide) ?_
              refine z_iret dX9_share_68 rfl ?_
              exact ⟨by simp only [mshare]; simp_all, rfl⟩
            · skip
              refine z_iload_n dX9_share_49 rfl rfl ?_
              refine z_iconst (v := 5) dX9_share_50 (by decide) ?_
              refine z_icmp_ne 58 dX9_share_51 (by decide) (fun c_51 => ?_) (fun c_51 => ?_)
              · skip
                refine z_iload dX9_share_58 rfl ?_
                refine z_if_eq 67 dX9_share_60 (by decide) (fun _ => ?_) (fun c_52 => absurd c_52 (by decide))
                refine z_iconst (v := 1) dX9_share_67 (by decide) ?_
                refine z_iret dX9_share_68 rfl ?_
                exact ⟨by simp only [mshare]; simp_all, rfl⟩
              · skip
                refine z_iconst (v := 3) dX9_share_54 (by decide) ?_
                refine z_goto 68 dX9_share_55 (by decide) ?_
                refine z_iret dX9_share_68 rfl ?_
                exact ⟨by simp only [mshare]; simp_all, rfl⟩
        · skip
          refine z_iconst (v := 1) dX9_share_26 (by decide) ?_
          refine z_goto 31 dX9_share_27 (by decide) ?_
          refine z_istore dX9_share_31 (by decide) rfl ?_
          refine z_iload_n dX9_share_33 rfl rfl ?_
          refine z_if_ne 69 dX9_share_34 (by decide) (fun c_53 => ?_) (fun c_53 => ?_)
          · skip
            refine z_iload dX9_share_69 rfl ?_
            refine z_if_ne 78 dX9_share_71 (by decide) (fun _ => ?_) (fun c_54 => absurd c_54 (by decide))
            refine z_iload_n dX9_share_78 rfl rfl ?_
            refine z_if_eq 86 dX9_share_79 (by decide) (fun c_55 => absurd c_55 (by decide)) (fun _ => ?_)
            refine z_iconst (v := 2) dX9_share_82 (by decide) ?_
            refine z_goto 87 dX9_share_83 (by decide) ?_
            refine z_iret dX9_share_87 rfl ?_
            exact ⟨by simp only [mshare]; simp_all, rfl⟩
          · skip
            refine z_iload_n dX9_share_37 rfl rfl ?_
            refine z_if_ne 45 dX9_share_38 (by decide) (fun _ => ?_) (fun c_56 => absurd c_56 (by decide))
            refine z_iload_n dX9_share_45 rfl rfl ?_
            refine z_if_eq 54 dX9_share_46 (by decide) (fun c_57 => ?_) (fun c_57 => ?_)
            · skip
              refine z_iconst (v := 3) dX9_share_54 (by decide) ?_
              refine z_goto 68 dX9_share_55 (by decide) ?_
              refine z_iret dX9_share_68 rfl ?_
              exact ⟨by simp only [mshare]; simp_all, rfl⟩
            · skip
              refine z_iload_n dX9_share_49 rfl rfl ?_
              refine z_iconst (v := 5) dX9_share_50 (by decide) ?_
              refine z_icmp_ne 58 dX9_share_51 (by decide) (fun c_58 => ?_) (fun c_58 => ?_)
              · skip
                refine z_iload dX9_share_58 rfl ?_
                refine z_if_eq 67 dX9_share_60 (by decide) (fun c_59 => absurd c_59 (by decide)) (fun _ => ?_)
                refine z_iconst (v := 2) dX9_share_63 (by decide) ?_
                refine z_goto 68 dX9_share_64 (by decide) ?_
                refine z_iret dX9_share_68 rfl ?_
                exact ⟨by simp only [mshare]; simp_all, rfl⟩
              · skip
                refine z_iconst (v := 3) dX9_share_54 (by decide) ?_
                refine z_goto 68 dX9_share_55 (by decide) ?_
                refine z_iret dX9_share_68 rfl ?_
                exact ⟨by simp only [mshare]; simp_all, rfl⟩
def mwf (age wet sh : Int32) : Int32 := (4 + 2 * age) * sh * (10 + wet) / 10
def mww (I : Nat → Nat → Int32) (A p : Nat) (how age wet : Int32) (k : Nat) : Int32 := if mwf age wet (mshare how (nI (k / 6)) (nI (k % 6))) ≤ I A (24 * p + k) then mwf age wet (mshare how (nI (k / 6)) (nI (k % 6))) else I A (24 * p + k)
def mwI (I : Nat → Nat → Int32) (A p : Nat) (how age wet : Int32) (m : Nat) : Nat → Nat → Int32 := fun a j => if a = A ∧ 24 * p ≤ j ∧ j < 24 * p + m then I a j - mww I A p how age wet (j - 24 * p) else I a j
theorem mwI_0 (I : Nat → Nat → Int32) (A p : Nat) (how age wet : Int32) : mwI I A p how age wet 0 = I := by
  funext a j
  unfold mwI
  rw [if_neg (by omega)]
theorem mwI_at (I : Nat → Nat → Int32) (A p : Nat) (how age wet : Int32) (m : Nat) : mwI I A p how age wet m A (24 * p + m) = I A (24 * p + m) := by
  unfold mwI
  rw [if_neg (by omega)]
theorem mwI_s (I : Nat → Nat → Int32) (A p : Nat) (how age wet : Int32) (m : Nat) : zu (mwI I A p how age wet m) A (24 * p + m) (I A (24 * p + m) - mww I A p how age wet m) = mwI I A p how age wet (m + 1) := by
  funext a j
  rw [zu_apply]
  unfold mwI
  by_cases h : a = A ∧ j = 24 * p + m
  · obtain ⟨rfl, rfl⟩ := h
    rw [if_pos ⟨rfl, rfl⟩, if_pos (by omega), show 24 * p + m - 24 * p = m by omega]
  · rw [if_neg h]
    by_cases h2 : a = A ∧ 24 * p ≤ j ∧ j < 24 * p + m
    · rw [if_pos h2, if_pos (by omega)]
    · rw [if_neg h2, if_neg (by
        intro h3
        apply h2
        refine ⟨h3.1, h3.2.1, ?_⟩
        have : ¬ j = 24 * p + m := fun e => h ⟨h3.1, e⟩
        omega)]
abbrev x9_wears : ZX := (RX9, cX9_wears, 9, (some .int), "wears", 1, 40, false)
set_option maxHeartbeats 4000000 in
theorem l9_wears {I : Nat → Nat → Int32} {L : Nat → Nat → Int64} {Q : Option Value → ZH → Prop} {A p : Nat} {how age wet : Int32} (hA : A < 35) (hKA : mK A = (0, 144)) (hp : p < 6) (hQ : Q (some (.int (msum (mww I A p how age wet) 24))) (mh (mwI I A p how age wet 24) L)) : ∀ (m j : Nat), 24 - j < m → j ≤ 24 → ∀ (J : Nat → Nat → Int32) (ls : Nat → Option Value), J = mwI I A p how age wet j → ls 0 = some (.ref A) → ls 1 = some (.int (nI p)) → ls 2 = some (.int how) → ls 3 = some (.int age) → ls 4 = some (.int wet) → ls 5 = some (.int (msum (mww I A p how age wet) j)) → ls 6 = some (.int (nI j)) → Zf x9_wears 0 0 6 ls [] (mh J L) Q := by
  intro m
  induction m with
  | zero => intro j h; omega
  | succ m ih =>
  intro j hm hj J ls hJ hl0 hl1 hl2 hl3 hl4 hl5 hl6
  subst hJ
  refine z_iload dX9_wears_6 hl6 ?_
  refine z_bipush (v := 24) dX9_wears_8 (by decide) ?_
  simp only [zl24]
  refine z_icmp_ge 95 dX9_wears_10 (by decide) (fun c_1 => ?_) (fun c_1 => ?_)
  · skip
    have h1 := (zle (by omega) (by omega)).mp c_1
    have h2 : j = 24 := by omega
    subst h2
    refine z_iload dX9_wears_95 hl5 ?_
    refine z_iret dX9_wears_97 rfl ?_
    exact hQ
  · skip
    have h1 : ¬ 24 ≤ j := fun q => c_1 ((zle (by omega) (by omega)).mpr q)
    refine z_iconst (v := 4) dX9_wears_13 (by decide) ?_
    refine z_iconst (v := 2) dX9_wears_14 (by decide) ?_
    refine z_iload_n dX9_wears_15 rfl hl3 ?_
    refine z_imul dX9_wears_16 ?_
    refine z_iadd dX9_wears_17 ?_
    refine z_iload_n dX9_wears_18 rfl hl2 ?_
    refine z_iload dX9_wears_19 hl6 ?_
    refine z_bipush (v := 6) dX9_wears_21 (by decide) ?_
    refine z_idiv dX9_wears_23 (by decide) ?_
    refine z_iload dX9_wears_24 hl6 ?_
    refine z_bipush (v := 6) dX9_wears_26 (by decide) ?_
    refine z_irem dX9_wears_28 (by decide) ?_
    rw [zl6, zrem (by omega) (by omega) (by omega), zdiv (by omega) (by omega) (by omega)]
    refine z_callS (st := [_]) (mc2 := 0) (ms2 := 0) zi9_245 zs_yX9_share (c9_share _ _ _ _ _) dX9_wears_29 rfl rfl (by decide) (by decide) (Nat.le_of_ble_eq_true rfl) (by decide) (by decide) (fun r h2 hq => ?_)
    obtain ⟨rfl, rfl⟩ := hq
    refine z_imul dX9_wears_32 ?_
    refine z_bipush (v := 10) dX9_wears_33 (by decide) ?_
    refine z_iload dX9_wears_35 hl4 ?_
    refine z_iadd dX9_wears_37 ?_
    refine z_imul dX9_wears_38 ?_
    refine z_bipush (v := 10) dX9_wears_39 (by decide) ?_
    refine z_idiv dX9_wears_41 (by decide) ?_
    refine z_istore dX9_wears_42 (by decide) rfl ?_
    refine z_bipush (v := 24) dX9_wears_44 (by decide) ?_
    refine z_iload_n dX9_wears_46 rfl hl1 ?_
    refine z_imul dX9_wears_47 ?_
    refine z_iload dX9_wears_48 hl6 ?_
    refine z_iadd dX9_wears_50 ?_
    simp only [zl24, pk_mul, nI_add]
    refine z_istore dX9_wears_51 (by decide) rfl ?_
    refine z_iload dX9_wears_53 rfl ?_
    refine z_aload_n dX9_wears_55 rfl hl0 ?_
    refine z_iload dX9_wears_56 rfl ?_
    refine z_iald dX9_wears_58 hA hKA (zvin (by omega) (by omega)) ?_
    rw [zcl (by omega), mwI_at]
    refine z_icmp_le 69 dX9_wears_59 (by decide) (fun c_2 => ?_) (fun c_2 => ?_)
    · skip
      refine z_iload dX9_wears_69 rfl ?_
      refine z_topi (fun w hw => ?_)
      have e2 : w = mww I A p how age wet j := by first | exact hw.trans (if_pos c_2).symm | exact hw.trans (if_neg c_2).symm
      subst e2
      refine z_istore dX9_wears_71 (by decide) rfl ?_
      refine z_aload_n dX9_wears_73 rfl hl0 ?_
      refine z_iload dX9_wears_74 rfl ?_
      refine z_dup2 dX9_wears_76 rfl rfl ?_
      refine z_iald dX9_wears_77 hA hKA (zvin (by omega) (by omega)) ?_
      rw [zcl (by omega), mwI_at]
      refine z_iload dX9_wears_78 rfl ?_
      refine z_isub dX9_wears_80 ?_
      refine z_iast dX9_wears_81 hA hKA (zvin (by omega) (by omega)) ?_
      refine z_iload dX9_wears_82 hl5 ?_
      refine z_iload dX9_wears_84 rfl ?_
      refine z_iadd dX9_wears_86 ?_
      refine z_istore dX9_wears_87 (by decide) rfl ?_
      refine z_iinc dX9_wears_89 hl6 rfl ?_
      refine z_goto 6 dX9_wears_92 (by decide) ?_
      rw [zinc]
      exact ih (j + 1) (by omega) (by omega) _ _ (by rw [zcl (by omega)]; exact mwI_s I A p how age wet j) hl0 hl1 hl2 hl3 hl4 rfl rfl
    · skip
      refine z_aload_n dX9_wears_62 rfl hl0 ?_
      refine z_iload dX9_wears_63 rfl ?_
      refine z_iald dX9_wears_65 hA hKA (zvin (by omega) (by omega)) ?_
      rw [zcl (by omega), mwI_at]
      refine z_goto 71 dX9_wears_66 (by decide) ?_
      refine z_topi (fun w hw => ?_)
      have e2 : w = mww I A p how age wet j := by first | exact hw.trans (if_pos c_2).symm | exact hw.trans (if_neg c_2).symm
      subst e2
      refine z_istore dX9_wears_71 (by decide) rfl ?_
      refine z_aload_n dX9_wears_73 rfl hl0 ?_
      refine z_iload dX9_wears_74 rfl ?_
      refine z_dup2 dX9_wears_76 rfl rfl ?_
      refine z_iald dX9_wears_77 hA hKA (zvin (by omega) (by omega)) ?_
      rw [zcl (by omega), mwI_at]
      refine z_iload dX9_wears_78 rfl ?_
      refine z_isub dX9_wears_80 ?_
      refine z_iast dX9_wears_81 hA hKA (zvin (by omega) (by omega)) ?_
      refine z_iload dX9_wears_82 hl5 ?_
      refine z_iload dX9_wears_84 rfl ?_
      refine z_iadd dX9_wears_86 ?_
      refine z_istore dX9_wears_87 (by decide) rfl ?_
      refine z_iinc dX9_wears_89 hl6 rfl ?_
      refine z_goto 6 dX9_wears_92 (by decide) ?_
      rw [zinc]
      exact ih (j + 1) (by omega) (by omega) _ _ (by rw [zcl (by omega)]; exact mwI_s I A p how age wet j) hl0 hl1 hl2 hl3 hl4 rfl rfl
set_option maxHeartbeats 4000000 in
theorem c9_wears (I : Nat → Nat → Int32) (L : Nat → Nat → Int64) (A p : Nat) (how age wet : Int32) (hA : A < 35) (hKA : mK A = (0, 144)) (hp : p < 6) : Zm yX9_wears cX9_wears 9 (some .int) 1 40 0 0 [.ref A, .int (nI p), .int how, .int age, .int wet] (mh I L) (mQ (some (.int (msum (mww I A p how age wet) 24))) (mwI I A p how age wet 24) L) := by
  refine Zm_of (lg := false) (by decide) (fun _ => by simp [Value.category]) (fun _ => Nat.le_of_ble_eq_true rfl) ?_
  show Zf x9_wears 0 0 0 (zargs [.ref A, .int (nI p), .int how, .int age, .int wet]) [] (mh I L) _
  refine z_iconst (v := 0) dX9_wears_0 (by decide) ?_
  refine z_istore dX9_wears_1 (by decide) rfl ?_
  refine z_iconst (v := 0) dX9_wears_3 (by decide) ?_
  refine z_istore dX9_wears_4 (by decide) rfl ?_
  exact l9_wears hA hKA hp ⟨rfl, rfl⟩ 25 0 (by omega) (by omega) _ _ (mwI_0 _ _ _ _ _ _).symm rfl rfl rfl rfl rfl rfl rfl
