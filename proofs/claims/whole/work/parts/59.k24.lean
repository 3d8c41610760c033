theorem dJ0_length_8abf5_0 : decode cJ0_length_8abf5 0 = .ok (.aload_n 0, 1) := by decide +kernel
theorem dJ0_length_8abf5_1 : decode cJ0_length_8abf5 1 = .ok (.getfield 9, 3) := by decide +kernel
theorem dJ0_length_8abf5_4 : decode cJ0_length_8abf5 4 = .ok (.arraylength, 1) := by decide +kernel
theorem dJ0_length_8abf5_5 : decode cJ0_length_8abf5 5 = .ok (.aload_n 0, 1) := by decide +kernel
theorem dJ0_length_8abf5_6 : decode cJ0_length_8abf5 6 = .ok (.invokevirtual 335, 3) := by decide +kernel
theorem dJ0_length_8abf5_9 : decode cJ0_length_8abf5 9 = .ok (.ishr, 1) := by decide +kernel
theorem dJ0_length_8abf5_10 : decode cJ0_length_8abf5 10 = .ok (.ireturn, 1) := by decide +kernel
theorem dJ0_charAt_5068e_0 : decode cJ0_charAt_5068e 0 = .ok (.aload_n 0, 1) := by decide +kernel
theorem dJ0_charAt_5068e_1 : decode cJ0_charAt_5068e 1 = .ok (.invokevirtual 492, 3) := by decide +kernel
theorem dJ0_charAt_5068e_4 : decode cJ0_charAt_5068e 4 = .ok (.ifCond .eq 12, 3) := by decide +kernel
theorem dJ0_charAt_5068e_7 : decode cJ0_charAt_5068e 7 = .ok (.aload_n 0, 1) := by decide +kernel
theorem dJ0_charAt_5068e_8 : decode cJ0_charAt_5068e 8 = .ok (.getfield 9, 3) := by decide +kernel
theorem dJ0_charAt_5068e_11 : decode cJ0_charAt_5068e 11 = .ok (.iload_n 1, 1) := by decide +kernel
theorem dJ0_charAt_5068e_12 : decode cJ0_charAt_5068e 12 = .ok (.invokestatic 495, 3) := by decide +kernel
theorem dJ0_charAt_5068e_15 : decode cJ0_charAt_5068e 15 = .ok (.ireturn, 1) := by decide +kernel
theorem dJ0_charAt_5068e_16 : decode cJ0_charAt_5068e 16 = .ok (.aload_n 0, 1) := by decide +kernel
theorem dJ0_charAt_5068e_17 : decode cJ0_charAt_5068e 17 = .ok (.getfield 9, 3) := by decide +kernel
theorem dJ0_charAt_5068e_20 : decode cJ0_charAt_5068e 20 = .ok (.iload_n 1, 1) := by decide +kernel
theorem dJ0_charAt_5068e_21 : decode cJ0_charAt_5068e 21 = .ok (.invokestatic 498, 3) := by decide +kernel
theorem dJ0_charAt_5068e_24 : decode cJ0_charAt_5068e 24 = .ok (.ireturn, 1) := by decide +kernel
theorem dJ0_coder_7d493_0 : decode cJ0_coder_7d493 0 = .ok (.getstatic 38, 3) := by decide +kernel
theorem dJ0_coder_7d493_3 : decode cJ0_coder_7d493 3 = .ok (.ifCond .eq 10, 3) := by decide +kernel
theorem dJ0_coder_7d493_6 : decode cJ0_coder_7d493 6 = .ok (.aload_n 0, 1) := by decide +kernel
theorem dJ0_coder_7d493_7 : decode cJ0_coder_7d493 7 = .ok (.getfield 15, 3) := by decide +kernel
theorem dJ0_coder_7d493_10 : decode cJ0_coder_7d493 10 = .ok (.goto 4, 3) := by decide +kernel
theorem dJ0_coder_7d493_13 : decode cJ0_coder_7d493 13 = .ok (.iconst 1, 1) := by decide +kernel
theorem dJ0_coder_7d493_14 : decode cJ0_coder_7d493 14 = .ok (.ireturn, 1) := by decide +kernel
theorem dJ0_isLatin1_aae02_0 : decode cJ0_isLatin1_aae02 0 = .ok (.getstatic 38, 3) := by decide +kernel
theorem dJ0_isLatin1_aae02_3 : decode cJ0_isLatin1_aae02 3 = .ok (.ifCond .eq 14, 3) := by decide +kernel
theorem dJ0_isLatin1_aae02_6 : decode cJ0_isLatin1_aae02 6 = .ok (.aload_n 0, 1) := by decide +kernel
theorem dJ0_isLatin1_aae02_7 : decode cJ0_isLatin1_aae02 7 = .ok (.getfield 15, 3) := by decide +kernel
theorem dJ0_isLatin1_aae02_10 : decode cJ0_isLatin1_aae02 10 = .ok (.ifCond .ne 7, 3) := by decide +kernel
theorem dJ0_isLatin1_aae02_13 : decode cJ0_isLatin1_aae02 13 = .ok (.iconst 1, 1) := by decide +kernel
theorem dJ0_isLatin1_aae02_14 : decode cJ0_isLatin1_aae02 14 = .ok (.goto 4, 3) := by decide +kernel
theorem dJ0_isLatin1_aae02_17 : decode cJ0_isLatin1_aae02 17 = .ok (.iconst 0, 1) := by decide +kernel
theorem dJ0_isLatin1_aae02_18 : decode cJ0_isLatin1_aae02 18 = .ok (.ireturn, 1) := by decide +kernel
theorem dJ0_checkIndex_df160_0 : decode cJ0_checkIndex_df160 0 = .ok (.iload_n 0, 1) := by decide +kernel
theorem dJ0_checkIndex_df160_1 : decode cJ0_checkIndex_df160 1 = .ok (.iload_n 1, 1) := by decide +kernel
theorem dJ0_checkIndex_df160_2 : decode cJ0_checkIndex_df160 2 = .ok (.getstatic 1053, 3) := by decide +kernel
theorem dJ0_checkIndex_df160_5 : decode cJ0_checkIndex_df160 5 = .ok (.invokestatic 1059, 3) := by decide +kernel
theorem dJ0_checkIndex_df160_8 : decode cJ0_checkIndex_df160 8 = .ok (.pop, 1) := by decide +kernel
theorem dJ0_checkIndex_df160_9 : decode cJ0_checkIndex_df160 9 = .ok (.return_, 1) := by decide +kernel
theorem dJ1_charAt_3b067_0 : decode cJ1_charAt_3b067 0 = .ok (.iload_n 1, 1) := by decide +kernel
theorem dJ1_charAt_3b067_1 : decode cJ1_charAt_3b067 1 = .ok (.aload_n 0, 1) := by decide +kernel
theorem dJ1_charAt_3b067_2 : decode cJ1_charAt_3b067 2 = .ok (.arraylength, 1) := by decide +kernel
theorem dJ1_charAt_3b067_3 : decode cJ1_charAt_3b067 3 = .ok (.invokestatic 9, 3) := by decide +kernel
theorem dJ1_charAt_3b067_6 : decode cJ1_charAt_3b067 6 = .ok (.aload_n 0, 1) := by decide +kernel
theorem dJ1_charAt_3b067_7 : decode cJ1_charAt_3b067 7 = .ok (.iload_n 1, 1) := by decide +kernel
theorem dJ1_charAt_3b067_8 : decode cJ1_charAt_3b067 8 = .ok (.baload, 1) := by decide +kernel
theorem dJ1_charAt_3b067_9 : decode cJ1_charAt_3b067 9 = .ok (.sipush 255, 3) := by decide +kernel
theorem dJ1_charAt_3b067_12 : decode cJ1_charAt_3b067 12 = .ok (.iand, 1) := by decide +kernel
theorem dJ1_charAt_3b067_13 : decode cJ1_charAt_3b067 13 = .ok (.i2c, 1) := by decide +kernel
theorem dJ1_charAt_3b067_14 : decode cJ1_charAt_3b067 14 = .ok (.ireturn, 1) := by decide +kernel
theorem dJ3_checkIndex_8e157_0 : decode cJ3_checkIndex_8e157 0 = .ok (.iload_n 0, 1) := by decide +kernel
theorem dJ3_checkIndex_8e157_1 : decode cJ3_checkIndex_8e157 1 = .ok (.ifCond .lt 8, 3) := by decide +kernel
theorem dJ3_checkIndex_8e157_4 : decode cJ3_checkIndex_8e157 4 = .ok (.iload_n 0, 1) := by decide +kernel
theorem dJ3_checkIndex_8e157_5 : decode cJ3_checkIndex_8e157 5 = .ok (.iload_n 1, 1) := by decide +kernel
theorem dJ3_checkIndex_8e157_6 : decode cJ3_checkIndex_8e157 6 = .ok (.if_icmp .lt 10, 3) := by decide +kernel
theorem dJ3_checkIndex_8e157_9 : decode cJ3_checkIndex_8e157 9 = .ok (.aload_n 2, 1) := by decide +kernel
theorem dJ3_checkIndex_8e157_10 : decode cJ3_checkIndex_8e157 10 = .ok (.iload_n 0, 1) := by decide +kernel
theorem dJ3_checkIndex_8e157_11 : decode cJ3_checkIndex_8e157 11 = .ok (.iload_n 1, 1) := by decide +kernel
theorem dJ3_checkIndex_8e157_12 : decode cJ3_checkIndex_8e157 12 = .ok (.invokestatic 95, 3) := by decide +kernel
theorem dJ3_checkIndex_8e157_15 : decode cJ3_checkIndex_8e157 15 = .ok (.athrow, 1) := by decide +kernel
theorem dJ3_checkIndex_8e157_16 : decode cJ3_checkIndex_8e157 16 = .ok (.iload_n 0, 1) := by decide +kernel
theorem dJ3_checkIndex_8e157_17 : decode cJ3_checkIndex_8e157 17 = .ok (.ireturn, 1) := by decide +kernel
/-! String constants in the Z logic: rows, and the JDK's small methods -/
theorem zfu {i : Nat} (h : i < 1000) : (UInt32.ofNat i).toNat = i := by
  rw [UInt32.toNat_ofNat']
  omega
theorem zcF (g : ZG) {i : Nat} (h : i < 1000) : zc g (.float (UInt32.ofNat i)) = .ref (g.2 i) := by
  show Value.ref (g.2 (UInt32.ofNat i).toNat) = _
  rw [zfu h]
section ZSTR
variable {X : ZX} {mc ms pc : Nat} {ls : Nat → Option Value} {st : List Value} {h : ZH} {Q : Option Value → ZH → Prop}
theorem z_bret {v : Int32} {ty : FieldType} (hd : decode X.2.1 pc = .ok (.ireturn, 1)) (hr : X.2.2.2.1 = some ty) (hv : narrow ty (.int v) = .int v) (hq : Q (some (.int v)) h) : Zf X mc ms pc ls [.int v] h Q := by
  intro p l e Rm s m args below meth c H locs cells slots D tc g A MC MS lsA C
  have h1 := C.2.1.2.2.1
  have h2 := C.2.1.2.2.2.2.1
  refine W.widen (k := MC) (n := MS) (by omega) (by omega) ?_
  exact W.zret (ty := ty) C.1.1 C.1.2.1 (C.1.2.2.1.trans hr) hv (C.end hq) C.2.2.2.1.2.2.2.2 hd C.1.2.2.2.2.2.2.1
theorem z_sgV {i index : Nat} (hi : i < 12) (hd : decode X.2.1 pc = .ok (.getfield index, 3)) (w : Cond.fieldLink X.1 index "java/lang/String" "value" "[B" ∈ zTB) (kk : Zf X mc ms (pc + 3) ls (.float (UInt32.ofNat (200 + i)) :: st) h Q) : Zf X mc ms pc ls (.float (UInt32.ofNat i) :: st) h Q := by
  intro p l e Rm s m args below meth c H locs cells slots D tc g A MC MS lsA C
  obtain ⟨-, -, -, -, z5, -⟩ := C.2.2.1.2.1
  have h9 := kk p l e Rm s m args below meth c H locs cells slots D tc g A MC MS lsA C
  rw [List.map_cons, zcF g (show 200 + i < 1000 by omega)] at h9
  rw [List.map_cons, zcF g (show i < 1000 by omega)]
  exact vk_getf C.1.1 C.1.2.1 (z5.1 i hi).2.2.1 C.2.2.2.1.2.2 C.1.2.2.2.2.1 (C.1.2.2.2.2.2.1 _ w) (fun _ h => h) hd h9
theorem z_sgC {i index : Nat} (hi : i < 12) (hd : decode X.2.1 pc = .ok (.getfield index, 3)) (w : Cond.fieldLink X.1 index "java/lang/String" "coder" "B" ∈ zTB) (kk : Zf X mc ms (pc + 3) ls (.int 0 :: st) h Q) : Zf X mc ms pc ls (.float (UInt32.ofNat i) :: st) h Q := by
  intro p l e Rm s m args below meth c H locs cells slots D tc g A MC MS lsA C
  obtain ⟨-, -, -, -, z5, -⟩ := C.2.2.1.2.1
  have h9 := kk p l e Rm s m args below meth c H locs cells slots D tc g A MC MS lsA C
  rw [List.map_cons, zcF g (show i < 1000 by omega)]
  exact vk_getf C.1.1 C.1.2.1 (z5.1 i hi).2.1 C.2.2.2.1.2.2 C.1.2.2.2.2.1 (C.1.2.2.2.2.2.1 _ w) (fun _ h => h) hd h9
theorem z_slen {i : Nat} {v : Int32} (hi : i < 12) (hv : Int32.ofNat (zLen.getD i 0) = v) (hd : decode X.2.1 pc = .ok (.arraylength, 1)) (kk : Zf X mc ms (pc + 1) ls (.int v :: st) h Q) : Zf X mc ms pc ls (.float (UInt32.ofNat (200 + i)) :: st) h Q := by
  intro p l e Rm s m args below meth c H locs cells slots D tc g A MC MS lsA C
  obtain ⟨-, -, -, -, z5, -⟩ := C.2.2.1.2.1
  have h9 := kk p l e Rm s m args below meth c H locs cells slots D tc g A MC MS lsA C
  rw [List.map_cons, zcF g (show 200 + i < 1000 by omega)]
  exact va_tlen C.1.1 C.1.2.1 (z5.1 i hi).2.2.2 C.2.2.2.1.2.2 hv hd h9
theorem z_sbal {i : Nat} {k : Int32} (hi : i < 12) (hin : vp_in k (zLen.getD i 0)) (hd : decode X.2.1 pc = .ok (.baload, 1)) (kk : Zf X mc ms (pc + 1) ls (.int ((zByt.getD i []).getD k.toNatClampNeg 0) :: st) h Q) : Zf X mc ms pc ls (.int k :: .float (UInt32.ofNat (200 + i)) :: st) h Q := by
  intro p l e Rm s m args below meth c H locs cells slots D tc g A MC MS lsA C
  obtain ⟨-, -, -, -, z5, -⟩ := C.2.2.1.2.1
  have h9 := kk p l e Rm s m args below meth c H locs cells slots D tc g A MC MS lsA C
  rw [List.map_cons, List.map_cons, zcF g (show 200 + i < 1000 by omega)]
  exact va_tb C.1.1 C.1.2.1 (z5.1 i hi).2.2.2 C.2.2.2.1.2.2 hin rfl hd h9
theorem z_getsC {index : Nat} (hd : decode X.2.1 pc = .ok (.getstatic index, 3)) (w : Cond.fieldLink X.1 index RJ0 "COMPACT_STRINGS" "Z" ∈ zTB) (kk : Zf X mc ms (pc + 3) ls (.int 1 :: st) h Q) : Zf X mc ms pc ls st h Q := by
  intro p l e Rm s m args below meth c H locs cells slots D tc g A MC MS lsA C
  obtain ⟨-, -, -, -, -, -, -, z8, -⟩ := C.2.2.1.2.1
  exact va_gets C.1.1 C.1.2.1 z8 C.2.2.2.1.2.2 C.1.2.2.2.2.1 (C.1.2.2.2.2.2.1 _ w) (fun _ h => h) hd (kk p l e Rm s m args below meth c H locs cells slots D tc g A MC MS lsA C)
theorem z_getsF {index : Nat} (hd : decode X.2.1 pc = .ok (.getstatic index, 3)) (w : Cond.fieldLink X.1 index RJ3 "SIOOBE_FORMATTER" "Ljava/util/function/BiFunction;" ∈ zTB) (k0 : Zf X mc ms (pc + 3) ls (.null :: st) h Q) (k1 : Zf X mc ms (pc + 3) ls (.float 102 :: st) h Q) : Zf X mc ms pc ls st h Q := by
  intro p l e Rm s m args below meth c H locs cells slots D tc g A MC MS lsA C
  obtain ⟨-, -, -, -, -, -, -, -, z9⟩ := C.2.2.1.2.1
  rcases z9 with z9 | z9
  · exact va_gets C.1.1 C.1.2.1 z9 C.2.2.2.1.2.2 C.1.2.2.2.2.1 (C.1.2.2.2.2.2.1 _ w) (fun _ h => h) hd (k0 p l e Rm s m args below meth c H locs cells slots D tc g A MC MS lsA C)
  · exact va_gets C.1.1 C.1.2.1 z9 C.2.2.2.1.2.2 C.1.2.2.2.2.1 (C.1.2.2.2.2.2.1 _ w) (fun _ h => h) hd (k1 p l e Rm s m args below meth c H locs cells slots D tc g A MC MS lsA C)
theorem z_callVF {index na mc' ms' mc2 ms2 fr lo i : Nat} {y : MethodName} {cc : ByteArray} {nL : Nat} {ret : Option FieldType} {as : List Value} {Qy : Option Value → ZH → Prop} {s0 : List Value} (hi12 : i < 12) (hcls : y.cls = "java/lang/String") (hi : zInv X.1 index y cc nL ret na) (hy : zIns y) (hm : Zm y cc nL ret fr lo mc' ms' (.float (UInt32.ofNat i) :: as) h Qy) (hd : decode X.2.1 pc = .ok (.invokevirtual index, 3)) (hs0 : s0 = as.reverse ++ .float (UInt32.ofNat i) :: st) (hna : as.length = na) (hfr : fr + 1 ≤ X.2.2.2.2.2.1) (hlo : 8 + (nL + 11) + lo ≤ X.2.2.2.2.2.2.1) (hst : (st.map Value.category).sum ≤ 8) (hmc : mc2 + mc' ≤ mc) (hms : ms2 + ms' ≤ ms)
    (kk : ∀ (r : Option Value) (h2 : ZH), Qy r h2 → Zf X mc2 ms2 (pc + 3) ls (r.toList ++ st) h2 Q) : Zf X mc ms pc ls s0 h Q := by
  intro p l e Rm s m args below meth c H locs cells slots D tc g A MC MS lsA C
  subst hs0
  have hts := C.1.2.2.2.2.2.1
  have g1 := C.2.1.2.2.1
  have g2 := C.2.1.2.2.2.2.1
  have g3 := C.2.1.2.2.2.1
  have g4 := C.2.1.2.2.2.2.2
  have g5 := C.2.1.1
  have g6 := C.2.1.2.1
  obtain ⟨h1, h2, h3, h4⟩ := hi
  obtain ⟨-, -, -, -, z5, -⟩ := C.2.2.1.2.1
  have hz := zcF g (show i < 1000 by omega)
  have hm' := hm l D tc g H.size
  rw [List.map_cons, hz] at hm'
  have hrc := vk_recv z5 hi12 C.2.2.2.1.2.2
  rw [← hcls] at hrc
  refine z_after (mc' := mc') (ms' := ms') (a := (Value.ref (g.2 i) :: as.map (zc g)).toArray) C hmc hms (va_runV (C := y.cls) (b := g.2 i) (As := as.map (zc g)) (rest := st.map (zc g)) ⟨C.1.1, C.1.2.1, C.1.2.2.2.1, C.1.2.2.2.2.1, hts⟩ hm' ⟨callB_of na hts (zGood h2) rfl rfl rfl (hts _ h3) (hts _ h1) h4 ⟨by show fr + 1 ≤ _; omega, by show 8 + (nL + 11) + lo ≤ _; omega⟩, hts _ hy.1, hts _ hy.2⟩ ⟨zBlind, hrc, fun U hU hW => ⟨rfl, C.pre U hU hW⟩⟩ rfl (by rw [List.length_map]; exact hna) C.2.2.2.2.1 (by rw [List.map_append, List.map_cons, hz, List.map_reverse]) (z_room hst) hd ⟨by omega, by omega⟩) kk
end ZSTR
abbrev kQh (r : Option Value) (h : ZH) : Option Value → ZH → Prop := fun r2 h2 => r2 = r ∧ h2 = h
theorem zJ_84 : zInv RX6 84 yJ0_length_8abf5 cJ0_length_8abf5 1 (some .int) 0 := ⟨zTB_of (by decide +kernel) rfl, zTB_of (by decide +kernel) rfl, zTB_of (by decide +kernel) rfl, by decide, by decide, by decide +kernel⟩
theorem zJ_90 : zInv RX6 90 yJ0_charAt_5068e cJ0_charAt_5068e 2 (some .char) 1 := ⟨zTB_of (by decide +kernel) rfl, zTB_of (by decide +kernel) rfl, zTB_of (by decide +kernel) rfl, by decide, by decide, by decide +kernel⟩
theorem zJ_335 : zInv RJ0 335 yJ0_coder_7d493 cJ0_coder_7d493 1 (some .byte) 0 := ⟨zTB_of (by decide +kernel) rfl, zTB_of (by decide +kernel) rfl, zTB_of (by decide +kernel) rfl, by decide, by decide, by decide +kernel⟩
theorem zJ_492 : zInv RJ0 492 yJ0_isLatin1_aae02 cJ0_isLatin1_aae02 1 (some .boolean) 0 := ⟨zTB_of (by decide +kernel) rfl, zTB_of (by decide +kernel) rfl, zTB_of (by decide +kernel) rfl, by decide, by decide, by decide +kernel⟩
theorem zJ_495 : zInv RJ0 495 yJ1_charAt_3b067 cJ1_charAt_3b067 2 (some .char) 2 := ⟨zTB_of (by decide +kernel) rfl, zTB_of (by decide +kernel) rfl, zTB_of (by decide +kernel) rfl, by decide, by decide, by decide +kernel⟩
theorem zJ_9 : zInv RJ1 9 yJ0_checkIndex_df160 cJ0_checkIndex_df160 2 none 2 := ⟨zTB_of (by decide +kernel) rfl, zTB_of (by decide +kernel) rfl, zTB_of (by decide +kernel) rfl, by decide, by decide, by decide +kernel⟩
theorem zJ_1059 : zInv RJ0 1059 yJ3_checkIndex_8e157 cJ3_checkIndex_8e157 3 (some .int) 3 := ⟨zTB_of (by decide +kernel) rfl, zTB_of (by decide +kernel) rfl, zTB_of (by decide +kernel) rfl, by decide, by decide, by decide +kernel⟩
theorem zJv_len : zIns yJ0_length_8abf5 := ⟨zTB_of (by decide +kernel) rfl, zTB_of (by decide +kernel) rfl⟩
theorem zJv_chr : zIns yJ0_charAt_5068e := ⟨zTB_of (by decide +kernel) rfl, zTB_of (by decide +kernel) rfl⟩
theorem zJv_cod : zIns yJ0_coder_7d493 := ⟨zTB_of (by decide +kernel) rfl, zTB_of (by decide +kernel) rfl⟩
theorem zJv_lat : zIns yJ0_isLatin1_aae02 := ⟨zTB_of (by decide +kernel) rfl, zTB_of (by decide +kernel) rfl⟩
theorem zJs_chr : Cond.static yJ1_charAt_3b067 ∈ zTB := zTB_of (by decide +kernel) rfl
theorem zJs_chk : Cond.static yJ0_checkIndex_df160 ∈ zTB := zTB_of (by decide +kernel) rfl
theorem zJs_pre : Cond.static yJ3_checkIndex_8e157 ∈ zTB := zTB_of (by decide +kernel) rfl
abbrev xJ_coder : ZX := (RJ0, cJ0_coder_7d493, 1, some .byte, "coder", 0, 0, false)
theorem cJ_coder (h : ZH) (i : Nat) (hi : i < 12) : Zm yJ0_coder_7d493 cJ0_coder_7d493 1 (some .byte) 0 0 0 0 [.float (UInt32.ofNat i)] h (kQh (some (.int 0)) h) := by
  refine Zm_of (lg := false) (by decide) (fun _ => by simp [Value.category]) (fun _ => Nat.le_of_ble_eq_true rfl) ?_
  show Zf xJ_coder 0 0 0 (zargs [.float (UInt32.ofNat i)]) [] h _
  refine z_getsC dJ0_coder_7d493_0 (zTB_of (by decide +kernel) rfl) ?_
  refine z_if_eq 13 dJ0_coder_7d493_3 (by decide) (fun c => absurd c (by decide)) (fun _ => ?_)
  refine z_aload_nF (i := 0) dJ0_coder_7d493_6 rfl rfl ?_
  refine z_sgC hi dJ0_coder_7d493_7 (zTB_of (by decide +kernel) rfl) ?_
  refine z_goto 14 dJ0_coder_7d493_10 (by decide) ?_
  exact z_bret (ty := .byte) dJ0_coder_7d493_14 rfl rfl ⟨rfl, rfl⟩
abbrev xJ_isLatin1 : ZX := (RJ0, cJ0_isLatin1_aae02, 1, some .boolean, "isLatin1", 0, 0, false)
theorem cJ_isLatin1 (h : ZH) (i : Nat) (hi : i < 12) : Zm yJ0_isLatin1_aae02 cJ0_isLatin1_aae02 1 (some .boolean) 0 0 0 0 [.float (UInt32.ofNat i)] h (kQh (some (.int 1)) h) := by
  refine Zm_of (lg := false) (by decide) (fun _ => by simp [Value.category]) (fun _ => Nat.le_of_ble_eq_true rfl) ?_
  show Zf xJ_isLatin1 0 0 0 (zargs [.float (UInt32.ofNat i)]) [] h _
  refine z_getsC dJ0_isLatin1_aae02_0 (zTB_of (by decide +kernel) rfl) ?_
  refine z_if_eq 17 dJ0_isLatin1_aae02_3 (by decide) (fun c => absurd c (by decide)) (fun _ => ?_)
  refine z_aload_nF (i := 0) dJ0_isLatin1_aae02_6 rfl rfl ?_
  refine z_sgC hi dJ0_isLatin1_aae02_7 (zTB_of (by decide +kernel) rfl) ?_
  refine z_if_ne 17 dJ0_isLatin1_aae02_10 (by decide) (fun c => absurd rfl c) (fun _ => ?_)
  refine z_iconst (v := 1) dJ0_isLatin1_aae02_13 (by decide) ?_
  refine z_goto 18 dJ0_isLatin1_aae02_14 (by decide) ?_
  exact z_zret dJ0_isLatin1_aae02_18 rfl (Or.inr rfl) ⟨rfl, rfl⟩
theorem zLenS : ∀ i, i < 12 → Int32.ofNat (zLen.getD i 0) >>> (0 &&& 31) = nI (zLen.getD i 0) ∧ zLen.getD i 0 ≤ 6 := by decide +kernel
abbrev xJ_length : ZX := (RJ0, cJ0_length_8abf5, 1, some .int, "length", 1, 40, false)
theorem cJ_length (h : ZH) (i : Nat) (hi : i < 12) : Zm yJ0_length_8abf5 cJ0_length_8abf5 1 (some .int) 1 40 0 0 [.float (UInt32.ofNat i)] h (kQh (some (.int (nI (zLen.getD i 0)))) h) := by
  refine Zm_of (lg := false) (by decide) (fun _ => by simp [Value.category]) (fun _ => Nat.le_of_ble_eq_true rfl) ?_
  show Zf xJ_length 0 0 0 (zargs [.float (UInt32.ofNat i)]) [] h _
  refine z_aload_nF (i := 0) dJ0_length_8abf5_0 rfl rfl ?_
  refine z_sgV hi dJ0_length_8abf5_1 (zTB_of (by decide +kernel) rfl) ?_
  refine z_slen hi rfl dJ0_length_8abf5_4 ?_
  refine z_aload_nF (i := 0) dJ0_length_8abf5_5 rfl rfl ?_
  refine z_callVF (st := [_]) (mc2 := 0) (ms2 := 0) hi rfl zJ_335 zJv_cod (cJ_coder h i hi) dJ0_length_8abf5_6 rfl rfl (by decide) (by decide) (Nat.le_of_ble_eq_true rfl) (by decide) (by decide) (fun r h2 hq => ?_)
  obtain ⟨rfl, rfl⟩ := hq
  refine z_ishr dJ0_length_8abf5_9 ?_
  refine z_iret dJ0_length_8abf5_10 rfl ?_
  rw [(zLenS i hi).1]
  exact ⟨rfl, rfl⟩
abbrev xJ_pre : ZX := (RJ3, cJ3_checkIndex_8e157, 3, some .int, "checkIndex", 0, 0, false)
theorem cJ_preN (h : ZH) (k n : Nat) (hk : k < n) (hn : n ≤ 1000) : Zm yJ3_checkIndex_8e157 cJ3_checkIndex_8e157 3 (some .int) 0 0 0 0 [.int (nI k), .int (nI n), .null] h (kQh (some (.int (nI k))) h) := by
  refine Zm_of (lg := false) (by decide) (fun _ => by simp [Value.category]) (fun _ => Nat.le_of_ble_eq_true rfl) ?_
  show Zf xJ_pre 0 0 0 (zargs [.int (nI k), .int (nI n), .null]) [] h _
  refine z_iload_n (i := 0) dJ3_checkIndex_8e157_0 rfl rfl ?_
  refine z_if_lt 9 dJ3_checkIndex_8e157_1 (by decide) (fun c => absurd ((zlt (a := k) (b := 0) (by omega) (by omega)).mp c) (by omega)) (fun _ => ?_)
  refine z_iload_n (i := 0) dJ3_checkIndex_8e157_4 rfl rfl ?_
  refine z_iload_n (i := 1) dJ3_checkIndex_8e157_5 rfl rfl ?_
  refine z_icmp_lt 16 dJ3_checkIndex_8e157_6 (by decide) (fun _ => ?_) (fun c => absurd ((zlt (a := k) (b := n) (by omega) (by omega)).mpr hk) c)
  refine z_iload_n (i := 0) dJ3_checkIndex_8e157_16 rfl rfl ?_
  exact z_iret dJ3_checkIndex_8e157_17 rfl ⟨rfl, rfl⟩
theorem cJ_preF (h : ZH) (k n : Nat) (hk : k < n) (hn : n ≤ 1000) : Zm yJ3_checkIndex_8e157 cJ3_checkIndex_8e157 3 (some .int) 0 0 0 0 [.int (nI k), .int (nI n), .float 102] h (kQh (some (.int (nI k))) h) := by
  refine Zm_of (lg := false) (by decide) (fun _ => by simp [Value.category]) (fun _ => Nat.le_of_ble_eq_true rfl) ?_
  show Zf xJ_pre 0 0 0 (zargs [.int (nI k), .int (nI n), .float 102]) [] h _
  refine z_iload_n (i := 0) dJ3_checkIndex_8e157_0 rfl rfl ?_
  refine z_if_lt 9 dJ3_checkIndex_8e157_1 (by decide) (fun c => absurd ((zlt (a := k) (b := 0) (by omega) (by omega)).mp c) (by omega)) (fun _ => ?_)
  refine z_iload_n (i := 0) dJ3_checkIndex_8e157_4 rfl rfl ?_
  refine z_iload_n (i := 1) dJ3_checkIndex_8e157_5 rfl rfl ?_
  refine z_icmp_lt 16 dJ3_checkIndex_8e157_6 (by decide) (fun _ => ?_) (fun c => absurd ((zlt (a := k) (b := n) (by omega) (by omega)).mpr hk) c)
  refine z_iload_n (i := 0) dJ3_checkIndex_8e157_16 rfl rfl ?_
  exact z_iret dJ3_checkIndex_8e157_17 rfl ⟨rfl, rfl⟩
abbrev xJ_chk : ZX := (RJ0, cJ0_checkIndex_df160, 2, none, "checkIndex", 1, 40, false)
theorem cJ_chk (h : ZH) (k n : Nat) (hk : k < n) (hn : n ≤ 1000) : Zm yJ0_checkIndex_df160 cJ0_checkIndex_df160 2 none 1 40 0 0 [.int (nI k), .int (nI n)] h (kQh none h) := by
  refine Zm_of (lg := false) (by decide) (fun _ => by simp [Value.category]) (fun _ => Nat.le_of_ble_eq_true rfl) ?_
  show Zf xJ_chk 0 0 0 (zargs [.int (nI k), .int (nI n)]) [] h _
  refine z_iload_n (i := 0) dJ0_checkIndex_df160_0 rfl rfl ?_
  refine z_iload_n (i := 1) dJ0_checkIndex_df160_1 rfl rfl ?_
  refine z_getsF dJ0_checkIndex_df160_2 (zTB_of (by decide +kernel) rfl) ?_ ?_
  · refine z_callS (st := []) (mc2 := 0) (ms2 := 0) zJ_1059 zJs_pre (cJ_preN h k n hk hn) dJ0_checkIndex_df160_5 rfl rfl (by decide) (by decide) (Nat.le_of_ble_eq_true rfl) (by decide) (by decide) (fun r h2 hq => ?_)
    obtain ⟨rfl, rfl⟩ := hq
    refine z_pop dJ0_checkIndex_df160_8 rfl ?_
    exact z_vret dJ0_checkIndex_df160_9 rfl ⟨rfl, rfl⟩
  · refine z_callS (st := []) (mc2 := 0) (ms2 := 0) zJ_1059 zJs_pre (cJ_preF h k n hk hn) dJ0_checkIndex_df160_5 rfl rfl (by decide) (by decide) (Nat.le_of_ble_eq_true rfl) (by decide) (by decide) (fun r h2 hq => ?_)
    obtain ⟨rfl, rfl⟩ := hq
    refine z_pop dJ0_checkIndex_df160_8 rfl ?_
    exact z_vret dJ0_checkIndex_df160_9 rfl ⟨rfl, rfl⟩
def zchr (i k : Nat) : Int32 := (zByt.getD i []).getD k 0
theorem zchrS : ∀ i, i < 12 → ∀ k, k < 6 → (((zchr i k) &&& 255).toUInt32 % 65536).toInt32 = zchr i k ∧ narrow .char (.int (zchr i k)) = .int (zchr i k) := by decide +kernel
abbrev xJ_lchr : ZX := (RJ1, cJ1_charAt_3b067, 2, some .char, "charAt", 2, 80, false)
theorem cJ_lchr (h : ZH) (i k : Nat) (hi : i < 12) (hk : k < zLen.getD i 0) : Zm yJ1_charAt_3b067 cJ1_charAt_3b067 2 (some .char) 2 80 0 0 [.float (UInt32.ofNat (200 + i)), .int (nI k)] h (kQh (some (.int (zchr i k))) h) := by
  have h6 := (zLenS i hi).2
  refine Zm_of (lg := false) (by decide) (fun _ => by simp [Value.category]) (fun _ => Nat.le_of_ble_eq_true rfl) ?_
  show Zf xJ_lchr 0 0 0 (zargs [.float (UInt32.ofNat (200 + i)), .int (nI k)]) [] h _
  refine z_iload_n (i := 1) dJ1_charAt_3b067_0 rfl rfl ?_
  refine z_aload_nF (i := 0) dJ1_charAt_3b067_1 rfl rfl ?_
  refine z_slen hi rfl dJ1_charAt_3b067_2 ?_
  refine z_callS (st := []) (mc2 := 0) (ms2 := 0) zJ_9 zJs_chk (cJ_chk h k (zLen.getD i 0) hk (by omega)) dJ1_charAt_3b067_3 rfl rfl (by decide) (by decide) (Nat.le_of_ble_eq_true rfl) (by decide) (by decide) (fun r h2 hq => ?_)
  obtain ⟨rfl, rfl⟩ := hq
  refine z_aload_nF (i := 0) dJ1_charAt_3b067_6 rfl rfl ?_
  refine z_iload_n (i := 1) dJ1_charAt_3b067_7 rfl rfl ?_
  refine z_sbal hi (zvin hk (by omega)) dJ1_charAt_3b067_8 ?_
  rw [zcl (by omega)]
  refine z_sipush (v := 255) dJ1_charAt_3b067_9 (by decide) ?_
  refine z_iand dJ1_charAt_3b067_12 ?_
  refine z_i2c dJ1_charAt_3b067_13 rfl ?_
  refine z_top (y := .int (zchr i k)) (congrArg Value.int (zchrS i hi k (by omega)).1) ?_
  exact z_bret (ty := .char) dJ1_charAt_3b067_14 rfl (zchrS i hi k (by omega)).2 ⟨rfl, rfl⟩
abbrev xJ_chr : ZX := (RJ0, cJ0_charAt_5068e, 2, some .char, "charAt", 3, 120, false)
theorem cJ_chr (h : ZH) (i k : Nat) (hi : i < 12) (hk : k < zLen.getD i 0) : Zm yJ0_charAt_5068e cJ0_charAt_5068e 2 (some .char) 3 120 0 0 [.float (UInt32.ofNat i), .int (nI k)] h (kQh (some (.int (zchr i k))) h) := by
  have h6 := (zLenS i hi).2
  refine Zm_of (lg := false) (by decide) (fun _ => by simp [Value.category]) (fun _ => Nat.le_of_ble_eq_true rfl) ?_
  show Zf xJ_chr 0 0 0 (zargs [.float (UInt32.ofNat i), .int (nI k)]) [] h _
  refine z_aload_nF (i := 0) dJ0_charAt_5068e_0 rfl rfl ?_
  refine z_callVF (st := []) (mc2 := 0) (ms2 := 0) hi rfl zJ_492 zJv_lat (cJ_isLatin1 h i hi) dJ0_charAt_5068e_1 rfl rfl (by decide) (by decide) (Nat.le_of_ble_eq_true rfl) (by decide) (by decide) (fun r h2 hq => ?_)
  obtain ⟨rfl, rfl⟩ := hq
  refine z_if_eq 16 dJ0_charAt_5068e_4 (by decide) (fun c => absurd c (by decide)) (fun _ => ?_)
  refine z_aload_nF (i := 0) dJ0_charAt_5068e_7 rfl rfl ?_
  refine z_sgV hi dJ0_charAt_5068e_8 (zTB_of (by decide +kernel) rfl) ?_
  refine z_iload_n (i := 1) dJ0_charAt_5068e_11 rfl rfl ?_
  refine z_callS (st := []) (mc2 := 0) (ms2 := 0) zJ_495 zJs_chr (cJ_lchr _ i k hi hk) dJ0_charAt_5068e_12 rfl rfl (by decide) (by decide) (Nat.le_of_ble_eq_true rfl) (by decide) (by decide) (fun r h2 hq => ?_)
  obtain ⟨rfl, rfl⟩ := hq
  exact z_bret (ty := .char) dJ0_charAt_5068e_15 rfl (zchrS i hi k (by omega)).2 ⟨rfl, rfl⟩
