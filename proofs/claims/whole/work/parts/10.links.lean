/-- a final field of another class, read alone -/
def zFg2 (own : String) (index ci k : Nat) (b : Bool) : Prop := ∃ (C : String) (T : u_T) (N : Nat) (ty : Nat → FieldType), zCl ci C T N ty ∧ k < N ∧ (zT ci)[k]? = some b ∧ Cond.fieldLink own index (T k).1 (T k).2.1 (T k).2.2.1 ∈ zTB
theorem zC0 : zCl 0 RX0 TX0 2 tyX0 := ⟨rfl, fun w hw => zTB_of ((by decide +kernel : ∀ w ∈ u_ws RX0 TX0 2, w ∈ lw_tbl) w hw) ((by decide +kernel : ∀ w ∈ u_ws RX0 TX0 2, goodWord w = true) w hw), tyX0_ok, nmX0, rfl⟩
theorem zC1 : zCl 1 RX1 TX1 10 tyX1 := ⟨rfl, fun w hw => zTB_of ((by decide +kernel : ∀ w ∈ u_ws RX1 TX1 10, w ∈ lw_tbl) w hw) ((by decide +kernel : ∀ w ∈ u_ws RX1 TX1 10, goodWord w = true) w hw), tyX1_ok, nmX1, rfl⟩
theorem zC2 : zCl 2 RX2 TX2 5 tyX2 := ⟨rfl, fun w hw => zTB_of ((by decide +kernel : ∀ w ∈ u_ws RX2 TX2 5, w ∈ lw_tbl) w hw) ((by decide +kernel : ∀ w ∈ u_ws RX2 TX2 5, goodWord w = true) w hw), tyX2_ok, nmX2, rfl⟩
theorem zC3 : zCl 3 RX3 TX3 4 tyX3 := ⟨rfl, fun w hw => zTB_of ((by decide +kernel : ∀ w ∈ u_ws RX3 TX3 4, w ∈ lw_tbl) w hw) ((by decide +kernel : ∀ w ∈ u_ws RX3 TX3 4, goodWord w = true) w hw), tyX3_ok, nmX3, rfl⟩
theorem zC4 : zCl 4 RX4 TX4 7 tyX4 := ⟨rfl, fun w hw => zTB_of ((by decide +kernel : ∀ w ∈ u_ws RX4 TX4 7, w ∈ lw_tbl) w hw) ((by decide +kernel : ∀ w ∈ u_ws RX4 TX4 7, goodWord w = true) w hw), tyX4_ok, nmX4, rfl⟩
theorem zC5 : zCl 5 RX5 TX5 2 tyX5 := ⟨rfl, fun w hw => zTB_of ((by decide +kernel : ∀ w ∈ u_ws RX5 TX5 2, w ∈ lw_tbl) w hw) ((by decide +kernel : ∀ w ∈ u_ws RX5 TX5 2, goodWord w = true) w hw), tyX5_ok, nmX5, rfl⟩
theorem zC6 : zCl 6 RX6 TX6 4 tyX6 := ⟨rfl, fun w hw => zTB_of ((by decide +kernel : ∀ w ∈ u_ws RX6 TX6 4, w ∈ lw_tbl) w hw) ((by decide +kernel : ∀ w ∈ u_ws RX6 TX6 4, goodWord w = true) w hw), tyX6_ok, nmX6, rfl⟩
theorem zC7 : zCl 7 RX7 TX7 3 tyX7 := ⟨rfl, fun w hw => zTB_of ((by decide +kernel : ∀ w ∈ u_ws RX7 TX7 3, w ∈ lw_tbl) w hw) ((by decide +kernel : ∀ w ∈ u_ws RX7 TX7 3, goodWord w = true) w hw), tyX7_ok, nmX7, rfl⟩
theorem zC8 : zCl 8 RX8 TX8 16 tyX8 := ⟨rfl, fun w hw => zTB_of ((by decide +kernel : ∀ w ∈ u_ws RX8 TX8 16, w ∈ lw_tbl) w hw) ((by decide +kernel : ∀ w ∈ u_ws RX8 TX8 16, goodWord w = true) w hw), tyX8_ok, nmX8, rfl⟩
theorem zC9 : zCl 9 RX9 TX9 46 tyX9 := ⟨rfl, fun w hw => zTB_of ((by decide +kernel : ∀ w ∈ u_ws RX9 TX9 46, w ∈ lw_tbl) w hw) ((by decide +kernel : ∀ w ∈ u_ws RX9 TX9 46, goodWord w = true) w hw), tyX9_ok, nmX9, rfl⟩
theorem zf0_9 : zFd RX0 9 0 0 true true := ⟨RX0, TX0, 2, tyX0, zC0, by decide, rfl, zTB_of (by decide +kernel) rfl, rfl, (fun h => by cases h), (fun _ q => by cases q <;> exact ⟨rfl, rfl⟩), (fun _ => rfl)⟩
theorem zf0_15 : zFd RX0 15 0 1 true true := ⟨RX0, TX0, 2, tyX0, zC0, by decide, rfl, zTB_of (by decide +kernel) rfl, rfl, (fun h => by cases h), (fun _ q => by cases q <;> exact ⟨rfl, rfl⟩), (fun _ => rfl)⟩
theorem zf1_9 : zFd RX1 9 1 7 false false := ⟨RX1, TX1, 10, tyX1, zC1, by decide, rfl, zTB_of (by decide +kernel) rfl, rfl, (fun _ => rfl), (fun h => by cases h), (fun h => by cases h)⟩
theorem zf1_15 : zFd RX1 15 1 8 false false := ⟨RX1, TX1, 10, tyX1, zC1, by decide, rfl, zTB_of (by decide +kernel) rfl, rfl, (fun _ => rfl), (fun h => by cases h), (fun h => by cases h)⟩
theorem zf1_18 : zFd RX1 18 1 0 false true := ⟨RX1, TX1, 10, tyX1, zC1, by decide, rfl, zTB_of (by decide +kernel) rfl, rfl, (fun _ => rfl), (fun h => by cases h), (fun _ => rfl)⟩
theorem zf1_21 : zFd RX1 21 1 1 false true := ⟨RX1, TX1, 10, tyX1, zC1, by decide, rfl, zTB_of (by decide +kernel) rfl, rfl, (fun _ => rfl), (fun h => by cases h), (fun _ => rfl)⟩
theorem zf1_24 : zFd RX1 24 1 2 false true := ⟨RX1, TX1, 10, tyX1, zC1, by decide, rfl, zTB_of (by decide +kernel) rfl, rfl, (fun _ => rfl), (fun h => by cases h), (fun _ => rfl)⟩
theorem zf1_27 : zFd RX1 27 1 3 false true := ⟨RX1, TX1, 10, tyX1, zC1, by decide, rfl, zTB_of (by decide +kernel) rfl, rfl, (fun _ => rfl), (fun h => by cases h), (fun _ => rfl)⟩
theorem zf1_30 : zFd RX1 30 1 4 false true := ⟨RX1, TX1, 10, tyX1, zC1, by decide, rfl, zTB_of (by decide +kernel) rfl, rfl, (fun _ => rfl), (fun h => by cases h), (fun _ => rfl)⟩
theorem zf1_33 : zFd RX1 33 1 5 false true := ⟨RX1, TX1, 10, tyX1, zC1, by decide, rfl, zTB_of (by decide +kernel) rfl, rfl, (fun _ => rfl), (fun h => by cases h), (fun _ => rfl)⟩
theorem zf1_36 : zFd RX1 36 1 6 false true := ⟨RX1, TX1, 10, tyX1, zC1, by decide, rfl, zTB_of (by decide +kernel) rfl, rfl, (fun _ => rfl), (fun h => by cases h), (fun _ => rfl)⟩
theorem zf2_12 : zFd RX2 12 2 0 true true := ⟨RX2, TX2, 5, tyX2, zC2, by decide, rfl, zTB_of (by decide +kernel) rfl, rfl, (fun h => by cases h), (fun _ q => by cases q <;> exact ⟨rfl, rfl⟩), (fun _ => rfl)⟩
theorem zf2_18 : zFd RX2 18 2 1 true true := ⟨RX2, TX2, 5, tyX2, zC2, by decide, rfl, zTB_of (by decide +kernel) rfl, rfl, (fun h => by cases h), (fun _ q => by cases q <;> exact ⟨rfl, rfl⟩), (fun _ => rfl)⟩
theorem zf3_9 : zFd RX3 9 3 0 true true := ⟨RX3, TX3, 4, tyX3, zC3, by decide, rfl, zTB_of (by decide +kernel) rfl, rfl, (fun h => by cases h), (fun _ q => by cases q <;> exact ⟨rfl, rfl⟩), (fun _ => rfl)⟩
theorem zf3_15 : zFd RX3 15 3 1 true false := ⟨RX3, TX3, 4, tyX3, zC3, by decide, rfl, zTB_of (by decide +kernel) rfl, rfl, (fun h => by cases h), (fun _ q => by cases q <;> exact ⟨rfl, rfl⟩), (fun h => by cases h)⟩
theorem zf3_24 : zFd RX3 24 3 2 false false := ⟨RX3, TX3, 4, tyX3, zC3, by decide, rfl, zTB_of (by decide +kernel) rfl, rfl, (fun _ => rfl), (fun h => by cases h), (fun h => by cases h)⟩
theorem zf3_28 : zFd RX3 28 3 3 false false := ⟨RX3, TX3, 4, tyX3, zC3, by decide, rfl, zTB_of (by decide +kernel) rfl, rfl, (fun _ => rfl), (fun h => by cases h), (fun h => by cases h)⟩
theorem zf3_60 : zFg2 RX3 60 6 2 true := ⟨RX6, TX6, 4, tyX6, zC6, by decide, rfl, zTB_of (by decide +kernel) rfl⟩
theorem zf3_75 : zFg2 RX3 75 6 0 true := ⟨RX6, TX6, 4, tyX6, zC6, by decide, rfl, zTB_of (by decide +kernel) rfl⟩
theorem zf3_81 : zFd RX3 81 6 3 false false := ⟨RX6, TX6, 4, tyX6, zC6, by decide, rfl, zTB_of (by decide +kernel) rfl, rfl, (fun _ => rfl), (fun h => by cases h), (fun h => by cases h)⟩
theorem zf3_84 : zFg2 RX3 84 6 1 true := ⟨RX6, TX6, 4, tyX6, zC6, by decide, rfl, zTB_of (by decide +kernel) rfl⟩
theorem zf4_9 : zFd RX4 9 4 0 true true := ⟨RX4, TX4, 7, tyX4, zC4, by decide, rfl, zTB_of (by decide +kernel) rfl, rfl, (fun h => by cases h), (fun _ q => by cases q <;> exact ⟨rfl, rfl⟩), (fun _ => rfl)⟩
theorem zf4_15 : zFd RX4 15 4 1 true true := ⟨RX4, TX4, 7, tyX4, zC4, by decide, rfl, zTB_of (by decide +kernel) rfl, rfl, (fun h => by cases h), (fun _ q => by cases q <;> exact ⟨rfl, rfl⟩), (fun _ => rfl)⟩
theorem zf4_18 : zFd RX4 18 4 2 true true := ⟨RX4, TX4, 7, tyX4, zC4, by decide, rfl, zTB_of (by decide +kernel) rfl, rfl, (fun h => by cases h), (fun _ q => by cases q <;> exact ⟨rfl, rfl⟩), (fun _ => rfl)⟩
theorem zf4_21 : zFd RX4 21 4 3 true true := ⟨RX4, TX4, 7, tyX4, zC4, by decide, rfl, zTB_of (by decide +kernel) rfl, rfl, (fun h => by cases h), (fun _ q => by cases q <;> exact ⟨rfl, rfl⟩), (fun _ => rfl)⟩
theorem zf4_24 : zFd RX4 24 4 4 false false := ⟨RX4, TX4, 7, tyX4, zC4, by decide, rfl, zTB_of (by decide +kernel) rfl, rfl, (fun _ => rfl), (fun h => by cases h), (fun h => by cases h)⟩
theorem zf4_28 : zFd RX4 28 4 6 false false := ⟨RX4, TX4, 7, tyX4, zC4, by decide, rfl, zTB_of (by decide +kernel) rfl, rfl, (fun _ => rfl), (fun h => by cases h), (fun h => by cases h)⟩
theorem zf4_35 : zFd RX4 35 4 5 false false := ⟨RX4, TX4, 7, tyX4, zC4, by decide, rfl, zTB_of (by decide +kernel) rfl, rfl, (fun _ => rfl), (fun h => by cases h), (fun h => by cases h)⟩
theorem zf5_9 : zFd RX5 9 5 0 true true := ⟨RX5, TX5, 2, tyX5, zC5, by decide, rfl, zTB_of (by decide +kernel) rfl, rfl, (fun h => by cases h), (fun _ q => by cases q <;> exact ⟨rfl, rfl⟩), (fun _ => rfl)⟩
theorem zf5_15 : zFd RX5 15 5 1 false false := ⟨RX5, TX5, 2, tyX5, zC5, by decide, rfl, zTB_of (by decide +kernel) rfl, rfl, (fun _ => rfl), (fun h => by cases h), (fun h => by cases h)⟩
theorem zf6_11 : zFd RX6 11 6 0 true true := ⟨RX6, TX6, 4, tyX6, zC6, by decide, rfl, zTB_of (by decide +kernel) rfl, rfl, (fun h => by cases h), (fun _ q => by cases q <;> exact ⟨rfl, rfl⟩), (fun _ => rfl)⟩
theorem zf6_15 : zFd RX6 15 6 1 true true := ⟨RX6, TX6, 4, tyX6, zC6, by decide, rfl, zTB_of (by decide +kernel) rfl, rfl, (fun h => by cases h), (fun _ q => by cases q <;> exact ⟨rfl, rfl⟩), (fun _ => rfl)⟩
theorem zf6_18 : zFd RX6 18 6 2 true true := ⟨RX6, TX6, 4, tyX6, zC6, by decide, rfl, zTB_of (by decide +kernel) rfl, rfl, (fun h => by cases h), (fun _ q => by cases q <;> exact ⟨rfl, rfl⟩), (fun _ => rfl)⟩
theorem zf6_21 : zFd RX6 21 6 3 false false := ⟨RX6, TX6, 4, tyX6, zC6, by decide, rfl, zTB_of (by decide +kernel) rfl, rfl, (fun _ => rfl), (fun h => by cases h), (fun h => by cases h)⟩
theorem zf6_25 : zFd RX6 25 5 1 false false := ⟨RX5, TX5, 2, tyX5, zC5, by decide, rfl, zTB_of (by decide +kernel) rfl, rfl, (fun _ => rfl), (fun h => by cases h), (fun h => by cases h)⟩
theorem zf6_26 : zFg2 RX6 26 5 0 true := ⟨RX5, TX5, 2, tyX5, zC5, by decide, rfl, zTB_of (by decide +kernel) rfl⟩
theorem zf7_9 : zFd RX7 9 7 0 true true := ⟨RX7, TX7, 3, tyX7, zC7, by decide, rfl, zTB_of (by decide +kernel) rfl, rfl, (fun h => by cases h), (fun _ q => by cases q <;> exact ⟨rfl, rfl⟩), (fun _ => rfl)⟩
theorem zf7_13 : zFd RX7 13 7 1 false false := ⟨RX7, TX7, 3, tyX7, zC7, by decide, rfl, zTB_of (by decide +kernel) rfl, rfl, (fun _ => rfl), (fun h => by cases h), (fun h => by cases h)⟩
theorem zf7_29 : zFd RX7 29 7 2 false false := ⟨RX7, TX7, 3, tyX7, zC7, by decide, rfl, zTB_of (by decide +kernel) rfl, rfl, (fun _ => rfl), (fun h => by cases h), (fun h => by cases h)⟩
theorem zf8_11 : zFd RX8 11 8 0 true true := ⟨RX8, TX8, 16, tyX8, zC8, by decide, rfl, zTB_of (by decide +kernel) rfl, rfl, (fun h => by cases h), (fun _ q => by cases q <;> exact ⟨rfl, rfl⟩), (fun _ => rfl)⟩
theorem zf8_17 : zFd RX8 17 8 1 true true := ⟨RX8, TX8, 16, tyX8, zC8, by decide, rfl, zTB_of (by decide +kernel) rfl, rfl, (fun h => by cases h), (fun _ q => by cases q <;> exact ⟨rfl, rfl⟩), (fun _ => rfl)⟩
theorem zf8_21 : zFd RX8 21 8 2 true true := ⟨RX8, TX8, 16, tyX8, zC8, by decide, rfl, zTB_of (by decide +kernel) rfl, rfl, (fun h => by cases h), (fun _ q => by cases q <;> exact ⟨rfl, rfl⟩), (fun _ => rfl)⟩
theorem zf8_25 : zFd RX8 25 8 3 true true := ⟨RX8, TX8, 16, tyX8, zC8, by decide, rfl, zTB_of (by decide +kernel) rfl, rfl, (fun h => by cases h), (fun _ q => by cases q <;> exact ⟨rfl, rfl⟩), (fun _ => rfl)⟩
theorem zf8_28 : zFd RX8 28 8 4 true true := ⟨RX8, TX8, 16, tyX8, zC8, by decide, rfl, zTB_of (by decide +kernel) rfl, rfl, (fun h => by cases h), (fun _ q => by cases q <;> exact ⟨rfl, rfl⟩), (fun _ => rfl)⟩
theorem zf8_31 : zFd RX8 31 8 5 true true := ⟨RX8, TX8, 16, tyX8, zC8, by decide, rfl, zTB_of (by decide +kernel) rfl, rfl, (fun h => by cases h), (fun _ q => by cases q <;> exact ⟨rfl, rfl⟩), (fun _ => rfl)⟩
theorem zf8_36 : zFd RX8 36 8 6 true true := ⟨RX8, TX8, 16, tyX8, zC8, by decide, rfl, zTB_of (by decide +kernel) rfl, rfl, (fun h => by cases h), (fun _ q => by cases q <;> exact ⟨rfl, rfl⟩), (fun _ => rfl)⟩
theorem zf8_42 : zFd RX8 42 8 7 true true := ⟨RX8, TX8, 16, tyX8, zC8, by decide, rfl, zTB_of (by decide +kernel) rfl, rfl, (fun h => by cases h), (fun _ q => by cases q <;> exact ⟨rfl, rfl⟩), (fun _ => rfl)⟩
theorem zf8_49 : zFd RX8 49 8 8 true true := ⟨RX8, TX8, 16, tyX8, zC8, by decide, rfl, zTB_of (by decide +kernel) rfl, rfl, (fun h => by cases h), (fun _ q => by cases q <;> exact ⟨rfl, rfl⟩), (fun _ => rfl)⟩
theorem zf8_54 : zFd RX8 54 8 9 true true := ⟨RX8, TX8, 16, tyX8, zC8, by decide, rfl, zTB_of (by decide +kernel) rfl, rfl, (fun h => by cases h), (fun _ q => by cases q <;> exact ⟨rfl, rfl⟩), (fun _ => rfl)⟩
theorem zf8_63 : zFd RX8 63 8 10 true true := ⟨RX8, TX8, 16, tyX8, zC8, by decide, rfl, zTB_of (by decide +kernel) rfl, rfl, (fun h => by cases h), (fun _ q => by cases q <;> exact ⟨rfl, rfl⟩), (fun _ => rfl)⟩
theorem zf8_70 : zFd RX8 70 8 11 true false := ⟨RX8, TX8, 16, tyX8, zC8, by decide, rfl, zTB_of (by decide +kernel) rfl, rfl, (fun h => by cases h), (fun _ q => by cases q <;> exact ⟨rfl, rfl⟩), (fun h => by cases h)⟩
theorem zf8_74 : zFd RX8 74 8 12 true false := ⟨RX8, TX8, 16, tyX8, zC8, by decide, rfl, zTB_of (by decide +kernel) rfl, rfl, (fun h => by cases h), (fun _ q => by cases q <;> exact ⟨rfl, rfl⟩), (fun h => by cases h)⟩
theorem zf8_77 : zFd RX8 77 8 13 false false := ⟨RX8, TX8, 16, tyX8, zC8, by decide, rfl, zTB_of (by decide +kernel) rfl, rfl, (fun _ => rfl), (fun h => by cases h), (fun h => by cases h)⟩
theorem zf8_81 : zFd RX8 81 8 14 false false := ⟨RX8, TX8, 16, tyX8, zC8, by decide, rfl, zTB_of (by decide +kernel) rfl, rfl, (fun _ => rfl), (fun h => by cases h), (fun h => by cases h)⟩
theorem zf8_84 : zFd RX8 84 8 15 false false := ⟨RX8, TX8, 16, tyX8, zC8, by decide, rfl, zTB_of (by decide +kernel) rfl, rfl, (fun _ => rfl), (fun h => by cases h), (fun h => by cases h)⟩
theorem zf8_104 : zFg2 RX8 104 1 5 false := ⟨RX1, TX1, 10, tyX1, zC1, by decide, rfl, zTB_of (by decide +kernel) rfl⟩
theorem zf8_107 : zFd RX8 107 1 7 false false := ⟨RX1, TX1, 10, tyX1, zC1, by decide, rfl, zTB_of (by decide +kernel) rfl, rfl, (fun _ => rfl), (fun h => by cases h), (fun h => by cases h)⟩
theorem zf8_110 : zFg2 RX8 110 1 4 false := ⟨RX1, TX1, 10, tyX1, zC1, by decide, rfl, zTB_of (by decide +kernel) rfl⟩
theorem zf8_125 : zFd RX8 125 5 1 false false := ⟨RX5, TX5, 2, tyX5, zC5, by decide, rfl, zTB_of (by decide +kernel) rfl, rfl, (fun _ => rfl), (fun h => by cases h), (fun h => by cases h)⟩
theorem zf8_143 : zFg2 RX8 143 2 0 true := ⟨RX2, TX2, 5, tyX2, zC2, by decide, rfl, zTB_of (by decide +kernel) rfl⟩
theorem zf8_153 : zFg2 RX8 153 2 1 true := ⟨RX2, TX2, 5, tyX2, zC2, by decide, rfl, zTB_of (by decide +kernel) rfl⟩
theorem zf8_159 : zFd RX8 159 7 1 false false := ⟨RX7, TX7, 3, tyX7, zC7, by decide, rfl, zTB_of (by decide +kernel) rfl, rfl, (fun _ => rfl), (fun h => by cases h), (fun h => by cases h)⟩
theorem zf8_162 : zFg2 RX8 162 7 0 true := ⟨RX7, TX7, 3, tyX7, zC7, by decide, rfl, zTB_of (by decide +kernel) rfl⟩
theorem zf8_172 : zFd RX8 172 1 8 false false := ⟨RX1, TX1, 10, tyX1, zC1, by decide, rfl, zTB_of (by decide +kernel) rfl, rfl, (fun _ => rfl), (fun h => by cases h), (fun h => by cases h)⟩
theorem zf8_175 : zFd RX8 175 1 9 false false := ⟨RX1, TX1, 10, tyX1, zC1, by decide, rfl, zTB_of (by decide +kernel) rfl, rfl, (fun _ => rfl), (fun h => by cases h), (fun h => by cases h)⟩
theorem zf8_193 : zFd RX8 193 2 2 false false := ⟨RX2, TX2, 5, tyX2, zC2, by decide, rfl, zTB_of (by decide +kernel) rfl, rfl, (fun _ => rfl), (fun h => by cases h), (fun h => by cases h)⟩
theorem zf8_196 : zFd RX8 196 2 4 false false := ⟨RX2, TX2, 5, tyX2, zC2, by decide, rfl, zTB_of (by decide +kernel) rfl, rfl, (fun _ => rfl), (fun h => by cases h), (fun h => by cases h)⟩
theorem zf8_199 : zFd RX8 199 7 2 false false := ⟨RX7, TX7, 3, tyX7, zC7, by decide, rfl, zTB_of (by decide +kernel) rfl, rfl, (fun _ => rfl), (fun h => by cases h), (fun h => by cases h)⟩
theorem zf8_205 : zFd RX8 205 4 6 false false := ⟨RX4, TX4, 7, tyX4, zC4, by decide, rfl, zTB_of (by decide +kernel) rfl, rfl, (fun _ => rfl), (fun h => by cases h), (fun h => by cases h)⟩
theorem zf8_214 : zFg2 RX8 214 1 2 false := ⟨RX1, TX1, 10, tyX1, zC1, by decide, rfl, zTB_of (by decide +kernel) rfl⟩
theorem zf8_227 : zFg2 RX8 227 1 3 false := ⟨RX1, TX1, 10, tyX1, zC1, by decide, rfl, zTB_of (by decide +kernel) rfl⟩
theorem zf8_230 : zFg2 RX8 230 1 6 false := ⟨RX1, TX1, 10, tyX1, zC1, by decide, rfl, zTB_of (by decide +kernel) rfl⟩
theorem zf8_244 : zFd RX8 244 2 3 false false := ⟨RX2, TX2, 5, tyX2, zC2, by decide, rfl, zTB_of (by decide +kernel) rfl, rfl, (fun _ => rfl), (fun h => by cases h), (fun h => by cases h)⟩
theorem zf8_266 : zFg2 RX8 266 1 0 false := ⟨RX1, TX1, 10, tyX1, zC1, by decide, rfl, zTB_of (by decide +kernel) rfl⟩
theorem zf8_269 : zFg2 RX8 269 1 1 false := ⟨RX1, TX1, 10, tyX1, zC1, by decide, rfl, zTB_of (by decide +kernel) rfl⟩
theorem zf9_7 : zFd RX9 7 9 1 true true := ⟨RX9, TX9, 46, tyX9, zC9, by decide, rfl, zTB_of (by decide +kernel) rfl, rfl, (fun h => by cases h), (fun _ q => by cases q <;> exact ⟨rfl, rfl⟩), (fun _ => rfl)⟩
theorem zf9_13 : zFd RX9 13 9 4 true true := ⟨RX9, TX9, 46, tyX9, zC9, by decide, rfl, zTB_of (by decide +kernel) rfl, rfl, (fun h => by cases h), (fun _ q => by cases q <;> exact ⟨rfl, rfl⟩), (fun _ => rfl)⟩
theorem zf9_16 : zFd RX9 16 9 5 true true := ⟨RX9, TX9, 46, tyX9, zC9, by decide, rfl, zTB_of (by decide +kernel) rfl, rfl, (fun h => by cases h), (fun _ q => by cases q <;> exact ⟨rfl, rfl⟩), (fun _ => rfl)⟩
theorem zf9_19 : zFd RX9 19 9 6 true true := ⟨RX9, TX9, 46, tyX9, zC9, by decide, rfl, zTB_of (by decide +kernel) rfl, rfl, (fun h => by cases h), (fun _ q => by cases q <;> exact ⟨rfl, rfl⟩), (fun _ => rfl)⟩
theorem zf9_47 : zFd RX9 47 9 9 true true := ⟨RX9, TX9, 46, tyX9, zC9, by decide, rfl, zTB_of (by decide +kernel) rfl, rfl, (fun h => by cases h), (fun _ q => by cases q <;> exact ⟨rfl, rfl⟩), (fun _ => rfl)⟩
theorem zf9_50 : zFd RX9 50 9 10 true true := ⟨RX9, TX9, 46, tyX9, zC9, by decide, rfl, zTB_of (by decide +kernel) rfl, rfl, (fun h => by cases h), (fun _ q => by cases q <;> exact ⟨rfl, rfl⟩), (fun _ => rfl)⟩
theorem zf9_53 : zFd RX9 53 9 11 true true := ⟨RX9, TX9, 46, tyX9, zC9, by decide, rfl, zTB_of (by decide +kernel) rfl, rfl, (fun h => by cases h), (fun _ q => by cases q <;> exact ⟨rfl, rfl⟩), (fun _ => rfl)⟩
theorem zf9_56 : zFd RX9 56 9 12 true true := ⟨RX9, TX9, 46, tyX9, zC9, by decide, rfl, zTB_of (by decide +kernel) rfl, rfl, (fun h => by cases h), (fun _ q => by cases q <;> exact ⟨rfl, rfl⟩), (fun _ => rfl)⟩
theorem zf9_59 : zFd RX9 59 9 13 true true := ⟨RX9, TX9, 46, tyX9, zC9, by decide, rfl, zTB_of (by decide +kernel) rfl, rfl, (fun h => by cases h), (fun _ q => by cases q <;> exact ⟨rfl, rfl⟩), (fun _ => rfl)⟩
theorem zf9_62 : zFd RX9 62 9 14 true true := ⟨RX9, TX9, 46, tyX9, zC9, by decide, rfl, zTB_of (by decide +kernel) rfl, rfl, (fun h => by cases h), (fun _ q => by cases q <;> exact ⟨rfl, rfl⟩), (fun _ => rfl)⟩
theorem zf9_65 : zFd RX9 65 9 19 true true := ⟨RX9, TX9, 46, tyX9, zC9, by decide, rfl, zTB_of (by decide +kernel) rfl, rfl, (fun h => by cases h), (fun _ q => by cases q <;> exact ⟨rfl, rfl⟩), (fun _ => rfl)⟩
theorem zf9_68 : zFd RX9 68 9 20 true true := ⟨RX9, TX9, 46, tyX9, zC9, by decide, rfl, zTB_of (by decide +kernel) rfl, rfl, (fun h => by cases h), (fun _ q => by cases q <;> exact ⟨rfl, rfl⟩), (fun _ => rfl)⟩
theorem zf9_71 : zFd RX9 71 9 21 true true := ⟨RX9, TX9, 46, tyX9, zC9, by decide, rfl, zTB_of (by decide +kernel) rfl, rfl, (fun h => by cases h), (fun _ q => by cases q <;> exact ⟨rfl, rfl⟩), (fun _ => rfl)⟩
theorem zf9_74 : zFd RX9 74 9 22 true true := ⟨RX9, TX9, 46, tyX9, zC9, by decide, rfl, zTB_of (by decide +kernel) rfl, rfl, (fun h => by cases h), (fun _ q => by cases q <;> exact ⟨rfl, rfl⟩), (fun _ => rfl)⟩
theorem zf9_77 : zFd RX9 77 9 23 true true := ⟨RX9, TX9, 46, tyX9, zC9, by decide, rfl, zTB_of (by decide +kernel) rfl, rfl, (fun h => by cases h), (fun _ q => by cases q <;> exact ⟨rfl, rfl⟩), (fun _ => rfl)⟩
theorem zf9_80 : zFd RX9 80 9 25 true true := ⟨RX9, TX9, 46, tyX9, zC9, by decide, rfl, zTB_of (by decide +kernel) rfl, rfl, (fun h => by cases h), (fun _ q => by cases q <;> exact ⟨rfl, rfl⟩), (fun _ => rfl)⟩
theorem zf9_83 : zFd RX9 83 9 26 true true := ⟨RX9, TX9, 46, tyX9, zC9, by decide, rfl, zTB_of (by decide +kernel) rfl, rfl, (fun h => by cases h), (fun _ q => by cases q <;> exact ⟨rfl, rfl⟩), (fun _ => rfl)⟩
theorem zf9_86 : zFd RX9 86 9 27 true true := ⟨RX9, TX9, 46, tyX9, zC9, by decide, rfl, zTB_of (by decide +kernel) rfl, rfl, (fun h => by cases h), (fun _ q => by cases q <;> exact ⟨rfl, rfl⟩), (fun _ => rfl)⟩
theorem zf9_89 : zFd RX9 89 9 28 true true := ⟨RX9, TX9, 46, tyX9, zC9, by decide, rfl, zTB_of (by decide +kernel) rfl, rfl, (fun h => by cases h), (fun _ q => by cases q <;> exact ⟨rfl, rfl⟩), (fun _ => rfl)⟩
theorem zf9_92 : zFd RX9 92 9 29 true true := ⟨RX9, TX9, 46, tyX9, zC9, by decide, rfl, zTB_of (by decide +kernel) rfl, rfl, (fun h => by cases h), (fun _ q => by cases q <;> exact ⟨rfl, rfl⟩), (fun _ => rfl)⟩
theorem zf9_95 : zFd RX9 95 9 30 true true := ⟨RX9, TX9, 46, tyX9, zC9, by decide, rfl, zTB_of (by decide +kernel) rfl, rfl, (fun h => by cases h), (fun _ q => by cases q <;> exact ⟨rfl, rfl⟩), (fun _ => rfl)⟩
theorem zf9_98 : zFd RX9 98 9 31 true true := ⟨RX9, TX9, 46, tyX9, zC9, by decide, rfl, zTB_of (by decide +kernel) rfl, rfl, (fun h => by cases h), (fun _ q => by cases q <;> exact ⟨rfl, rfl⟩), (fun _ => rfl)⟩
theorem zf9_101 : zFd RX9 101 9 32 true true := ⟨RX9, TX9, 46, tyX9, zC9, by decide, rfl, zTB_of (by decide +kernel) rfl, rfl, (fun h => by cases h), (fun _ q => by cases q <;> exact ⟨rfl, rfl⟩), (fun _ => rfl)⟩
theorem zf9_104 : zFd RX9 104 9 33 true true := ⟨RX9, TX9, 46, tyX9, zC9, by decide, rfl, zTB_of (by decide +kernel) rfl, rfl, (fun h => by cases h), (fun _ q => by cases q <;> exact ⟨rfl, rfl⟩), (fun _ => rfl)⟩
theorem zf9_107 : zFd RX9 107 9 36 true true := ⟨RX9, TX9, 46, tyX9, zC9, by decide, rfl, zTB_of (by decide +kernel) rfl, rfl, (fun h => by cases h), (fun _ q => by cases q <;> exact ⟨rfl, rfl⟩), (fun _ => rfl)⟩
theorem zf9_110 : zFd RX9 110 9 37 true true := ⟨RX9, TX9, 46, tyX9, zC9, by decide, rfl, zTB_of (by decide +kernel) rfl, rfl, (fun h => by cases h), (fun _ q => by cases q <;> exact ⟨rfl, rfl⟩), (fun _ => rfl)⟩
theorem zf9_113 : zFd RX9 113 9 38 true true := ⟨RX9, TX9, 46, tyX9, zC9, by decide, rfl, zTB_of (by decide +kernel) rfl, rfl, (fun h => by cases h), (fun _ q => by cases q <;> exact ⟨rfl, rfl⟩), (fun _ => rfl)⟩
theorem zf9_116 : zFd RX9 116 9 39 true true := ⟨RX9, TX9, 46, tyX9, zC9, by decide, rfl, zTB_of (by decide +kernel) rfl, rfl, (fun h => by cases h), (fun _ q => by cases q <;> exact ⟨rfl, rfl⟩), (fun _ => rfl)⟩
theorem zf9_119 : zFd RX9 119 9 40 true true := ⟨RX9, TX9, 46, tyX9, zC9, by decide, rfl, zTB_of (by decide +kernel) rfl, rfl, (fun h => by cases h), (fun _ q => by cases q <;> exact ⟨rfl, rfl⟩), (fun _ => rfl)⟩
theorem zf9_122 : zFd RX9 122 9 41 true true := ⟨RX9, TX9, 46, tyX9, zC9, by decide, rfl, zTB_of (by decide +kernel) rfl, rfl, (fun h => by cases h), (fun _ q => by cases q <;> exact ⟨rfl, rfl⟩), (fun _ => rfl)⟩
theorem zf9_125 : zFd RX9 125 9 42 true true := ⟨RX9, TX9, 46, tyX9, zC9, by decide, rfl, zTB_of (by decide +kernel) rfl, rfl, (fun h => by cases h), (fun _ q => by cases q <;> exact ⟨rfl, rfl⟩), (fun _ => rfl)⟩
theorem zf9_128 : zFd RX9 128 9 43 true true := ⟨RX9, TX9, 46, tyX9, zC9, by decide, rfl, zTB_of (by decide +kernel) rfl, rfl, (fun h => by cases h), (fun _ q => by cases q <;> exact ⟨rfl, rfl⟩), (fun _ => rfl)⟩
theorem zf9_131 : zFd RX9 131 9 44 true true := ⟨RX9, TX9, 46, tyX9, zC9, by decide, rfl, zTB_of (by decide +kernel) rfl, rfl, (fun h => by cases h), (fun _ q => by cases q <;> exact ⟨rfl, rfl⟩), (fun _ => rfl)⟩
theorem zf9_134 : zFd RX9 134 9 45 true true := ⟨RX9, TX9, 46, tyX9, zC9, by decide, rfl, zTB_of (by decide +kernel) rfl, rfl, (fun h => by cases h), (fun _ q => by cases q <;> exact ⟨rfl, rfl⟩), (fun _ => rfl)⟩
theorem zf9_137 : zFd RX9 137 9 0 false false := ⟨RX9, TX9, 46, tyX9, zC9, by decide, rfl, zTB_of (by decide +kernel) rfl, rfl, (fun _ => rfl), (fun h => by cases h), (fun h => by cases h)⟩
theorem zf9_145 : zFd RX9 145 9 2 false false := ⟨RX9, TX9, 46, tyX9, zC9, by decide, rfl, zTB_of (by decide +kernel) rfl, rfl, (fun _ => rfl), (fun h => by cases h), (fun h => by cases h)⟩
theorem zf9_152 : zFd RX9 152 9 3 false false := ⟨RX9, TX9, 46, tyX9, zC9, by decide, rfl, zTB_of (by decide +kernel) rfl, rfl, (fun _ => rfl), (fun h => by cases h), (fun h => by cases h)⟩
theorem zf9_170 : zFd RX9 170 9 7 false false := ⟨RX9, TX9, 46, tyX9, zC9, by decide, rfl, zTB_of (by decide +kernel) rfl, rfl, (fun _ => rfl), (fun h => by cases h), (fun h => by cases h)⟩
theorem zf9_173 : zFd RX9 173 9 8 false false := ⟨RX9, TX9, 46, tyX9, zC9, by decide, rfl, zTB_of (by decide +kernel) rfl, rfl, (fun _ => rfl), (fun h => by cases h), (fun h => by cases h)⟩
theorem zf9_189 : zFd RX9 189 9 16 false false := ⟨RX9, TX9, 46, tyX9, zC9, by decide, rfl, zTB_of (by decide +kernel) rfl, rfl, (fun _ => rfl), (fun h => by cases h), (fun h => by cases h)⟩
theorem zf9_192 : zFd RX9 192 9 17 false false := ⟨RX9, TX9, 46, tyX9, zC9, by decide, rfl, zTB_of (by decide +kernel) rfl, rfl, (fun _ => rfl), (fun h => by cases h), (fun h => by cases h)⟩
theorem zf9_198 : zFd RX9 198 9 15 false false := ⟨RX9, TX9, 46, tyX9, zC9, by decide, rfl, zTB_of (by decide +kernel) rfl, rfl, (fun _ => rfl), (fun h => by cases h), (fun h => by cases h)⟩
theorem zf9_209 : zFd RX9 209 9 18 false false := ⟨RX9, TX9, 46, tyX9, zC9, by decide, rfl, zTB_of (by decide +kernel) rfl, rfl, (fun _ => rfl), (fun h => by cases h), (fun h => by cases h)⟩
theorem zf9_236 : zFd RX9 236 9 24 false false := ⟨RX9, TX9, 46, tyX9, zC9, by decide, rfl, zTB_of (by decide +kernel) rfl, rfl, (fun _ => rfl), (fun h => by cases h), (fun h => by cases h)⟩
theorem zf9_239 : zFd RX9 239 9 34 false false := ⟨RX9, TX9, 46, tyX9, zC9, by decide, rfl, zTB_of (by decide +kernel) rfl, rfl, (fun _ => rfl), (fun h => by cases h), (fun h => by cases h)⟩
theorem zf9_253 : zFd RX9 253 9 35 false false := ⟨RX9, TX9, 46, tyX9, zC9, by decide, rfl, zTB_of (by decide +kernel) rfl, rfl, (fun _ => rfl), (fun h => by cases h), (fun h => by cases h)⟩
theorem ziL_7 : zInv RL 7 yX8_look cX8_look 4 (some .int) 2 := ⟨zTB_of (by decide +kernel) rfl, zTB_of (by decide +kernel) rfl, zTB_of (by decide +kernel) rfl, by decide, by decide, by decide +kernel⟩
theorem ziL_15 : zInv RL 15 yX8_init cX8_init 1 none 0 := ⟨zTB_of (by decide +kernel) rfl, zTB_of (by decide +kernel) rfl, zTB_of (by decide +kernel) rfl, by decide, by decide, by decide +kernel⟩
theorem ziL_18 : zInv RL 18 yX9_init cX9_init 1 none 0 := ⟨zTB_of (by decide +kernel) rfl, zTB_of (by decide +kernel) rfl, zTB_of (by decide +kernel) rfl, by decide, by decide, by decide +kernel⟩
theorem ziL_19 : zInv RL 19 yX8_pitch cX8_pitch 5 (some .int) 2 := ⟨zTB_of (by decide +kernel) rfl, zTB_of (by decide +kernel) rfl, zTB_of (by decide +kernel) rfl, by decide, by decide, by decide +kernel⟩
theorem ziL_22 : zInv RL 22 yX9_pitch cX9_pitch 4 (some .int) 2 := ⟨zTB_of (by decide +kernel) rfl, zTB_of (by decide +kernel) rfl, zTB_of (by decide +kernel) rfl, by decide, by decide, by decide +kernel⟩
theorem ziL_23 : zInv RL 23 yX8_game cX8_game 8 (some .int) 6 := ⟨zTB_of (by decide +kernel) rfl, zTB_of (by decide +kernel) rfl, zTB_of (by decide +kernel) rfl, by decide, by decide, by decide +kernel⟩
theorem ziL_27 : zInv RL 27 yX9_game cX9_game 7 (some .int) 6 := ⟨zTB_of (by decide +kernel) rfl, zTB_of (by decide +kernel) rfl, zTB_of (by decide +kernel) rfl, by decide, by decide, by decide +kernel⟩
theorem ziL_28 : zInv RL 28 yX8_lay cX8_lay 5 (some .int) 1 := ⟨zTB_of (by decide +kernel) rfl, zTB_of (by decide +kernel) rfl, zTB_of (by decide +kernel) rfl, by decide, by decide, by decide +kernel⟩
theorem ziL_32 : zInv RL 32 yX9_lay_ cX9_lay_ 5 (some .int) 1 := ⟨zTB_of (by decide +kernel) rfl, zTB_of (by decide +kernel) rfl, zTB_of (by decide +kernel) rfl, by decide, by decide, by decide +kernel⟩
theorem ziL_35 : zInv RL 35 yX8_feed cX8_feed 7 (some .int) 3 := ⟨zTB_of (by decide +kernel) rfl, zTB_of (by decide +kernel) rfl, zTB_of (by decide +kernel) rfl, by decide, by decide, by decide +kernel⟩
theorem ziL_39 : zInv RL 39 yX9_feed cX9_feed 7 (some .int) 3 := ⟨zTB_of (by decide +kernel) rfl, zTB_of (by decide +kernel) rfl, zTB_of (by decide +kernel) rfl, by decide, by decide, by decide +kernel⟩
theorem ziL_40 : zInv RL 40 yX8_text cX8_text 3 (some .int) 0 := ⟨zTB_of (by decide +kernel) rfl, zTB_of (by decide +kernel) rfl, zTB_of (by decide +kernel) rfl, by decide, by decide, by decide +kernel⟩
theorem ziL_44 : zInv RL 44 yX9_text cX9_text 1 (some .int) 0 := ⟨zTB_of (by decide +kernel) rfl, zTB_of (by decide +kernel) rfl, zTB_of (by decide +kernel) rfl, by decide, by decide, by decide +kernel⟩
theorem ziL_45 : zInv RL 45 yX8_day cX8_day 6 (some .int) 2 := ⟨zTB_of (by decide +kernel) rfl, zTB_of (by decide +kernel) rfl, zTB_of (by decide +kernel) rfl, by decide, by decide, by decide +kernel⟩
theorem ziL_48 : zInv RL 48 yX9_day cX9_day 5 (some .int) 2 := ⟨zTB_of (by decide +kernel) rfl, zTB_of (by decide +kernel) rfl, zTB_of (by decide +kernel) rfl, by decide, by decide, by decide +kernel⟩
theorem ziL_49 : zInv RL 49 yX8_turn cX8_turn 3 (some .int) 1 := ⟨zTB_of (by decide +kernel) rfl, zTB_of (by decide +kernel) rfl, zTB_of (by decide +kernel) rfl, by decide, by decide, by decide +kernel⟩
theorem ziL_52 : zInv RL 52 yX9_turn cX9_turn 2 (some .int) 1 := ⟨zTB_of (by decide +kernel) rfl, zTB_of (by decide +kernel) rfl, zTB_of (by decide +kernel) rfl, by decide, by decide, by decide +kernel⟩
theorem ziL_53 : zInv RL 53 yX8_grass cX8_grass 4 (some .int) 3 := ⟨zTB_of (by decide +kernel) rfl, zTB_of (by decide +kernel) rfl, zTB_of (by decide +kernel) rfl, by decide, by decide, by decide +kernel⟩
theorem ziL_57 : zInv RL 57 yX9_grass cX9_grass 4 (some .int) 3 := ⟨zTB_of (by decide +kernel) rfl, zTB_of (by decide +kernel) rfl, zTB_of (by decide +kernel) rfl, by decide, by decide, by decide +kernel⟩
theorem ziL_63 : zInv RL 63 yX9_look cX9_look 3 (some .int) 2 := ⟨zTB_of (by decide +kernel) rfl, zTB_of (by decide +kernel) rfl, zTB_of (by decide +kernel) rfl, by decide, by decide, by decide +kernel⟩
theorem ziL_64 : zInv RL 64 yX9_thrown cX9_thrown 1 (some .int) 0 := ⟨zTB_of (by decide +kernel) rfl, zTB_of (by decide +kernel) rfl, zTB_of (by decide +kernel) rfl, by decide, by decide, by decide +kernel⟩
theorem ziL_67 : zInv RL 67 yX8_at cX8_at 4 (some .int) 3 := ⟨zTB_of (by decide +kernel) rfl, zTB_of (by decide +kernel) rfl, zTB_of (by decide +kernel) rfl, by decide, by decide, by decide +kernel⟩
theorem ziL_70 : zInv RL 70 yX9_at cX9_at 4 (some .int) 3 := ⟨zTB_of (by decide +kernel) rfl, zTB_of (by decide +kernel) rfl, zTB_of (by decide +kernel) rfl, by decide, by decide, by decide +kernel⟩
theorem ziL_71 : zInv RL 71 yX8_club cX8_club 3 (some .int) 2 := ⟨zTB_of (by decide +kernel) rfl, zTB_of (by decide +kernel) rfl, zTB_of (by decide +kernel) rfl, by decide, by decide, by decide +kernel⟩
theorem ziL_74 : zInv RL 74 yX9_club cX9_club 3 (some .int) 2 := ⟨zTB_of (by decide +kernel) rfl, zTB_of (by decide +kernel) rfl, zTB_of (by decide +kernel) rfl, by decide, by decide, by decide +kernel⟩
theorem ziL_75 : zInv RL 75 yX8_field cX8_field 4 (some .int) 2 := ⟨zTB_of (by decide +kernel) rfl, zTB_of (by decide +kernel) rfl, zTB_of (by decide +kernel) rfl, by decide, by decide, by decide +kernel⟩
theorem ziL_78 : zInv RL 78 yX9_field cX9_field 3 (some .int) 2 := ⟨zTB_of (by decide +kernel) rfl, zTB_of (by decide +kernel) rfl, zTB_of (by decide +kernel) rfl, by decide, by decide, by decide +kernel⟩
theorem ziL_79 : zInv RL 79 yX8_would cX8_would 4 (some .int) 2 := ⟨zTB_of (by decide +kernel) rfl, zTB_of (by decide +kernel) rfl, zTB_of (by decide +kernel) rfl, by decide, by decide, by decide +kernel⟩
theorem ziL_82 : zInv RL 82 yX9_would cX9_would 3 (some .int) 2 := ⟨zTB_of (by decide +kernel) rfl, zTB_of (by decide +kernel) rfl, zTB_of (by decide +kernel) rfl, by decide, by decide, by decide +kernel⟩
theorem ziL_83 : zInv RL 83 yX8_count cX8_count 2 (some .int) 1 := ⟨zTB_of (by decide +kernel) rfl, zTB_of (by decide +kernel) rfl, zTB_of (by decide +kernel) rfl, by decide, by decide, by decide +kernel⟩
theorem ziL_86 : zInv RL 86 yX9_count cX9_count 4 (some .int) 1 := ⟨zTB_of (by decide +kernel) rfl, zTB_of (by decide +kernel) rfl, zTB_of (by decide +kernel) rfl, by decide, by decide, by decide +kernel⟩
theorem zi0_18 : zInv RX0 18 yX0_isSlot cX0_isSlot 1 (some .boolean) 1 := ⟨zTB_of (by decide +kernel) rfl, zTB_of (by decide +kernel) rfl, zTB_of (by decide +kernel) rfl, by decide, by decide, by decide +kernel⟩
theorem zi0_28 : zInv RX0 28 yX0_slotsOfDay cX0_slotsOfDay 4 (some .int) 2 := ⟨zTB_of (by decide +kernel) rfl, zTB_of (by decide +kernel) rfl, zTB_of (by decide +kernel) rfl, by decide, by decide, by decide +kernel⟩
theorem zi0_31 : zInv RX0 31 yX0_lowestBit cX0_lowestBit 2 (some .int) 1 := ⟨zTB_of (by decide +kernel) rfl, zTB_of (by decide +kernel) rfl, zTB_of (by decide +kernel) rfl, by decide, by decide, by decide +kernel⟩
theorem zi2_9 : zInv RX2 9 yX7_init cX7_init 3 none 1 := ⟨zTB_of (by decide +kernel) rfl, zTB_of (by decide +kernel) rfl, zTB_of (by decide +kernel) rfl, by decide, by decide, by decide +kernel⟩
theorem zi3_19 : zInv RX3 19 yX4_clear cX4_clear 1 none 0 := ⟨zTB_of (by decide +kernel) rfl, zTB_of (by decide +kernel) rfl, zTB_of (by decide +kernel) rfl, by decide, by decide, by decide +kernel⟩
theorem zi3_33 : zInv RX3 33 yX3_sees cX3_sees 2 (some .boolean) 1 := ⟨zTB_of (by decide +kernel) rfl, zTB_of (by decide +kernel) rfl, zTB_of (by decide +kernel) rfl, by decide, by decide, by decide +kernel⟩
theorem zi3_37 : zInv RX3 37 yX3_readLine cX3_readLine 3 none 1 := ⟨zTB_of (by decide +kernel) rfl, zTB_of (by decide +kernel) rfl, zTB_of (by decide +kernel) rfl, by decide, by decide, by decide +kernel⟩
theorem zi3_41 : zInv RX3 41 yX3_refuse cX3_refuse 2 none 1 := ⟨zTB_of (by decide +kernel) rfl, zTB_of (by decide +kernel) rfl, zTB_of (by decide +kernel) rfl, by decide, by decide, by decide +kernel⟩
theorem zi3_44 : zInv RX3 44 yX3_take cX3_take 2 none 1 := ⟨zTB_of (by decide +kernel) rfl, zTB_of (by decide +kernel) rfl, zTB_of (by decide +kernel) rfl, by decide, by decide, by decide +kernel⟩
theorem zi3_47 : zInv RX3 47 yX3_readWhich cX3_readWhich 2 (some .int) 0 := ⟨zTB_of (by decide +kernel) rfl, zTB_of (by decide +kernel) rfl, zTB_of (by decide +kernel) rfl, by decide, by decide, by decide +kernel⟩
theorem zi3_51 : zInv RX3 51 yX3_readAnds cX3_readAnds 3 none 1 := ⟨zTB_of (by decide +kernel) rfl, zTB_of (by decide +kernel) rfl, zTB_of (by decide +kernel) rfl, by decide, by decide, by decide +kernel⟩
theorem zi3_54 : zInv RX3 54 yX4_endLine cX4_endLine 2 none 1 := ⟨zTB_of (by decide +kernel) rfl, zTB_of (by decide +kernel) rfl, zTB_of (by decide +kernel) rfl, by decide, by decide, by decide +kernel⟩
theorem zi3_57 : zInv RX3 57 yX3_step cX3_step 1 none 0 := ⟨zTB_of (by decide +kernel) rfl, zTB_of (by decide +kernel) rfl, zTB_of (by decide +kernel) rfl, by decide, by decide, by decide +kernel⟩
theorem zi3_64 : zInv RX3 64 yX3_readTest cX3_readTest 3 none 1 := ⟨zTB_of (by decide +kernel) rfl, zTB_of (by decide +kernel) rfl, zTB_of (by decide +kernel) rfl, by decide, by decide, by decide +kernel⟩
theorem zi3_69 : zInv RX3 69 yX4_put cX4_put 2 none 1 := ⟨zTB_of (by decide +kernel) rfl, zTB_of (by decide +kernel) rfl, zTB_of (by decide +kernel) rfl, by decide, by decide, by decide +kernel⟩
theorem zi3_72 : zInv RX3 72 yX3_readSum cX3_readSum 4 none 1 := ⟨zTB_of (by decide +kernel) rfl, zTB_of (by decide +kernel) rfl, zTB_of (by decide +kernel) rfl, by decide, by decide, by decide +kernel⟩
theorem zi3_78 : zInv RX3 78 yX3_readPart cX3_readPart 5 none 1 := ⟨zTB_of (by decide +kernel) rfl, zTB_of (by decide +kernel) rfl, zTB_of (by decide +kernel) rfl, by decide, by decide, by decide +kernel⟩
theorem zi4_31 : zInv RX4 31 yX4_worth cX4_worth 8 (some .int) 3 := ⟨zTB_of (by decide +kernel) rfl, zTB_of (by decide +kernel) rfl, zTB_of (by decide +kernel) rfl, by decide, by decide, by decide +kernel⟩
theorem zi4_38 : zInv RX4 38 yX4_push cX4_push 2 none 1 := ⟨zTB_of (by decide +kernel) rfl, zTB_of (by decide +kernel) rfl, zTB_of (by decide +kernel) rfl, by decide, by decide, by decide +kernel⟩
theorem zi4_42 : zInv RX4 42 yX4_pop cX4_pop 1 (some .int) 0 := ⟨zTB_of (by decide +kernel) rfl, zTB_of (by decide +kernel) rfl, zTB_of (by decide +kernel) rfl, by decide, by decide, by decide +kernel⟩
theorem zi4_46 : zInv RX4 46 yX4_join cX4_join 3 (some .int) 3 := ⟨zTB_of (by decide +kernel) rfl, zTB_of (by decide +kernel) rfl, zTB_of (by decide +kernel) rfl, by decide, by decide, by decide +kernel⟩
theorem zi6_30 : zInv RX6 30 yX6_sortOf cX6_sortOf 1 (some .int) 1 := ⟨zTB_of (by decide +kernel) rfl, zTB_of (by decide +kernel) rfl, zTB_of (by decide +kernel) rfl, by decide, by decide, by decide +kernel⟩
theorem zi6_34 : zInv RX6 34 yX6_addToken cX6_addToken 5 none 4 := ⟨zTB_of (by decide +kernel) rfl, zTB_of (by decide +kernel) rfl, zTB_of (by decide +kernel) rfl, by decide, by decide, by decide +kernel⟩
theorem zi6_38 : zInv RX6 38 yX6_wordKind cX6_wordKind 3 (some .int) 3 := ⟨zTB_of (by decide +kernel) rfl, zTB_of (by decide +kernel) rfl, zTB_of (by decide +kernel) rfl, by decide, by decide, by decide +kernel⟩
theorem zi6_42 : zInv RX6 42 yX6_numberValue cX6_numberValue 5 (some .int) 3 := ⟨zTB_of (by decide +kernel) rfl, zTB_of (by decide +kernel) rfl, zTB_of (by decide +kernel) rfl, by decide, by decide, by decide +kernel⟩
theorem zi6_45 : zInv RX6 45 yX6_markKind cX6_markKind 1 (some .int) 1 := ⟨zTB_of (by decide +kernel) rfl, zTB_of (by decide +kernel) rfl, zTB_of (by decide +kernel) rfl, by decide, by decide, by decide +kernel⟩
theorem zi6_49 : zInv RX6 49 yX6_shortWordKind cX6_shortWordKind 2 (some .int) 2 := ⟨zTB_of (by decide +kernel) rfl, zTB_of (by decide +kernel) rfl, zTB_of (by decide +kernel) rfl, by decide, by decide, by decide +kernel⟩
theorem zi6_53 : zInv RX6 53 yX6_fourLetterKind cX6_fourLetterKind 2 (some .int) 2 := ⟨zTB_of (by decide +kernel) rfl, zTB_of (by decide +kernel) rfl, zTB_of (by decide +kernel) rfl, by decide, by decide, by decide +kernel⟩
theorem zi6_58 : zInv RX6 58 yX6_spells cX6_spells 4 (some .boolean) 3 := ⟨zTB_of (by decide +kernel) rfl, zTB_of (by decide +kernel) rfl, zTB_of (by decide +kernel) rfl, by decide, by decide, by decide +kernel⟩
theorem zi8_60 : zInv RX8 60 yX3_init cX3_init 2 none 1 := ⟨zTB_of (by decide +kernel) rfl, zTB_of (by decide +kernel) rfl, zTB_of (by decide +kernel) rfl, by decide, by decide, by decide +kernel⟩
theorem zi8_87 : zInv RX8 87 yX2_init cX2_init 2 none 1 := ⟨zTB_of (by decide +kernel) rfl, zTB_of (by decide +kernel) rfl, zTB_of (by decide +kernel) rfl, by decide, by decide, by decide +kernel⟩
theorem zi8_90 : zInv RX8 90 yX8_isClub cX8_isClub 1 (some .boolean) 1 := ⟨zTB_of (by decide +kernel) rfl, zTB_of (by decide +kernel) rfl, zTB_of (by decide +kernel) rfl, by decide, by decide, by decide +kernel⟩
theorem zi8_94 : zInv RX8 94 yX8_isWeekToCome cX8_isWeekToCome 2 (some .boolean) 1 := ⟨zTB_of (by decide +kernel) rfl, zTB_of (by decide +kernel) rfl, zTB_of (by decide +kernel) rfl, by decide, by decide, by decide +kernel⟩
theorem zi8_98 : zInv RX8 98 yX1_init cX1_init 7 none 6 := ⟨zTB_of (by decide +kernel) rfl, zTB_of (by decide +kernel) rfl, zTB_of (by decide +kernel) rfl, by decide, by decide, by decide +kernel⟩
theorem zi8_101 : zInv RX8 101 yX8_showWeek cX8_showWeek 3 none 1 := ⟨zTB_of (by decide +kernel) rfl, zTB_of (by decide +kernel) rfl, zTB_of (by decide +kernel) rfl, by decide, by decide, by decide +kernel⟩
theorem zi8_113 : zInv RX8 113 yX8_layGame cX8_layGame 3 none 1 := ⟨zTB_of (by decide +kernel) rfl, zTB_of (by decide +kernel) rfl, zTB_of (by decide +kernel) rfl, by decide, by decide, by decide +kernel⟩
theorem zi8_117 : zInv RX8 117 yX8_newGamesOf cX8_newGamesOf 4 (some .int) 1 := ⟨zTB_of (by decide +kernel) rfl, zTB_of (by decide +kernel) rfl, zTB_of (by decide +kernel) rfl, by decide, by decide, by decide +kernel⟩
theorem zi8_121 : zInv RX8 121 yX5_addBytes cX5_addBytes 6 none 1 := ⟨zTB_of (by decide +kernel) rfl, zTB_of (by decide +kernel) rfl, zTB_of (by decide +kernel) rfl, by decide, by decide, by decide +kernel⟩
theorem zi8_128 : zInv RX8 128 yX6_cut cX6_cut 6 none 1 := ⟨zTB_of (by decide +kernel) rfl, zTB_of (by decide +kernel) rfl, zTB_of (by decide +kernel) rfl, by decide, by decide, by decide +kernel⟩
theorem zi8_132 : zInv RX8 132 yX3_read cX3_read 3 (some .int) 1 := ⟨zTB_of (by decide +kernel) rfl, zTB_of (by decide +kernel) rfl, zTB_of (by decide +kernel) rfl, by decide, by decide, by decide +kernel⟩
theorem zi8_136 : zInv RX8 136 yX8_beginWeek cX8_beginWeek 2 none 0 := ⟨zTB_of (by decide +kernel) rfl, zTB_of (by decide +kernel) rfl, zTB_of (by decide +kernel) rfl, by decide, by decide, by decide +kernel⟩
theorem zi8_139 : zInv RX8 139 yX8_passHour cX8_passHour 7 none 3 := ⟨zTB_of (by decide +kernel) rfl, zTB_of (by decide +kernel) rfl, zTB_of (by decide +kernel) rfl, by decide, by decide, by decide +kernel⟩
theorem zi8_147 : zInv RX8 147 yX7_grow cX7_grow 7 none 2 := ⟨zTB_of (by decide +kernel) rfl, zTB_of (by decide +kernel) rfl, zTB_of (by decide +kernel) rfl, by decide, by decide, by decide +kernel⟩
theorem zi8_156 : zInv RX8 156 yX8_isPitch cX8_isPitch 2 (some .boolean) 1 := ⟨zTB_of (by decide +kernel) rfl, zTB_of (by decide +kernel) rfl, zTB_of (by decide +kernel) rfl, by decide, by decide, by decide +kernel⟩
theorem zi8_178 : zInv RX8 178 yX8_slotOf cX8_slotOf 3 (some .int) 3 := ⟨zTB_of (by decide +kernel) rfl, zTB_of (by decide +kernel) rfl, zTB_of (by decide +kernel) rfl, by decide, by decide, by decide +kernel⟩
theorem zi8_182 : zInv RX8 182 yX8_gameIn cX8_gameIn 4 (some .int) 2 := ⟨zTB_of (by decide +kernel) rfl, zTB_of (by decide +kernel) rfl, zTB_of (by decide +kernel) rfl, by decide, by decide, by decide +kernel⟩
theorem zi8_186 : zInv RX8 186 yX7_least cX7_least 3 (some .int) 0 := ⟨zTB_of (by decide +kernel) rfl, zTB_of (by decide +kernel) rfl, zTB_of (by decide +kernel) rfl, by decide, by decide, by decide +kernel⟩
theorem zi8_190 : zInv RX8 190 yX7_mean cX7_mean 3 (some .int) 0 := ⟨zTB_of (by decide +kernel) rfl, zTB_of (by decide +kernel) rfl, zTB_of (by decide +kernel) rfl, by decide, by decide, by decide +kernel⟩
theorem zi8_202 : zInv RX8 202 yX8_gamesThatAre cX8_gamesThatAre 4 (some .int) 1 := ⟨zTB_of (by decide +kernel) rfl, zTB_of (by decide +kernel) rfl, zTB_of (by decide +kernel) rfl, by decide, by decide, by decide +kernel⟩
theorem zi8_208 : zInv RX8 208 yX8_allHoursShut cX8_allHoursShut 3 (some .int) 0 := ⟨zTB_of (by decide +kernel) rfl, zTB_of (by decide +kernel) rfl, zTB_of (by decide +kernel) rfl, by decide, by decide, by decide +kernel⟩
theorem zi8_211 : zInv RX8 211 yX0_clear cX0_clear 2 none 0 := ⟨zTB_of (by decide +kernel) rfl, zTB_of (by decide +kernel) rfl, zTB_of (by decide +kernel) rfl, by decide, by decide, by decide +kernel⟩
theorem zi8_217 : zInv RX8 217 yX0_put cX0_put 3 none 2 := ⟨zTB_of (by decide +kernel) rfl, zTB_of (by decide +kernel) rfl, zTB_of (by decide +kernel) rfl, by decide, by decide, by decide +kernel⟩
theorem zi8_220 : zInv RX8 220 yX8_firstWish cX8_firstWish 4 (some .int) 2 := ⟨zTB_of (by decide +kernel) rfl, zTB_of (by decide +kernel) rfl, zTB_of (by decide +kernel) rfl, by decide, by decide, by decide +kernel⟩
theorem zi8_224 : zInv RX8 224 yX8_layInPlaceOfAnother cX8_layInPlaceOfAnother 4 none 1 := ⟨zTB_of (by decide +kernel) rfl, zTB_of (by decide +kernel) rfl, zTB_of (by decide +kernel) rfl, by decide, by decide, by decide +kernel⟩
theorem zi8_233 : zInv RX8 233 yX0_firstSlot cX0_firstSlot 8 (some .int) 5 := ⟨zTB_of (by decide +kernel) rfl, zTB_of (by decide +kernel) rfl, zTB_of (by decide +kernel) rfl, by decide, by decide, by decide +kernel⟩
theorem zi8_237 : zInv RX8 237 yX8_givesWay cX8_givesWay 5 (some .boolean) 2 := ⟨zTB_of (by decide +kernel) rfl, zTB_of (by decide +kernel) rfl, zTB_of (by decide +kernel) rfl, by decide, by decide, by decide +kernel⟩
theorem zi8_241 : zInv RX8 241 yX0_drop cX0_drop 3 none 2 := ⟨zTB_of (by decide +kernel) rfl, zTB_of (by decide +kernel) rfl, zTB_of (by decide +kernel) rfl, by decide, by decide, by decide +kernel⟩
theorem zi8_247 : zInv RX8 247 yX0_has cX0_has 2 (some .boolean) 1 := ⟨zTB_of (by decide +kernel) rfl, zTB_of (by decide +kernel) rfl, zTB_of (by decide +kernel) rfl, by decide, by decide, by decide +kernel⟩
theorem zi8_250 : zInv RX8 250 yX8_isShut cX8_isShut 5 (some .boolean) 3 := ⟨zTB_of (by decide +kernel) rfl, zTB_of (by decide +kernel) rfl, zTB_of (by decide +kernel) rfl, by decide, by decide, by decide +kernel⟩
theorem zi8_254 : zInv RX8 254 yX8_sendAway cX8_sendAway 4 none 2 := ⟨zTB_of (by decide +kernel) rfl, zTB_of (by decide +kernel) rfl, zTB_of (by decide +kernel) rfl, by decide, by decide, by decide +kernel⟩
theorem zi8_258 : zInv RX8 258 yX8_playGame cX8_playGame 4 none 2 := ⟨zTB_of (by decide +kernel) rfl, zTB_of (by decide +kernel) rfl, zTB_of (by decide +kernel) rfl, by decide, by decide, by decide +kernel⟩
theorem zi8_262 : zInv RX8 262 yX4_shut cX4_shut 6 (some .boolean) 2 := ⟨zTB_of (by decide +kernel) rfl, zTB_of (by decide +kernel) rfl, zTB_of (by decide +kernel) rfl, by decide, by decide, by decide +kernel⟩
theorem zi8_272 : zInv RX8 272 yX7_wear cX7_wear 7 none 2 := ⟨zTB_of (by decide +kernel) rfl, zTB_of (by decide +kernel) rfl, zTB_of (by decide +kernel) rfl, by decide, by decide, by decide +kernel⟩
theorem zi9_141 : zInv RX9 141 yX9_lay cX9_lay 5 none 1 := ⟨zTB_of (by decide +kernel) rfl, zTB_of (by decide +kernel) rfl, zTB_of (by decide +kernel) rfl, by decide, by decide, by decide +kernel⟩
theorem zi9_148 : zInv RX9 148 yX9_isLetter cX9_isLetter 1 (some .boolean) 1 := ⟨zTB_of (by decide +kernel) rfl, zTB_of (by decide +kernel) rfl, zTB_of (by decide +kernel) rfl, by decide, by decide, by decide +kernel⟩
theorem zi9_157 : zInv RX9 157 yX9_rank cX9_rank 1 (some .int) 1 := ⟨zTB_of (by decide +kernel) rfl, zTB_of (by decide +kernel) rfl, zTB_of (by decide +kernel) rfl, by decide, by decide, by decide +kernel⟩
theorem zi9_160 : zInv RX9 160 yX9_isDigit cX9_isDigit 1 (some .boolean) 1 := ⟨zTB_of (by decide +kernel) rfl, zTB_of (by decide +kernel) rfl, zTB_of (by decide +kernel) rfl, by decide, by decide, by decide +kernel⟩
theorem zi9_167 : zInv RX9 167 yX9_isSignOf cX9_isSignOf 1 (some .boolean) 1 := ⟨zTB_of (by decide +kernel) rfl, zTB_of (by decide +kernel) rfl, zTB_of (by decide +kernel) rfl, by decide, by decide, by decide +kernel⟩
theorem zi9_176 : zInv RX9 176 yX9_isSign cX9_isSign 2 (some .boolean) 1 := ⟨zTB_of (by decide +kernel) rfl, zTB_of (by decide +kernel) rfl, zTB_of (by decide +kernel) rfl, by decide, by decide, by decide +kernel⟩
theorem zi9_179 : zInv RX9 179 yX9_wrong cX9_wrong 2 none 1 := ⟨zTB_of (by decide +kernel) rfl, zTB_of (by decide +kernel) rfl, zTB_of (by decide +kernel) rfl, by decide, by decide, by decide +kernel⟩
theorem zi9_183 : zInv RX9 183 yX9_isWord cX9_isWord 2 (some .boolean) 1 := ⟨zTB_of (by decide +kernel) rfl, zTB_of (by decide +kernel) rfl, zTB_of (by decide +kernel) rfl, by decide, by decide, by decide +kernel⟩
theorem zi9_186 : zInv RX9 186 yX9_hasWord cX9_hasWord 3 (some .boolean) 1 := ⟨zTB_of (by decide +kernel) rfl, zTB_of (by decide +kernel) rfl, zTB_of (by decide +kernel) rfl, by decide, by decide, by decide +kernel⟩
theorem zi9_195 : zInv RX9 195 yX9_cutAll cX9_cutAll 7 none 0 := ⟨zTB_of (by decide +kernel) rfl, zTB_of (by decide +kernel) rfl, zTB_of (by decide +kernel) rfl, by decide, by decide, by decide +kernel⟩
theorem zi9_201 : zInv RX9 201 yX9_line cX9_line 3 none 0 := ⟨zTB_of (by decide +kernel) rfl, zTB_of (by decide +kernel) rfl, zTB_of (by decide +kernel) rfl, by decide, by decide, by decide +kernel⟩
theorem zi9_206 : zInv RX9 206 yX9_takeWord cX9_takeWord 2 none 1 := ⟨zTB_of (by decide +kernel) rfl, zTB_of (by decide +kernel) rfl, zTB_of (by decide +kernel) rfl, by decide, by decide, by decide +kernel⟩
theorem zi9_212 : zInv RX9 212 yX9_opens cX9_opens 1 none 0 := ⟨zTB_of (by decide +kernel) rfl, zTB_of (by decide +kernel) rfl, zTB_of (by decide +kernel) rfl, by decide, by decide, by decide +kernel⟩
theorem zi9_215 : zInv RX9 215 yX9_part cX9_part 2 (some .boolean) 0 := ⟨zTB_of (by decide +kernel) rfl, zTB_of (by decide +kernel) rfl, zTB_of (by decide +kernel) rfl, by decide, by decide, by decide +kernel⟩
theorem zi9_219 : zInv RX9 219 yX9_goesOnBehind cX9_goesOnBehind 1 (some .boolean) 0 := ⟨zTB_of (by decide +kernel) rfl, zTB_of (by decide +kernel) rfl, zTB_of (by decide +kernel) rfl, by decide, by decide, by decide +kernel⟩
theorem zi9_222 : zInv RX9 222 yX9_emit cX9_emit 3 none 2 := ⟨zTB_of (by decide +kernel) rfl, zTB_of (by decide +kernel) rfl, zTB_of (by decide +kernel) rfl, by decide, by decide, by decide +kernel⟩
theorem zi9_226 : zInv RX9 226 yX9_takeSign cX9_takeSign 2 none 1 := ⟨zTB_of (by decide +kernel) rfl, zTB_of (by decide +kernel) rfl, zTB_of (by decide +kernel) rfl, by decide, by decide, by decide +kernel⟩
theorem zi9_229 : zInv RX9 229 yX9_partWord cX9_partWord 2 (some .int) 0 := ⟨zTB_of (by decide +kernel) rfl, zTB_of (by decide +kernel) rfl, zTB_of (by decide +kernel) rfl, by decide, by decide, by decide +kernel⟩
theorem zi9_233 : zInv RX9 233 yX9_hasSign cX9_hasSign 3 (some .boolean) 1 := ⟨zTB_of (by decide +kernel) rfl, zTB_of (by decide +kernel) rfl, zTB_of (by decide +kernel) rfl, by decide, by decide, by decide +kernel⟩
theorem zi9_242 : zInv RX9 242 yX9_isPitch cX9_isPitch 2 (some .boolean) 1 := ⟨zTB_of (by decide +kernel) rfl, zTB_of (by decide +kernel) rfl, zTB_of (by decide +kernel) rfl, by decide, by decide, by decide +kernel⟩
theorem zi9_245 : zInv RX9 245 yX9_share cX9_share 5 (some .int) 3 := ⟨zTB_of (by decide +kernel) rfl, zTB_of (by decide +kernel) rfl, zTB_of (by decide +kernel) rfl, by decide, by decide, by decide +kernel⟩
theorem zi9_249 : zInv RX9 249 yX9_isGone cX9_isGone 2 (some .boolean) 1 := ⟨zTB_of (by decide +kernel) rfl, zTB_of (by decide +kernel) rfl, zTB_of (by decide +kernel) rfl, by decide, by decide, by decide +kernel⟩
theorem zi9_256 : zInv RX9 256 yX9_isThere cX9_isThere 2 (some .boolean) 1 := ⟨zTB_of (by decide +kernel) rfl, zTB_of (by decide +kernel) rfl, zTB_of (by decide +kernel) rfl, by decide, by decide, by decide +kernel⟩
theorem zi9_259 : zInv RX9 259 yX9_gameAt cX9_gameAt 4 (some .int) 1 := ⟨zTB_of (by decide +kernel) rfl, zTB_of (by decide +kernel) rfl, zTB_of (by decide +kernel) rfl, by decide, by decide, by decide +kernel⟩
theorem zi9_262 : zInv RX9 262 yX9_hasClub cX9_hasClub 3 (some .boolean) 2 := ⟨zTB_of (by decide +kernel) rfl, zTB_of (by decide +kernel) rfl, zTB_of (by decide +kernel) rfl, by decide, by decide, by decide +kernel⟩
theorem zi9_266 : zInv RX9 266 yX9_suits cX9_suits 5 (some .boolean) 2 := ⟨zTB_of (by decide +kernel) rfl, zTB_of (by decide +kernel) rfl, zTB_of (by decide +kernel) rfl, by decide, by decide, by decide +kernel⟩
theorem zi9_269 : zInv RX9 269 yX9_firstSlot cX9_firstSlot 11 (some .int) 4 := ⟨zTB_of (by decide +kernel) rfl, zTB_of (by decide +kernel) rfl, zTB_of (by decide +kernel) rfl, by decide, by decide, by decide +kernel⟩
theorem zi9_273 : zInv RX9 273 yX9_lays cX9_lays 3 none 2 := ⟨zTB_of (by decide +kernel) rfl, zTB_of (by decide +kernel) rfl, zTB_of (by decide +kernel) rfl, by decide, by decide, by decide +kernel⟩
theorem zi9_276 : zInv RX9 276 yX9_givesWay cX9_givesWay 6 (some .boolean) 2 := ⟨zTB_of (by decide +kernel) rfl, zTB_of (by decide +kernel) rfl, zTB_of (by decide +kernel) rfl, by decide, by decide, by decide +kernel⟩
theorem zi9_279 : zInv RX9 279 yX9_laysOne cX9_laysOne 4 (some .boolean) 1 := ⟨zTB_of (by decide +kernel) rfl, zTB_of (by decide +kernel) rfl, zTB_of (by decide +kernel) rfl, by decide, by decide, by decide +kernel⟩
theorem zi9_282 : zInv RX9 282 yX9_worth cX9_worth 7 (some .int) 1 := ⟨zTB_of (by decide +kernel) rfl, zTB_of (by decide +kernel) rfl, zTB_of (by decide +kernel) rfl, by decide, by decide, by decide +kernel⟩
theorem zi9_285 : zInv RX9 285 yX9_leastOf cX9_leastOf 4 (some .int) 2 := ⟨zTB_of (by decide +kernel) rfl, zTB_of (by decide +kernel) rfl, zTB_of (by decide +kernel) rfl, by decide, by decide, by decide +kernel⟩
theorem zi9_289 : zInv RX9 289 yX9_meanOf cX9_meanOf 4 (some .int) 2 := ⟨zTB_of (by decide +kernel) rfl, zTB_of (by decide +kernel) rfl, zTB_of (by decide +kernel) rfl, by decide, by decide, by decide +kernel⟩
theorem zi9_292 : zInv RX9 292 yX9_isShut cX9_isShut 4 (some .boolean) 1 := ⟨zTB_of (by decide +kernel) rfl, zTB_of (by decide +kernel) rfl, zTB_of (by decide +kernel) rfl, by decide, by decide, by decide +kernel⟩
theorem zi9_295 : zInv RX9 295 yX9_movesOn cX9_movesOn 3 none 1 := ⟨zTB_of (by decide +kernel) rfl, zTB_of (by decide +kernel) rfl, zTB_of (by decide +kernel) rfl, by decide, by decide, by decide +kernel⟩
theorem zi9_298 : zInv RX9 298 yX9_wears cX9_wears 9 (some .int) 5 := ⟨zTB_of (by decide +kernel) rfl, zTB_of (by decide +kernel) rfl, zTB_of (by decide +kernel) rfl, by decide, by decide, by decide +kernel⟩
theorem zi9_302 : zInv RX9 302 yX9_hour cX9_hour 6 none 4 := ⟨zTB_of (by decide +kernel) rfl, zTB_of (by decide +kernel) rfl, zTB_of (by decide +kernel) rfl, by decide, by decide, by decide +kernel⟩
theorem zi9_306 : zInv RX9 306 yX9_grows cX9_grows 7 none 3 := ⟨zTB_of (by decide +kernel) rfl, zTB_of (by decide +kernel) rfl, zTB_of (by decide +kernel) rfl, by decide, by decide, by decide +kernel⟩
theorem zi9_310 : zInv RX9 310 yX9_gamesOf cX9_gamesOf 5 (some .int) 2 := ⟨zTB_of (by decide +kernel) rfl, zTB_of (by decide +kernel) rfl, zTB_of (by decide +kernel) rfl, by decide, by decide, by decide +kernel⟩
theorem zi9_314 : zInv RX9 314 yX9_gamesThat cX9_gamesThat 4 (some .int) 1 := ⟨zTB_of (by decide +kernel) rfl, zTB_of (by decide +kernel) rfl, zTB_of (by decide +kernel) rfl, by decide, by decide, by decide +kernel⟩
theorem zv_yX0_clear : zIns yX0_clear := ⟨zTB_of (by decide +kernel) rfl, zTB_of (by decide +kernel) rfl⟩
theorem zv_yX0_drop : zIns yX0_drop := ⟨zTB_of (by decide +kernel) rfl, zTB_of (by decide +kernel) rfl⟩
theorem zv_yX0_firstSlot : zIns yX0_firstSlot := ⟨zTB_of (by decide +kernel) rfl, zTB_of (by decide +kernel) rfl⟩
theorem zv_yX0_has : zIns yX0_has := ⟨zTB_of (by decide +kernel) rfl, zTB_of (by decide +kernel) rfl⟩
theorem zs_yX0_isSlot : Cond.static yX0_isSlot ∈ zTB := zTB_of (by decide +kernel) rfl
theorem zs_yX0_lowestBit : Cond.static yX0_lowestBit ∈ zTB := zTB_of (by decide +kernel) rfl
theorem zv_yX0_put : zIns yX0_put := ⟨zTB_of (by decide +kernel) rfl, zTB_of (by decide +kernel) rfl⟩
theorem zs_yX0_slotsOfDay : Cond.static yX0_slotsOfDay ∈ zTB := zTB_of (by decide +kernel) rfl
theorem zn_yX1_init : Cond.instanceMethod yX1_init ∈ zTB := zTB_of (by decide +kernel) rfl
theorem zn_yX2_init : Cond.instanceMethod yX2_init ∈ zTB := zTB_of (by decide +kernel) rfl
theorem zn_yX3_init : Cond.instanceMethod yX3_init ∈ zTB := zTB_of (by decide +kernel) rfl
theorem zv_yX3_read : zIns yX3_read := ⟨zTB_of (by decide +kernel) rfl, zTB_of (by decide +kernel) rfl⟩
theorem zv_yX3_readAnds : zIns yX3_readAnds := ⟨zTB_of (by decide +kernel) rfl, zTB_of (by decide +kernel) rfl⟩
theorem zv_yX3_readLine : zIns yX3_readLine := ⟨zTB_of (by decide +kernel) rfl, zTB_of (by decide +kernel) rfl⟩
theorem zv_yX3_readPart : zIns yX3_readPart := ⟨zTB_of (by decide +kernel) rfl, zTB_of (by decide +kernel) rfl⟩
theorem zv_yX3_readSum : zIns yX3_readSum := ⟨zTB_of (by decide +kernel) rfl, zTB_of (by decide +kernel) rfl⟩
theorem zv_yX3_readTest : zIns yX3_readTest := ⟨zTB_of (by decide +kernel) rfl, zTB_of (by decide +kernel) rfl⟩
theorem zv_yX3_readWhich : zIns yX3_readWhich := ⟨zTB_of (by decide +kernel) rfl, zTB_of (by decide +kernel) rfl⟩
theorem zv_yX3_refuse : zIns yX3_refuse := ⟨zTB_of (by decide +kernel) rfl, zTB_of (by decide +kernel) rfl⟩
theorem zv_yX3_sees : zIns yX3_sees := ⟨zTB_of (by decide +kernel) rfl, zTB_of (by decide +kernel) rfl⟩
theorem zv_yX3_step : zIns yX3_step := ⟨zTB_of (by decide +kernel) rfl, zTB_of (by decide +kernel) rfl⟩
theorem zv_yX3_take : zIns yX3_take := ⟨zTB_of (by decide +kernel) rfl, zTB_of (by decide +kernel) rfl⟩
theorem zv_yX4_clear : zIns yX4_clear := ⟨zTB_of (by decide +kernel) rfl, zTB_of (by decide +kernel) rfl⟩
theorem zv_yX4_endLine : zIns yX4_endLine := ⟨zTB_of (by decide +kernel) rfl, zTB_of (by decide +kernel) rfl⟩
theorem zs_yX4_join : Cond.static yX4_join ∈ zTB := zTB_of (by decide +kernel) rfl
theorem zv_yX4_pop : zIns yX4_pop := ⟨zTB_of (by decide +kernel) rfl, zTB_of (by decide +kernel) rfl⟩
theorem zv_yX4_push : zIns yX4_push := ⟨zTB_of (by decide +kernel) rfl, zTB_of (by decide +kernel) rfl⟩
theorem zv_yX4_put : zIns yX4_put := ⟨zTB_of (by decide +kernel) rfl, zTB_of (by decide +kernel) rfl⟩
theorem zv_yX4_shut : zIns yX4_shut := ⟨zTB_of (by decide +kernel) rfl, zTB_of (by decide +kernel) rfl⟩
theorem zv_yX4_worth : zIns yX4_worth := ⟨zTB_of (by decide +kernel) rfl, zTB_of (by decide +kernel) rfl⟩
theorem zv_yX5_addBytes : zIns yX5_addBytes := ⟨zTB_of (by decide +kernel) rfl, zTB_of (by decide +kernel) rfl⟩
theorem zv_yX6_addToken : zIns yX6_addToken := ⟨zTB_of (by decide +kernel) rfl, zTB_of (by decide +kernel) rfl⟩
theorem zv_yX6_cut : zIns yX6_cut := ⟨zTB_of (by decide +kernel) rfl, zTB_of (by decide +kernel) rfl⟩
theorem zs_yX6_fourLetterKind : Cond.static yX6_fourLetterKind ∈ zTB := zTB_of (by decide +kernel) rfl
theorem zs_yX6_markKind : Cond.static yX6_markKind ∈ zTB := zTB_of (by decide +kernel) rfl
theorem zs_yX6_numberValue : Cond.static yX6_numberValue ∈ zTB := zTB_of (by decide +kernel) rfl
theorem zs_yX6_shortWordKind : Cond.static yX6_shortWordKind ∈ zTB := zTB_of (by decide +kernel) rfl
theorem zs_yX6_sortOf : Cond.static yX6_sortOf ∈ zTB := zTB_of (by decide +kernel) rfl
theorem zs_yX6_spells : Cond.static yX6_spells ∈ zTB := zTB_of (by decide +kernel) rfl
theorem zs_yX6_wordKind : Cond.static yX6_wordKind ∈ zTB := zTB_of (by decide +kernel) rfl
theorem zv_yX7_grow : zIns yX7_grow := ⟨zTB_of (by decide +kernel) rfl, zTB_of (by decide +kernel) rfl⟩
theorem zn_yX7_init : Cond.instanceMethod yX7_init ∈ zTB := zTB_of (by decide +kernel) rfl
theorem zv_yX7_least : zIns yX7_least := ⟨zTB_of (by decide +kernel) rfl, zTB_of (by decide +kernel) rfl⟩
theorem zv_yX7_mean : zIns yX7_mean := ⟨zTB_of (by decide +kernel) rfl, zTB_of (by decide +kernel) rfl⟩
theorem zv_yX7_wear : zIns yX7_wear := ⟨zTB_of (by decide +kernel) rfl, zTB_of (by decide +kernel) rfl⟩
theorem zv_yX8_allHoursShut : zIns yX8_allHoursShut := ⟨zTB_of (by decide +kernel) rfl, zTB_of (by decide +kernel) rfl⟩
theorem zv_yX8_at : zIns yX8_at := ⟨zTB_of (by decide +kernel) rfl, zTB_of (by decide +kernel) rfl⟩
theorem zv_yX8_beginWeek : zIns yX8_beginWeek := ⟨zTB_of (by decide +kernel) rfl, zTB_of (by decide +kernel) rfl⟩
theorem zv_yX8_club : zIns yX8_club := ⟨zTB_of (by decide +kernel) rfl, zTB_of (by decide +kernel) rfl⟩
theorem zv_yX8_count : zIns yX8_count := ⟨zTB_of (by decide +kernel) rfl, zTB_of (by decide +kernel) rfl⟩
theorem zv_yX8_day : zIns yX8_day := ⟨zTB_of (by decide +kernel) rfl, zTB_of (by decide +kernel) rfl⟩
theorem zv_yX8_feed : zIns yX8_feed := ⟨zTB_of (by decide +kernel) rfl, zTB_of (by decide +kernel) rfl⟩
theorem zv_yX8_field : zIns yX8_field := ⟨zTB_of (by decide +kernel) rfl, zTB_of (by decide +kernel) rfl⟩
theorem zv_yX8_firstWish : zIns yX8_firstWish := ⟨zTB_of (by decide +kernel) rfl, zTB_of (by decide +kernel) rfl⟩
theorem zv_yX8_game : zIns yX8_game := ⟨zTB_of (by decide +kernel) rfl, zTB_of (by decide +kernel) rfl⟩
theorem zv_yX8_gameIn : zIns yX8_gameIn := ⟨zTB_of (by decide +kernel) rfl, zTB_of (by decide +kernel) rfl⟩
theorem zv_yX8_gamesThatAre : zIns yX8_gamesThatAre := ⟨zTB_of (by decide +kernel) rfl, zTB_of (by decide +kernel) rfl⟩
theorem zv_yX8_givesWay : zIns yX8_givesWay := ⟨zTB_of (by decide +kernel) rfl, zTB_of (by decide +kernel) rfl⟩
theorem zv_yX8_grass : zIns yX8_grass := ⟨zTB_of (by decide +kernel) rfl, zTB_of (by decide +kernel) rfl⟩
theorem zn_yX8_init : Cond.instanceMethod yX8_init ∈ zTB := zTB_of (by decide +kernel) rfl
theorem zs_yX8_isClub : Cond.static yX8_isClub ∈ zTB := zTB_of (by decide +kernel) rfl
theorem zv_yX8_isPitch : zIns yX8_isPitch := ⟨zTB_of (by decide +kernel) rfl, zTB_of (by decide +kernel) rfl⟩
theorem zv_yX8_isShut : zIns yX8_isShut := ⟨zTB_of (by decide +kernel) rfl, zTB_of (by decide +kernel) rfl⟩
theorem zv_yX8_isWeekToCome : zIns yX8_isWeekToCome := ⟨zTB_of (by decide +kernel) rfl, zTB_of (by decide +kernel) rfl⟩
theorem zv_yX8_lay : zIns yX8_lay := ⟨zTB_of (by decide +kernel) rfl, zTB_of (by decide +kernel) rfl⟩
theorem zv_yX8_layGame : zIns yX8_layGame := ⟨zTB_of (by decide +kernel) rfl, zTB_of (by decide +kernel) rfl⟩
theorem zv_yX8_layInPlaceOfAnother : zIns yX8_layInPlaceOfAnother := ⟨zTB_of (by decide +kernel) rfl, zTB_of (by decide +kernel) rfl⟩
theorem zv_yX8_look : zIns yX8_look := ⟨zTB_of (by decide +kernel) rfl, zTB_of (by decide +kernel) rfl⟩
theorem zv_yX8_newGamesOf : zIns yX8_newGamesOf := ⟨zTB_of (by decide +kernel) rfl, zTB_of (by decide +kernel) rfl⟩
theorem zv_yX8_passHour : zIns yX8_passHour := ⟨zTB_of (by decide +kernel) rfl, zTB_of (by decide +kernel) rfl⟩
theorem zv_yX8_pitch : zIns yX8_pitch := ⟨zTB_of (by decide +kernel) rfl, zTB_of (by decide +kernel) rfl⟩
theorem zv_yX8_playGame : zIns yX8_playGame := ⟨zTB_of (by decide +kernel) rfl, zTB_of (by decide +kernel) rfl⟩
theorem zv_yX8_sendAway : zIns yX8_sendAway := ⟨zTB_of (by decide +kernel) rfl, zTB_of (by decide +kernel) rfl⟩
theorem zv_yX8_showWeek : zIns yX8_showWeek := ⟨zTB_of (by decide +kernel) rfl, zTB_of (by decide +kernel) rfl⟩
theorem zs_yX8_slotOf : Cond.static yX8_slotOf ∈ zTB := zTB_of (by decide +kernel) rfl
theorem zv_yX8_text : zIns yX8_text := ⟨zTB_of (by decide +kernel) rfl, zTB_of (by decide +kernel) rfl⟩
theorem zv_yX8_turn : zIns yX8_turn := ⟨zTB_of (by decide +kernel) rfl, zTB_of (by decide +kernel) rfl⟩
theorem zv_yX8_would : zIns yX8_would := ⟨zTB_of (by decide +kernel) rfl, zTB_of (by decide +kernel) rfl⟩
theorem zv_yX9_at : zIns yX9_at := ⟨zTB_of (by decide +kernel) rfl, zTB_of (by decide +kernel) rfl⟩
theorem zv_yX9_club : zIns yX9_club := ⟨zTB_of (by decide +kernel) rfl, zTB_of (by decide +kernel) rfl⟩
theorem zv_yX9_count : zIns yX9_count := ⟨zTB_of (by decide +kernel) rfl, zTB_of (by decide +kernel) rfl⟩
theorem zv_yX9_cutAll : zIns yX9_cutAll := ⟨zTB_of (by decide +kernel) rfl, zTB_of (by decide +kernel) rfl⟩
theorem zv_yX9_day : zIns yX9_day := ⟨zTB_of (by decide +kernel) rfl, zTB_of (by decide +kernel) rfl⟩
theorem zv_yX9_emit : zIns yX9_emit := ⟨zTB_of (by decide +kernel) rfl, zTB_of (by decide +kernel) rfl⟩
theorem zv_yX9_feed : zIns yX9_feed := ⟨zTB_of (by decide +kernel) rfl, zTB_of (by decide +kernel) rfl⟩
theorem zv_yX9_field : zIns yX9_field := ⟨zTB_of (by decide +kernel) rfl, zTB_of (by decide +kernel) rfl⟩
theorem zv_yX9_firstSlot : zIns yX9_firstSlot := ⟨zTB_of (by decide +kernel) rfl, zTB_of (by decide +kernel) rfl⟩
theorem zv_yX9_game : zIns yX9_game := ⟨zTB_of (by decide +kernel) rfl, zTB_of (by decide +kernel) rfl⟩
theorem zv_yX9_gameAt : zIns yX9_gameAt := ⟨zTB_of (by decide +kernel) rfl, zTB_of (by decide +kernel) rfl⟩
theorem zv_yX9_gamesOf : zIns yX9_gamesOf := ⟨zTB_of (by decide +kernel) rfl, zTB_of (by decide +kernel) rfl⟩
theorem zv_yX9_gamesThat : zIns yX9_gamesThat := ⟨zTB_of (by decide +kernel) rfl, zTB_of (by decide +kernel) rfl⟩
theorem zv_yX9_givesWay : zIns yX9_givesWay := ⟨zTB_of (by decide +kernel) rfl, zTB_of (by decide +kernel) rfl⟩
theorem zv_yX9_goesOnBehind : zIns yX9_goesOnBehind := ⟨zTB_of (by decide +kernel) rfl, zTB_of (by decide +kernel) rfl⟩
theorem zv_yX9_grass : zIns yX9_grass := ⟨zTB_of (by decide +kernel) rfl, zTB_of (by decide +kernel) rfl⟩
theorem zv_yX9_grows : zIns yX9_grows := ⟨zTB_of (by decide +kernel) rfl, zTB_of (by decide +kernel) rfl⟩
theorem zv_yX9_hasClub : zIns yX9_hasClub := ⟨zTB_of (by decide +kernel) rfl, zTB_of (by decide +kernel) rfl⟩
theorem zv_yX9_hasSign : zIns yX9_hasSign := ⟨zTB_of (by decide +kernel) rfl, zTB_of (by decide +kernel) rfl⟩
theorem zv_yX9_hasWord : zIns yX9_hasWord := ⟨zTB_of (by decide +kernel) rfl, zTB_of (by decide +kernel) rfl⟩
theorem zv_yX9_hour : zIns yX9_hour := ⟨zTB_of (by decide +kernel) rfl, zTB_of (by decide +kernel) rfl⟩
theorem zn_yX9_init : Cond.instanceMethod yX9_init ∈ zTB := zTB_of (by decide +kernel) rfl
theorem zs_yX9_isDigit : Cond.static yX9_isDigit ∈ zTB := zTB_of (by decide +kernel) rfl
theorem zv_yX9_isGone : zIns yX9_isGone := ⟨zTB_of (by decide +kernel) rfl, zTB_of (by decide +kernel) rfl⟩
theorem zs_yX9_isLetter : Cond.static yX9_isLetter ∈ zTB := zTB_of (by decide +kernel) rfl
theorem zv_yX9_isPitch : zIns yX9_isPitch := ⟨zTB_of (by decide +kernel) rfl, zTB_of (by decide +kernel) rfl⟩
theorem zv_yX9_isShut : zIns yX9_isShut := ⟨zTB_of (by decide +kernel) rfl, zTB_of (by decide +kernel) rfl⟩
theorem zv_yX9_isSign : zIns yX9_isSign := ⟨zTB_of (by decide +kernel) rfl, zTB_of (by decide +kernel) rfl⟩
theorem zs_yX9_isSignOf : Cond.static yX9_isSignOf ∈ zTB := zTB_of (by decide +kernel) rfl
theorem zv_yX9_isThere : zIns yX9_isThere := ⟨zTB_of (by decide +kernel) rfl, zTB_of (by decide +kernel) rfl⟩
theorem zv_yX9_isWord : zIns yX9_isWord := ⟨zTB_of (by decide +kernel) rfl, zTB_of (by decide +kernel) rfl⟩
theorem zv_yX9_lay : zIns yX9_lay := ⟨zTB_of (by decide +kernel) rfl, zTB_of (by decide +kernel) rfl⟩
theorem zv_yX9_lay_ : zIns yX9_lay_ := ⟨zTB_of (by decide +kernel) rfl, zTB_of (by decide +kernel) rfl⟩
theorem zv_yX9_lays : zIns yX9_lays := ⟨zTB_of (by decide +kernel) rfl, zTB_of (by decide +kernel) rfl⟩
theorem zv_yX9_laysOne : zIns yX9_laysOne := ⟨zTB_of (by decide +kernel) rfl, zTB_of (by decide +kernel) rfl⟩
theorem zs_yX9_leastOf : Cond.static yX9_leastOf ∈ zTB := zTB_of (by decide +kernel) rfl
theorem zv_yX9_line : zIns yX9_line := ⟨zTB_of (by decide +kernel) rfl, zTB_of (by decide +kernel) rfl⟩
theorem zv_yX9_look : zIns yX9_look := ⟨zTB_of (by decide +kernel) rfl, zTB_of (by decide +kernel) rfl⟩
theorem zs_yX9_meanOf : Cond.static yX9_meanOf ∈ zTB := zTB_of (by decide +kernel) rfl
theorem zv_yX9_movesOn : zIns yX9_movesOn := ⟨zTB_of (by decide +kernel) rfl, zTB_of (by decide +kernel) rfl⟩
theorem zv_yX9_opens : zIns yX9_opens := ⟨zTB_of (by decide +kernel) rfl, zTB_of (by decide +kernel) rfl⟩
theorem zv_yX9_part : zIns yX9_part := ⟨zTB_of (by decide +kernel) rfl, zTB_of (by decide +kernel) rfl⟩
theorem zv_yX9_partWord : zIns yX9_partWord := ⟨zTB_of (by decide +kernel) rfl, zTB_of (by decide +kernel) rfl⟩
theorem zv_yX9_pitch : zIns yX9_pitch := ⟨zTB_of (by decide +kernel) rfl, zTB_of (by decide +kernel) rfl⟩
theorem zs_yX9_rank : Cond.static yX9_rank ∈ zTB := zTB_of (by decide +kernel) rfl
theorem zs_yX9_share : Cond.static yX9_share ∈ zTB := zTB_of (by decide +kernel) rfl
theorem zv_yX9_suits : zIns yX9_suits := ⟨zTB_of (by decide +kernel) rfl, zTB_of (by decide +kernel) rfl⟩
theorem zv_yX9_takeSign : zIns yX9_takeSign := ⟨zTB_of (by decide +kernel) rfl, zTB_of (by decide +kernel) rfl⟩
theorem zv_yX9_takeWord : zIns yX9_takeWord := ⟨zTB_of (by decide +kernel) rfl, zTB_of (by decide +kernel) rfl⟩
theorem zv_yX9_text : zIns yX9_text := ⟨zTB_of (by decide +kernel) rfl, zTB_of (by decide +kernel) rfl⟩
theorem zv_yX9_thrown : zIns yX9_thrown := ⟨zTB_of (by decide +kernel) rfl, zTB_of (by decide +kernel) rfl⟩
theorem zv_yX9_turn : zIns yX9_turn := ⟨zTB_of (by decide +kernel) rfl, zTB_of (by decide +kernel) rfl⟩
theorem zs_yX9_wears : Cond.static yX9_wears ∈ zTB := zTB_of (by decide +kernel) rfl
theorem zv_yX9_worth : zIns yX9_worth := ⟨zTB_of (by decide +kernel) rfl, zTB_of (by decide +kernel) rfl⟩
theorem zv_yX9_would : zIns yX9_would := ⟨zTB_of (by decide +kernel) rfl, zTB_of (by decide +kernel) rfl⟩
theorem zv_yX9_wrong : zIns yX9_wrong := ⟨zTB_of (by decide +kernel) rfl, zTB_of (by decide +kernel) rfl⟩
