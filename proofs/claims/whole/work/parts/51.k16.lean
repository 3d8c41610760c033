/-! a new game -/
theorem koI : Cond.instanceMethod Lib.objectInit ∈ zTB := zTB_of (by decide +kernel) rfl
theorem koC : Cond.code Lib.objectInit ⟨#[0xb1]⟩ 1 none ∈ zTB := zTB_of (by decide +kernel) rfl
theorem ko1_3 : Cond.methodLink RX1 3 Lib.objectInit ∈ zTB := zTB_of (by decide +kernel) rfl
theorem ko2_1 : Cond.methodLink RX2 1 Lib.objectInit ∈ zTB := zTB_of (by decide +kernel) rfl
theorem ko7_3 : Cond.methodLink RX7 3 Lib.objectInit ∈ zTB := zTB_of (by decide +kernel) rfl
def kgm (I : Nat → Nat → Int32) (g : Nat) (a b age rk wk ws : Int32) : Nat → Nat → Int32 := zu (zu (zu (zu (zu (zu (zu (zu (zu I g 7 0) g 8 (-1)) g 0 a) g 1 b) g 2 ((1 <<< (a &&& 31)) ||| (1 <<< (b &&& 31)))) g 3 age) g 4 rk) g 5 wk) g 6 ws
abbrev x1_init : ZX := (RX1, cX1_init, 7, none, "<init>", 1, 40, false)
set_option maxHeartbeats 4000000 in
theorem c1_init (n : Nat) (K : Nat → Nat × Nat) (I : Nat → Nat → Int32) (L : Nat → Nat → Int64) (R : Nat → Nat → Option Nat) (g : Nat) (hga : g < n) (hgk : K g = (6, 0)) (a b age rk wk ws : Int32) : Zm yX1_init cX1_init 7 none 1 40 0 0 [.ref g, .int a, .int b, .int age, .int rk, .int wk, .int ws] ((n, K, I, L, R)) (kQ none n K (kgm I g a b age rk wk ws) L R) := by
  refine Zm_of (lg := false) (by decide) (fun _ => by simp [Value.category]) (fun _ => Nat.le_of_ble_eq_true rfl) ?_
  show Zf x1_init 0 0 0 (zargs [.ref g, .int a, .int b, .int age, .int rk, .int wk, .int ws]) [] ((n, K, I, L, R)) _
  generalize hQ0 : (kQ none n K (kgm I g a b age rk wk ws) L R : Option Value → ZH → Prop) = Q0
  refine z_aload_n (i := 0) dX1_init_0 rfl rfl ?_
  refine z_objInit dX1_init_1 ko1_3 koI koC (Nat.le_of_ble_eq_true rfl) (Nat.le_of_ble_eq_true rfl) (Nat.le_of_ble_eq_true rfl) ?_
  refine z_aload_n (i := 0) dX1_init_4 rfl rfl ?_
  refine z_iconst (v := 0) dX1_init_5 (by decide) ?_
  refine z_putI zf1_9 dX1_init_6 (fun h => by cases h) hga hgk ?_
  refine z_aload_n (i := 0) dX1_init_9 rfl rfl ?_
  refine z_iconst (v := (-1)) dX1_init_10 (by decide) ?_
  refine z_putI zf1_15 dX1_init_11 (fun h => by cases h) hga hgk ?_
  refine z_aload_n (i := 0) dX1_init_14 rfl rfl ?_
  refine z_iload_n (i := 1) dX1_init_15 rfl rfl ?_
  refine z_putI zf1_18 dX1_init_16 (fun _ => rfl) hga hgk ?_
  refine z_aload_n (i := 0) dX1_init_19 rfl rfl ?_
  refine z_iload_n (i := 2) dX1_init_20 rfl rfl ?_
  refine z_putI zf1_21 dX1_init_21 (fun _ => rfl) hga hgk ?_
  refine z_aload_n (i := 0) dX1_init_24 rfl rfl ?_
  refine z_iconst (v := 1) dX1_init_25 (by decide) ?_
  refine z_iload_n (i := 1) dX1_init_26 rfl rfl ?_
  refine z_ishl dX1_init_27 ?_
  refine z_iconst (v := 1) dX1_init_28 (by decide) ?_
  refine z_iload_n (i := 2) dX1_init_29 rfl rfl ?_
  refine z_ishl dX1_init_30 ?_
  refine z_ior dX1_init_31 ?_
  refine z_putI zf1_24 dX1_init_32 (fun _ => rfl) hga hgk ?_
  refine z_aload_n (i := 0) dX1_init_35 rfl rfl ?_
  refine z_iload_n (i := 3) dX1_init_36 rfl rfl ?_
  refine z_putI zf1_27 dX1_init_37 (fun _ => rfl) hga hgk ?_
  refine z_aload_n (i := 0) dX1_init_40 rfl rfl ?_
  refine z_iload dX1_init_41 rfl ?_
  refine z_putI zf1_30 dX1_init_43 (fun _ => rfl) hga hgk ?_
  refine z_aload_n (i := 0) dX1_init_46 rfl rfl ?_
  refine z_iload dX1_init_47 rfl ?_
  refine z_putI zf1_33 dX1_init_49 (fun _ => rfl) hga hgk ?_
  refine z_aload_n (i := 0) dX1_init_52 rfl rfl ?_
  refine z_iload dX1_init_53 rfl ?_
  refine z_putI zf1_36 dX1_init_55 (fun _ => rfl) hga hgk ?_
  refine z_vret dX1_init_58 rfl ?_
  subst hQ0
  exact ⟨rfl, rfl⟩
