/-! a new pitch: two turfs -/
theorem zw2_7 : zNw RX2 7 7 3 := ⟨RX7, TX7, tyX7, zC7, zTB_of (by decide +kernel) rfl, zTB_of (by decide +kernel) rfl, zTB_of (by decide +kernel) rfl, by decide +kernel⟩
/-- the heap with a turf more: its object at n, its cells at n + 1 -/
def kNt (h : ZH) (st : Int32) : ZH := (h.1 + 1 + 1, va_up (va_up h.2.1 h.1 (12, 0)) (h.1 + 1) (0, 24), kfl (zu (va_up (va_up h.2.2.1 h.1 (fun _ => 0)) (h.1 + 1) (fun _ => 0)) h.1 1 st) (h.1 + 1) 24, va_up (va_up h.2.2.2.1 h.1 (fun _ => 0)) (h.1 + 1) (fun _ => 0), zu (va_up (va_up h.2.2.2.2 h.1 (fun _ => none)) (h.1 + 1) (fun _ => none)) h.1 0 (some (h.1 + 1)))
abbrev x2_init : ZX := (RX2, cX2_init, 2, none, "<init>", 2, 80, false)
set_option maxHeartbeats 4000000 in
theorem c2_init (n : Nat) (K : Nat → Nat × Nat) (I : Nat → Nat → Int32) (L : Nat → Nat → Int64) (R : Nat → Nat → Option Nat) (b : Nat) (st : Int32) (hba : b < n) (hbk : K b = (7, 0)) : Zm yX2_init cX2_init 2 none 2 80 4 54 [.ref b, .int st] (n, K, I, L, R) (fun r h => r = none ∧ ∃ h1 h2 : ZH, h1 = kNt (n, K, I, L, R) st ∧ h2 = kNt (h1.1, h1.2.1, h1.2.2.1, h1.2.2.2.1, zu h1.2.2.2.2 b 0 (some n)) (1 - st) ∧ h = (h2.1, h2.2.1, h2.2.2.1, h2.2.2.2.1, zu h2.2.2.2.2 b 1 (some (n + 2)))) := by
  refine Zm_of (lg := false) (by decide) (fun _ => by simp [Value.category]) (fun _ => Nat.le_of_ble_eq_true rfl) ?_
  show Zf x2_init 4 54 0 (zargs [.ref b, .int st]) [] (n, K, I, L, R) _
  refine z_aload_n (i := 0) dX2_init_0 rfl rfl ?_
  refine z_objInit dX2_init_1 ko2_1 koI koC (Nat.le_of_ble_eq_true rfl) (Nat.le_of_ble_eq_true rfl) (Nat.le_of_ble_eq_true rfl) ?_
  refine z_aload_n (i := 0) dX2_init_4 rfl rfl ?_
  refine z_new (mc2 := 3) (ms2 := 51) zw2_7 dX2_init_5 (by omega) (by omega) ?_
  refine z_dup dX2_init_8 rfl ?_
  refine z_iload_n (i := 1) dX2_init_9 rfl rfl ?_
  refine z_callI (st := [_, _]) (mc2 := 2) (ms2 := 27) zi2_9 zn_yX7_init rfl (c7_init (n + 1) _ _ _ _ n st (by omega) (va_up_self _ _ _)) dX2_init_10 rfl rfl (by decide) (by decide) (Nat.le_of_ble_eq_true rfl) (by decide) (by decide) (fun r h2 hq => ?_)
  obtain ⟨rfl, rfl⟩ := hq
  simp only [Option.toList, List.nil_append]
  refine z_putR zf2_12 dX2_init_13 (fun _ => rfl) (show b < n + 1 + 1 by omega) (by rw [va_up_ne _ _ (by omega), va_up_ne _ _ (by omega)]; exact hbk) ?_
  refine z_aload_n (i := 0) dX2_init_16 rfl rfl ?_
  refine z_new (mc2 := 1) (ms2 := 24) zw2_7 dX2_init_17 (by omega) (by omega) ?_
  refine z_dup dX2_init_20 rfl ?_
  refine z_iconst (v := 1) dX2_init_21 (by decide) ?_
  refine z_iload_n (i := 1) dX2_init_22 rfl rfl ?_
  refine z_isub dX2_init_23 ?_
  refine z_callI (st := [_, _]) (mc2 := 0) (ms2 := 0) zi2_9 zn_yX7_init rfl (c7_init (n + 1 + 1 + 1) _ _ _ _ (n + 1 + 1) (1 - st) (by omega) (va_up_self _ _ _)) dX2_init_24 rfl rfl (by decide) (by decide) (Nat.le_of_ble_eq_true rfl) (by decide) (by decide) (fun r h2 hq => ?_)
  obtain ⟨rfl, rfl⟩ := hq
  simp only [Option.toList, List.nil_append]
  refine z_putR zf2_18 dX2_init_27 (fun _ => rfl) (show b < n + 1 + 1 + 1 + 1 by omega) (by rw [va_up_ne _ _ (by omega), va_up_ne _ _ (by omega), va_up_ne _ _ (by omega), va_up_ne _ _ (by omega)]; exact hbk) ?_
  refine z_vret dX2_init_30 rfl ?_
  exact ⟨rfl, _, _, rfl, rfl, rfl⟩
