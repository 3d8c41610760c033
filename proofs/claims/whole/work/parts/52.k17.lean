/-! a new turf -/
theorem kaI : Cond.arrayClass .int ∈ zTB := zTB_of (by decide +kernel) rfl
def kfl (I : Nat → Nat → Int32) (c m : Nat) : Nat → Nat → Int32 := fun a j => if a = c ∧ j < m then 800 else I a j
theorem kfl_0 (I : Nat → Nat → Int32) (c : Nat) : kfl I c 0 = I := by
  funext a j
  unfold kfl
  rw [if_neg (by omega)]
theorem kfl_s (I : Nat → Nat → Int32) (c m : Nat) : zu (kfl I c m) c m 800 = kfl I c (m + 1) := by
  funext a j
  rw [zu_apply]
  unfold kfl
  by_cases h : a = c ∧ j = m
  · rw [if_pos h, if_pos (by omega)]
  · rw [if_neg h]
    by_cases h2 : a = c ∧ j < m
    · rw [if_pos h2, if_pos (by omega)]
    · rw [if_neg h2, if_neg (by omega)]
abbrev x7_init : ZX := (RX7, cX7_init, 3, none, "<init>", 1, 40, false)
set_option maxHeartbeats 4000000 in
theorem l7_init {n : Nat} {K : Nat → Nat × Nat} {I : Nat → Nat → Int32} {L : Nat → Nat → Int64} {R : Nat → Nat → Option Nat} {Q : Option Value → ZH → Prop} {t c : Nat} (hT : kTf n K R t c) (hQ : Q none (n, K, kfl I c 24, L, R)) : ∀ (m j : Nat), 24 - j < m → j ≤ 24 → ∀ (J : Nat → Nat → Int32) (ls : Nat → Option Value), J = kfl I c j → ls 0 = some (.ref t) → ls 2 = some (.int (nI j)) → Zf x7_init 0 0 19 ls [] (n, K, J, L, R) Q := by
  intro m
  induction m with
  | zero => intro j h; omega
  | succ m ih =>
  intro j hm hj J ls hJ hl0 hl2
  subst hJ
  obtain ⟨ha, hca, hk, hck, hr⟩ := id hT
  refine z_iload_n (i := 2) dX7_init_19 rfl hl2 ?_
  refine z_bipush (v := 24) dX7_init_20 (by decide) ?_
  rw [zl24]
  refine z_icmp_ge 40 dX7_init_22 (by decide) (fun c_1 => ?_) (fun c_1 => ?_)
  · skip
    refine z_vret dX7_init_40 rfl ?_
    have h1 := (zle (by omega) (by omega)).mp c_1
    have h2 : j = 24 := by omega
    subst h2
    exact hQ
  · skip
    have h1 : ¬ 24 ≤ j := fun q => c_1 ((zle (by omega) (by omega)).mpr q)
    refine z_aload_n (i := 0) dX7_init_25 rfl hl0 ?_
    refine z_gR zf7_9.g dX7_init_26 ha hk hr ?_
    refine z_iload_n (i := 2) dX7_init_29 rfl hl2 ?_
    refine z_sipush (v := 800) dX7_init_30 (by decide) ?_
    refine z_iast dX7_init_33 hca hck (zvin (by omega) (by omega)) ?_
    refine z_iinc dX7_init_34 hl2 rfl ?_
    refine z_goto 19 dX7_init_37 (by decide) ?_
    rw [zinc]
    exact ih (j + 1) (by omega) (by omega) _ _ (by rw [zcl (by omega)]; exact kfl_s I c j) hl0 rfl
set_option maxHeartbeats 4000000 in
theorem c7_init (n : Nat) (K : Nat → Nat × Nat) (I : Nat → Nat → Int32) (L : Nat → Nat → Int64) (R : Nat → Nat → Option Nat) (t : Nat) (st : Int32) (hta : t < n) (htk : K t = (12, 0)) : Zm yX7_init cX7_init 3 none 1 40 1 24 [.ref t, .int st] (n, K, I, L, R) (kQ none (n + 1) (va_up K n (0, 24)) (kfl (zu (va_up I n (fun _ => 0)) t 1 st) n 24) (va_up L n (fun _ => 0)) (zu (va_up R n (fun _ => none)) t 0 (some n))) := by
  refine Zm_of (lg := false) (by decide) (fun _ => by simp [Value.category]) (fun _ => Nat.le_of_ble_eq_true rfl) ?_
  show Zf x7_init 1 24 0 (zargs [.ref t, .int st]) [] (n, K, I, L, R) _
  have hk2 : va_up K n (0, 24) t = (12, 0) := by rw [va_up_ne _ _ (by omega)]; exact htk
  refine z_aload_n (i := 0) dX7_init_0 rfl rfl ?_
  refine z_objInit dX7_init_1 ko7_3 koI koC (Nat.le_of_ble_eq_true rfl) (Nat.le_of_ble_eq_true rfl) (Nat.le_of_ble_eq_true rfl) ?_
  refine z_aload_n (i := 0) dX7_init_4 rfl rfl ?_
  refine z_bipush (v := 24) dX7_init_5 (by decide) ?_
  refine z_newI (mc2 := 0) (ms2 := 0) (N := 24) kaI dX7_init_7 (by decide) (by decide) (by omega) (by omega) (by omega) ?_
  refine z_putR zf7_9 dX7_init_9 (fun _ => rfl) (show t < n + 1 by omega) hk2 ?_
  refine z_aload_n (i := 0) dX7_init_12 rfl rfl ?_
  refine z_iload_n (i := 1) dX7_init_13 rfl rfl ?_
  refine z_putI zf7_13 dX7_init_14 (fun h => by cases h) (show t < n + 1 by omega) hk2 ?_
  refine z_iconst (v := 0) dX7_init_17 (by decide) ?_
  refine z_istore_n (i := 2) dX7_init_18 rfl (by decide) rfl ?_
  exact l7_init (t := t) (c := n) ⟨by omega, by omega, hk2, va_up_self _ _ _, by rw [zu_apply, if_pos ⟨rfl, rfl⟩]⟩ ⟨rfl, rfl⟩ 25 0 (by omega) (by omega) _ _ (kfl_0 _ _).symm rfl rfl
