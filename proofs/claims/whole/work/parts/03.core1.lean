/-! Z: an abstract heap (kinds, ints, longs, references, by small numbers), and a judgement over it -/
abbrev ZX : Type := String × ByteArray × Nat × Option FieldType × String × Nat × Nat × Bool
abbrev ZH : Type := Nat × (Nat → Nat × Nat) × (Nat → Nat → Int32) × (Nat → Nat → Int64) × (Nat → Nat → Option Nat)
abbrev ZG : Type := (Nat → Nat) × (Nat → Nat)
def zTB : List Cond := lw_tbl.filter goodWord
theorem zTB_of {w : Cond} (h : w ∈ lw_tbl) (hg : goodWord w = true) : w ∈ zTB := List.mem_filter.mpr ⟨h, hg⟩
theorem zTB_in {w : Cond} (h : w ∈ zTB) : w ∈ lw_tbl := (List.mem_filter.mp h).1
theorem zTB_good {w : Cond} (h : w ∈ zTB) : goodWord w = true := (List.mem_filter.mp h).2
def zc (g : ZG) (v : Value) : Value := match v with
  | .ref a => .ref (g.1 a)
  | .float k => .ref (g.2 k.toNat)
  | w => w
theorem zc_rf (g : ZG) (o : Option Nat) : zc g (va_rf o) = va_rf (o.map g.1) := by cases o <;> rfl
def zu {α : Type} (I : Nat → Nat → α) (a k : Nat) (v : α) : Nat → Nat → α := fun b => if b = a then va_up (I a) k v else I b
theorem zu_at {α : Type} (I : Nat → Nat → α) (a k : Nat) (v : α) : zu I a k v a = va_up (I a) k v := by simp [zu]
theorem zu_ne {α : Type} (I : Nat → Nat → α) {a b : Nat} (k : Nat) (v : α) (h : b ≠ a) : zu I a k v b = I b := by simp [zu, h]
theorem zu_apply {α : Type} (I : Nat → Nat → α) (a k : Nat) (v : α) (b j : Nat) : zu I a k v b j = if b = a ∧ j = k then v else I b j := by
  by_cases hb : b = a
  · subst hb
    by_cases hj : j = k
    · simp [zu, va_up, hj]
    · simp [zu, va_up, hj]
  · simp [zu, hb]
def zT (c : Nat) : List Bool := match c with
  | 0 => [true, true]
  | 1 => [false, false, false, false, false, false, false, false, false, false]
  | 2 => [true, true, false, false, false]
  | 3 => [true, true, false, false]
  | 4 => [true, true, true, true, false, false, false]
  | 5 => [true, false]
  | 6 => [true, true, true, false]
  | 7 => [true, false, false]
  | 8 => [true, true, true, true, true, true, true, true, true, true, true, true, true, false, false, false]
  | _ => [false, true, false, false, true, true, true, false, false, true, true, true, true, true, true, false, false, false, false, true, true, true, true, true, false, true, true, true, true, true, true, true, true, true, false, false, true, true, true, true, true, true, true, true, true, true]
def zFg (g : ZG) (f : Nat → Int32) (r : Nat → Option Nat) : Nat → List Bool → List Value
  | _, [] => []
  | k, true :: ts => va_rf ((r k).map g.1) :: zFg g f r (k + 1) ts
  | k, false :: ts => .int (f k) :: zFg g f r (k + 1) ts
theorem zFg_len (g : ZG) (f : Nat → Int32) (r : Nat → Option Nat) : ∀ (ts : List Bool) (k : Nat), (zFg g f r k ts).length = ts.length
  | [], _ => rfl
  | true :: ts, k => by simp [zFg, zFg_len g f r ts]
  | false :: ts, k => by simp [zFg, zFg_len g f r ts]
theorem zFg_i (g : ZG) (f : Nat → Int32) (r : Nat → Option Nat) : ∀ (ts : List Bool) (k j : Nat), ts[j]? = some false → (zFg g f r k ts)[j]? = some (.int (f (k + j)))
  | [], _, j, h => by simp at h
  | b :: ts, k, 0, h => by
    simp only [List.getElem?_cons_zero, Option.some.injEq] at h
    subst h
    simp [zFg]
  | b :: ts, k, j + 1, h => by
    rw [List.getElem?_cons_succ] at h
    have ih := zFg_i g f r ts (k + 1) j h
    rw [show k + (j + 1) = k + 1 + j by omega]
    cases b <;> simpa [zFg] using ih
theorem zFg_r (g : ZG) (f : Nat → Int32) (r : Nat → Option Nat) : ∀ (ts : List Bool) (k j : Nat), ts[j]? = some true → (zFg g f r k ts)[j]? = some (va_rf ((r (k + j)).map g.1))
  | [], _, j, h => by simp at h
  | b :: ts, k, 0, h => by
    simp only [List.getElem?_cons_zero, Option.some.injEq] at h
    subst h
    simp [zFg]
  | b :: ts, k, j + 1, h => by
    rw [List.getElem?_cons_succ] at h
    have ih := zFg_r g f r ts (k + 1) j h
    rw [show k + (j + 1) = k + 1 + j by omega]
    cases b <;> simpa [zFg] using ih
theorem zFg_congr (g : ZG) {f f' : Nat → Int32} {r r' : Nat → Option Nat} : ∀ (ts : List Bool) (k : Nat), (∀ j, k ≤ j → f j = f' j) → (∀ j, k ≤ j → r j = r' j) → zFg g f r k ts = zFg g f' r' k ts
  | [], _, _, _ => rfl
  | true :: ts, k, h1, h2 => by
    simp only [zFg]
    rw [h2 k (Nat.le_refl _), zFg_congr g ts (k + 1) (fun j hj => h1 j (by omega)) (fun j hj => h2 j (by omega))]
  | false :: ts, k, h1, h2 => by
    simp only [zFg]
    rw [h1 k (Nat.le_refl _), zFg_congr g ts (k + 1) (fun j hj => h1 j (by omega)) (fun j hj => h2 j (by omega))]
theorem zFg_setI (g : ZG) (f : Nat → Int32) (r : Nat → Option Nat) (v : Int32) : ∀ (ts : List Bool) (k j : Nat), ts[j]? = some false → (zFg g f r k ts).set j (.int v) = zFg g (va_up f (k + j) v) r k ts
  | [], _, j, h => by simp at h
  | b :: ts, k, 0, h => by
    simp only [List.getElem?_cons_zero, Option.some.injEq] at h
    subst h
    simp only [zFg, List.set_cons_zero, Nat.add_zero]
    rw [show va_up f k v k = v by simp [va_up]]
    rw [zFg_congr g ts (k + 1) (f := f) (f' := va_up f k v) (r := r) (r' := r) (fun j hj => by simp [va_up, show j ≠ k by omega]) (fun _ _ => rfl)]
  | b :: ts, k, j + 1, h => by
    rw [List.getElem?_cons_succ] at h
    have ih := zFg_setI g f r v ts (k + 1) j h
    rw [show k + (j + 1) = k + 1 + j by omega]
    cases b
    · simp only [zFg, List.set_cons_succ, ih]
      rw [show va_up f (k + 1 + j) v k = f k by simp [va_up, show k ≠ k + 1 + j by omega]]
    · simp only [zFg, List.set_cons_succ, ih]
theorem zFg_setR (g : ZG) (f : Nat → Int32) (r : Nat → Option Nat) (v : Option Nat) : ∀ (ts : List Bool) (k j : Nat), ts[j]? = some true → (zFg g f r k ts).set j (va_rf (v.map g.1)) = zFg g f (va_up r (k + j) v) k ts
  | [], _, j, h => by simp at h
  | b :: ts, k, 0, h => by
    simp only [List.getElem?_cons_zero, Option.some.injEq] at h
    subst h
    simp only [zFg, List.set_cons_zero, Nat.add_zero]
    rw [show va_up r k v k = v by simp [va_up]]
    rw [zFg_congr g ts (k + 1) (f := f) (f' := f) (r := r) (r' := va_up r k v) (fun _ _ => rfl) (fun j hj => by simp [va_up, show j ≠ k by omega])]
  | b :: ts, k, j + 1, h => by
    rw [List.getElem?_cons_succ] at h
    have ih := zFg_setR g f r v ts (k + 1) j h
    rw [show k + (j + 1) = k + 1 + j by omega]
    cases b
    · simp only [zFg, List.set_cons_succ, ih]
    · simp only [zFg, List.set_cons_succ, ih]
      rw [show va_up r (k + 1 + j) v k = r k by simp [va_up, show k ≠ k + 1 + j by omega]]
def zE (tc : Nat → ClassId) (g : ZG) (h : ZH) (a : Nat) : va_E := match (h.2.1 a).1 with
  | 0 => .inl (tc 0, (h.2.1 a).2, .inl (h.2.2.1 a))
  | 1 => .inl (tc 1, (h.2.1 a).2, .inr (.inl (h.2.2.2.1 a)))
  | 2 => .inl (tc 2, (h.2.1 a).2, .inl (h.2.2.1 a))
  | 3 => .inl (tc 3, (h.2.1 a).2, .inr (.inr (.inr (.inr (fun j => (h.2.2.2.2 a j).map g.1)))))
  | 4 => .inl (tc 4, (h.2.1 a).2, .inr (.inr (.inr (.inr (fun j => (h.2.2.2.2 a j).map g.1)))))
  | c + 5 => .inr (c, zFg g (h.2.2.1 a) (h.2.2.2.2 a) 0 (zT c))
def zW (tc : Nat → ClassId) (g : ZG) (h : ZH) : va_W := (List.range h.1).map (fun a => (g.1 a, zE tc g h a))
theorem zW_at {tc : Nat → ClassId} {g : ZG} {h : ZH} {a : Nat} (ha : a < h.1) : (zW tc g h)[a]? = some (g.1 a, zE tc g h a) := by
  simp [zW, List.getElem?_map, List.getElem?_range ha]
theorem zW_len {tc : Nat → ClassId} {g : ZG} {h : ZH} : (zW tc g h).length = h.1 := by simp [zW]
theorem zW_set {tc : Nat → ClassId} {g : ZG} {h h' : ZH} {a : Nat} {e : va_E} (ha : a < h.1) (hn : h'.1 = h.1) (ho : ∀ b, b ≠ a → zE tc g h' b = zE tc g h b) (he : zE tc g h' a = e) : (zW tc g h).set a (g.1 a, e) = zW tc g h' := by
  apply List.ext_getElem?
  intro k
  by_cases hk : k < h.1
  · rw [zW_at (h := h') (by rw [hn]; exact hk)]
    by_cases hka : k = a
    · subst hka
      rw [List.getElem?_set_self (by rw [zW_len]; exact ha), he]
    · rw [List.getElem?_set_ne (Ne.symm hka), zW_at hk, ho k hka]
  · rw [List.getElem?_eq_none (by rw [List.length_set, zW_len]; omega), List.getElem?_eq_none (by rw [zW_len, hn]; omega)]
theorem zW_push {tc : Nat → ClassId} {g : ZG} {h h' : ZH} (hn : h'.1 = h.1 + 1) (ho : ∀ b, b < h.1 → zE tc g h' b = zE tc g h b) : zW tc g h ++ [(g.1 h.1, zE tc g h' h.1)] = zW tc g h' := by
  unfold zW
  rw [hn, List.range_succ, List.map_append]
  congr 1
  apply List.map_congr_left
  intro b hb
  rw [ho b (List.mem_range.mp hb)]
def zty (tc : Nat → ClassId) : List (ClassId × FieldType) := [(tc 0, .int), (tc 1, .long), (tc 2, .char), (tc 3, .object RX2), (tc 4, .object RX1)]
def zHp (D : va_G) (tc : Nat → ClassId) (g : ZG) (h : ZH) (H : Heap) : Prop := va_P D vwCl (zW tc g h) H ∧ ∀ i : Nat, g.1 (h.1 + i) = H.size + i
def zlv (lg : Bool) (nL : Nat) (g : ZG) (ls : Nat → Option Value) (lsA : Array Slot) : Prop := lsA.size = nL ∧ lv_wf lsA ∧ (∀ (i : Nat) (v : Value), ls i = some v → lsA[i]? = some (.val (zc g v))) ∧ (lg = false → ∀ (i : Nat) (v : Value), ls i = some v → (zc g v).category = 1)
