/-! stores into locals; the heap; calls; ends -/
def zlst (g : ZG) (nL : Nat) (ls : Nat → Option Value) : List (Nat × Value) := (List.range nL).filterMap (fun i => (ls i).map (fun v => (i, zc g v)))
theorem zlst_mem {g : ZG} {nL i : Nat} {ls : Nat → Option Value} {v : Value} (hi : i < nL) (h : ls i = some v) : (i, zc g v) ∈ zlst g nL ls := by
  refine List.mem_filterMap.mpr ⟨i, List.mem_range.mpr hi, ?_⟩
  rw [h]; rfl
theorem zlst_has {lg : Bool} {g : ZG} {nL : Nat} {ls : Nat → Option Value} {lsA : Array Slot} (h : zlv lg nL g ls lsA) : lv_has lsA nL (zlst g nL ls) := by
  refine ⟨h.1, h.2.1, fun q hq => ?_⟩
  obtain ⟨i, -, hi⟩ := List.mem_filterMap.mp hq
  cases hv : ls i with
  | none => rw [hv] at hi; cases hi
  | some v =>
    rw [hv] at hi
    cases hi
    exact h.2.2.1 i v hv
theorem zlv_lt {lg : Bool} {g : ZG} {nL i : Nat} {ls : Nat → Option Value} {lsA : Array Slot} {v : Value} (h : zlv lg nL g ls lsA) (hi : ls i = some v) : i < nL := by
  rw [← h.1]; exact lv_lt (h.2.2.1 i v hi)
/-- a value of one slot put into place i: no long stands right before it -/
theorem zlv_put1 {lg : Bool} {g : ZG} {nL i : Nat} {ls : Nat → Option Value} {lsA lsB : Array Slot} {x : Value} {lv' : List (Nat × Value)} (h : zlv lg nL g ls lsA) (hx : x.category = 1) (hp : ∀ (j : Nat) (w : Value), j + 1 = i → ls j = some w → w.category = 1)
    (hl : (i, zc g x) :: (zlst g nL ls).filter (fun q => !(q.1 == i) && !(q.1 + 1 == i && q.2.category == 2)) = lv') (hB : lv_has lsB nL lv') : zlv lg nL g (va_up ls i (some x)) lsB := by
  subst hl
  refine ⟨hB.1, hB.2.1, fun j v hj => ?_, fun hlg j v hj => ?_⟩
  · by_cases hji : j = i
    · subst hji
      rw [va_up_self] at hj
      cases hj
      exact hB.2.2 (j, zc g x) List.mem_cons_self
    · rw [va_up_ne _ _ hji] at hj
      refine hB.2.2 (j, zc g v) (List.mem_cons_of_mem _ (List.mem_filter.mpr ⟨zlst_mem (zlv_lt h hj) hj, ?_⟩))
      have h1 : (j == i) = false := by simpa using hji
      simp only [h1, Bool.not_false, Bool.true_and, Bool.not_eq_true', Bool.and_eq_false_iff]
      by_cases h2 : j + 1 = i
      · right
        rw [z_cat, hp j v h2 hj]; rfl
      · left
        simpa using h2
  · by_cases hji : j = i
    · subst hji
      rw [va_up_self] at hj
      cases hj
      rw [z_cat]; exact hx
    · rw [va_up_ne _ _ hji] at hj
      exact h.2.2.2 hlg j v hj
theorem zlv_put2 {lg : Bool} {g : ZG} {nL i : Nat} {ls : Nat → Option Value} {lsA lsB : Array Slot} {x : Value} {lv' : List (Nat × Value)} (h : zlv lg nL g ls lsA) (hlg : lg = true) (hp : ∀ (j : Nat) (w : Value), j + 1 = i → ls j = some w → w.category = 1) (hn : ls (i + 1) = none)
    (hl : (i, zc g x) :: (zlst g nL ls).filter (fun q => !(q.1 == i) && (!(q.1 == i + 1) && !(q.1 + 1 == i && q.2.category == 2))) = lv') (hB : lv_has lsB nL lv') : zlv lg nL g (va_up ls i (some x)) lsB := by
  subst hl
  refine ⟨hB.1, hB.2.1, fun j v hj => ?_, fun hf => by rw [hlg] at hf; cases hf⟩
  by_cases hji : j = i
  · subst hji
    rw [va_up_self] at hj
    cases hj
    exact hB.2.2 (j, zc g x) List.mem_cons_self
  · rw [va_up_ne _ _ hji] at hj
    refine hB.2.2 (j, zc g v) (List.mem_cons_of_mem _ (List.mem_filter.mpr ⟨zlst_mem (zlv_lt h hj) hj, ?_⟩))
    have h1 : (j == i) = false := by simpa using hji
    have h3 : (j == i + 1) = false := by
      by_cases e : j = i + 1
      · rw [e, hn] at hj; cases hj
      · simpa using e
    simp only [h1, h3, Bool.not_false, Bool.true_and, Bool.not_eq_true', Bool.and_eq_false_iff]
    by_cases h2 : j + 1 = i
    · right
      rw [z_cat, hp j v h2 hj]; rfl
    · left
      simpa using h2
section ZS
variable {X : ZX} {mc ms pc : Nat} {ls : Nat → Option Value} {st : List Value} {h : ZH} {Q : Option Value → ZH → Prop}
theorem zAt.lv {p : Program} {Rm : Room} {s : State} {m : MethodId} {args : Array Value} {meth : Method} {c : Code} {H : Heap} {locs : List Loc} {cells slots : Nat} {D : va_G} {tc : Nat → ClassId} {g : ZG} {A : Nat → Prop} {MC MS : Nat} {lsA lsB : Array Slot} {ls2 : Nat → Option Value}
    (C : zAt X mc ms ls h p Rm s m args meth c H locs cells slots D tc g A MC MS lsA) (hB : zlv X.2.2.2.2.2.2.2 X.2.2.1 g ls2 lsB) : zAt X mc ms ls2 h p Rm s m args meth c H locs cells slots D tc g A MC MS lsB := ⟨C.1, C.2.1, C.2.2.1, C.2.2.2.1, hB⟩
theorem z_istoreL {i : Nat} {x : Int32} (hd : decode X.2.1 pc = .ok (.istore i, 2)) (hn : i < X.2.2.1) (hp : ∀ (j : Nat) (w : Value), j + 1 = i → ls j = some w → w.category = 1) (kk : Zf X mc ms (pc + 2) (va_up ls i (some (.int x))) st h Q) : Zf X mc ms pc ls (.int x :: st) h Q :=
  fun p l e Rm s m args below meth c H locs cells slots D tc g A MC MS lsA C => lv_istore C.1.1 C.1.2.1 hd (zlst_has C.2.2.2.2) hn rfl (fun lsB hB => kk p l e Rm s m args below meth c H locs cells slots D tc g A MC MS lsB (C.lv (zlv_put1 C.2.2.2.2 (x := .int x) rfl hp rfl hB)))
theorem z_istore_nL {k : Fin 4} {i : Nat} {x : Int32} (hd : decode X.2.1 pc = .ok (.istore_n k, 1)) (hi : (k : Nat) = i) (hn : i < X.2.2.1) (hp : ∀ (j : Nat) (w : Value), j + 1 = i → ls j = some w → w.category = 1) (kk : Zf X mc ms (pc + 1) (va_up ls i (some (.int x))) st h Q) : Zf X mc ms pc ls (.int x :: st) h Q :=
  fun p l e Rm s m args below meth c H locs cells slots D tc g A MC MS lsA C => lv_istore_n C.1.1 C.1.2.1 hd hi (zlst_has C.2.2.2.2) hn rfl (fun lsB hB => kk p l e Rm s m args below meth c H locs cells slots D tc g A MC MS lsB (C.lv (zlv_put1 C.2.2.2.2 (x := .int x) rfl hp rfl hB)))
theorem z_lstoreL {i : Nat} {x : Int64} (hd : decode X.2.1 pc = .ok (.lstore i, 2)) (hg : X.2.2.2.2.2.2.2 = true) (hn : i + 1 < X.2.2.1) (hp : ∀ (j : Nat) (w : Value), j + 1 = i → ls j = some w → w.category = 1) (hq : ls (i + 1) = none) (kk : Zf X mc ms (pc + 2) (va_up ls i (some (.long x))) st h Q) : Zf X mc ms pc ls (.long x :: st) h Q :=
  fun p l e Rm s m args below meth c H locs cells slots D tc g A MC MS lsA C => lv_lstore C.1.1 C.1.2.1 hd (zlst_has C.2.2.2.2) hn rfl (fun lsB hB => kk p l e Rm s m args below meth c H locs cells slots D tc g A MC MS lsB (C.lv (zlv_put2 C.2.2.2.2 (x := .long x) hg hp hq rfl hB)))
theorem z_astoreL {i : Nat} {x : Nat} (hd : decode X.2.1 pc = .ok (.astore i, 2)) (hn : i < X.2.2.1) (hp : ∀ (j : Nat) (w : Value), j + 1 = i → ls j = some w → w.category = 1) (kk : Zf X mc ms (pc + 2) (va_up ls i (some (.ref x))) st h Q) : Zf X mc ms pc ls (.ref x :: st) h Q :=
  fun p l e Rm s m args below meth c H locs cells slots D tc g A MC MS lsA C => lv_astore C.1.1 C.1.2.1 hd (zlst_has C.2.2.2.2) hn rfl (fun lsB hB => kk p l e Rm s m args below meth c H locs cells slots D tc g A MC MS lsB (C.lv (zlv_put1 C.2.2.2.2 (x := .ref x) rfl hp rfl hB)))
theorem z_astore_nL {k : Fin 4} {i : Nat} {x : Nat} (hd : decode X.2.1 pc = .ok (.astore_n k, 1)) (hi : (k : Nat) = i) (hn : i < X.2.2.1) (hp : ∀ (j : Nat) (w : Value), j + 1 = i → ls j = some w → w.category = 1) (kk : Zf X mc ms (pc + 1) (va_up ls i (some (.ref x))) st h Q) : Zf X mc ms pc ls (.ref x :: st) h Q :=
  fun p l e Rm s m args below meth c H locs cells slots D tc g A MC MS lsA C => lv_astore_n C.1.1 C.1.2.1 hd hi (zlst_has C.2.2.2.2) hn rfl (fun lsB hB => kk p l e Rm s m args below meth c H locs cells slots D tc g A MC MS lsB (C.lv (zlv_put1 C.2.2.2.2 (x := .ref x) rfl hp rfl hB)))
theorem z_iincL {i : Nat} {n : Int} {x : Int32} (hd : decode X.2.1 pc = .ok (.iinc i n, 3)) (hl : ls i = some (.int x)) (hp : ∀ (j : Nat) (w : Value), j + 1 = i → ls j = some w → w.category = 1) (kk : Zf X mc ms (pc + 3) (va_up ls i (some (.int (x + Int32.ofInt n)))) st h Q) : Zf X mc ms pc ls st h Q :=
  fun p l e Rm s m args below meth c H locs cells slots D tc g A MC MS lsA C => by
    obtain ⟨k, hk⟩ := List.getElem?_of_mem (zlst_mem (g := g) (zlv_lt C.2.2.2.2 hl) hl)
    exact lv_iinc C.1.1 C.1.2.1 hd (zlst_has C.2.2.2.2) hk rfl (zlv_lt C.2.2.2.2 hl) rfl (fun lsB hB => kk p l e Rm s m args below meth c H locs cells slots D tc g A MC MS lsB (C.lv (zlv_put1 C.2.2.2.2 (x := .int (x + Int32.ofInt n)) rfl hp rfl hB)))
/-- a method without longs: what may stand right before -/
theorem z_nl {R : Prop} (hg : X.2.2.2.2.2.2.2 = false) (kk : (∀ (j : Nat) (w : Value), ls j = some w → w.category = 1) → Zf X mc ms pc ls st h Q) : Zf X mc ms pc ls st h Q :=
  fun p l e Rm s m args below meth c H locs cells slots D tc g A MC MS lsA C => kk (fun j w hj => by rw [← z_cat g]; exact C.2.2.2.2.2.2.2 hg j w hj) p l e Rm s m args below meth c H locs cells slots D tc g A MC MS lsA C
theorem z_istore {i : Nat} {x : Int32} (hd : decode X.2.1 pc = .ok (.istore i, 2)) (hn : i < X.2.2.1) (hg : X.2.2.2.2.2.2.2 = false) (kk : Zf X mc ms (pc + 2) (va_up ls i (some (.int x))) st h Q) : Zf X mc ms pc ls (.int x :: st) h Q := z_nl (R := True) hg (fun w => z_istoreL hd hn (fun j v _ hj => w j v hj) kk)
theorem z_istore_n {k : Fin 4} {i : Nat} {x : Int32} (hd : decode X.2.1 pc = .ok (.istore_n k, 1)) (hi : (k : Nat) = i) (hn : i < X.2.2.1) (hg : X.2.2.2.2.2.2.2 = false) (kk : Zf X mc ms (pc + 1) (va_up ls i (some (.int x))) st h Q) : Zf X mc ms pc ls (.int x :: st) h Q := z_nl (R := True) hg (fun w => z_istore_nL hd hi hn (fun j v _ hj => w j v hj) kk)
theorem z_astore {i : Nat} {x : Nat} (hd : decode X.2.1 pc = .ok (.astore i, 2)) (hn : i < X.2.2.1) (hg : X.2.2.2.2.2.2.2 = false) (kk : Zf X mc ms (pc + 2) (va_up ls i (some (.ref x))) st h Q) : Zf X mc ms pc ls (.ref x :: st) h Q := z_nl (R := True) hg (fun w => z_astoreL hd hn (fun j v _ hj => w j v hj) kk)
theorem z_astore_n {k : Fin 4} {i : Nat} {x : Nat} (hd : decode X.2.1 pc = .ok (.astore_n k, 1)) (hi : (k : Nat) = i) (hn : i < X.2.2.1) (hg : X.2.2.2.2.2.2.2 = false) (kk : Zf X mc ms (pc + 1) (va_up ls i (some (.ref x))) st h Q) : Zf X mc ms pc ls (.ref x :: st) h Q := z_nl (R := True) hg (fun w => z_astore_nL hd hi hn (fun j v _ hj => w j v hj) kk)
theorem z_iinc {i : Nat} {n : Int} {x : Int32} (hd : decode X.2.1 pc = .ok (.iinc i n, 3)) (hl : ls i = some (.int x)) (hg : X.2.2.2.2.2.2.2 = false) (kk : Zf X mc ms (pc + 3) (va_up ls i (some (.int (x + Int32.ofInt n)))) st h Q) : Zf X mc ms pc ls st h Q := z_nl (R := True) hg (fun w => z_iincL hd hl (fun j v _ hj => w j v hj) kk)
end ZS
