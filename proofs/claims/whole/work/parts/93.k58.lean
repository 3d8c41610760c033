/-! the law's frame, and the two that stand at its side (look, and the keeper's look where it throws): rows over any condition of the heap and any end -/
def zid : ZG := (fun a => a, fun a => a)
abbrev LEv : Type := Program × Launch × Env × Room × State × MethodId × Array Value × List Frame × Method × Code × (State → Prop)
abbrev LEv.p (E : LEv) : Program := E.1
abbrev LEv.l (E : LEv) : Launch := E.2.1
abbrev LEv.e (E : LEv) : Env := E.2.2.1
abbrev LEv.Rm (E : LEv) : Room := E.2.2.2.1
abbrev LEv.s (E : LEv) : State := E.2.2.2.2.1
abbrev LEv.m (E : LEv) : MethodId := E.2.2.2.2.2.1
abbrev LEv.args (E : LEv) : Array Value := E.2.2.2.2.2.2.1
abbrev LEv.below (E : LEv) : List Frame := E.2.2.2.2.2.2.2.1
abbrev LEv.meth (E : LEv) : Method := E.2.2.2.2.2.2.2.2.1
abbrev LEv.c (E : LEv) : Code := E.2.2.2.2.2.2.2.2.2.1
abbrev LEv.T (E : LEv) : (State → Prop) := E.2.2.2.2.2.2.2.2.2.2
abbrev LXt : Type := String × ByteArray × Nat
def Lc (X : LXt) (E : LEv) : Prop := E.p.tables.exec = Jvm.exec ∧ E.c.code = X.2.1 ∧ E.c.maxLocals = X.2.2 ∧ E.s.vm.findClass X.1 = some E.m.cls ∧ ∀ w ∈ zTB, w.before E.args E.s = true
abbrev LI : Type := Heap → List Loc → Nat → Nat → Prop
def LW (E : LEv) (H : Heap) (locs : List Loc) (cells slots : Nat) (g : JFrame) : Prop := W E.p E.l E.e E.Rm E.s E.m E.args E.below E.meth E.c H locs cells slots E.T g
def Lf (X : LXt) (E : LEv) (Iv : LI) (pc : Nat) (ls : Nat → Option Value) (st : List Value) : Prop := ∀ (H : Heap) (locs : List Loc) (cells slots : Nat) (lsA : Array Slot), Lc X E → Iv H locs cells slots → zlv false X.2.2 zid ls lsA → LW E H locs cells slots (F0 E.m pc lsA st)
section LR
variable {X : LXt} {E : LEv} {Iv : LI} {pc : Nat} {ls : Nat → Option Value} {st : List Value}
theorem l_iconst {n : Int} {v : Int32} (hd : decode X.2.1 pc = .ok (.iconst n, 1) ) (hv : Int32.ofInt n = v) (kk : Lf X E Iv (pc + 1) ls (.int v :: st)) : Lf X E Iv pc ls (st) := fun H locs cells slots lsA C hI hL => lv_iconst C.1 C.2.1 hd hv (kk H locs cells slots lsA C hI hL)
theorem l_bipush {n : Int} {v : Int32} (hd : decode X.2.1 pc = .ok (.bipush n, 2) ) (hv : (Int8.ofInt n).toInt32 = v) (kk : Lf X E Iv (pc + 2) ls (.int v :: st)) : Lf X E Iv pc ls (st) := fun H locs cells slots lsA C hI hL => lv_bipush C.1 C.2.1 hd hv (kk H locs cells slots lsA C hI hL)
theorem l_iload_n {k : Fin 4} {i : Nat} {x : Int32} (hd : decode X.2.1 pc = .ok (.iload_n k, 1) ) (hi : (k : Nat) = i) (hl : ls i = some (.int x)) (kk : Lf X E Iv (pc + 1) ls (.int x :: st)) : Lf X E Iv pc ls (st) := fun H locs cells slots lsA C hI hL => lv_iload_n C.1 C.2.1 hd hi (hL.2.2.1 _ _ hl) (kk H locs cells slots lsA C hI hL)
theorem l_iload {i : Nat} {x : Int32} (hd : decode X.2.1 pc = .ok (.iload i, 2) ) (hl : ls i = some (.int x)) (kk : Lf X E Iv (pc + 2) ls (.int x :: st)) : Lf X E Iv pc ls (st) := fun H locs cells slots lsA C hI hL => lv_iload C.1 C.2.1 hd (hL.2.2.1 _ _ hl) (kk H locs cells slots lsA C hI hL)
theorem l_iadd {x y : Int32} (hd : decode X.2.1 pc = .ok (.iadd, 1) ) (kk : Lf X E Iv (pc + 1) ls (.int (x + y) :: st)) : Lf X E Iv pc ls (.int y :: .int x :: st) := fun H locs cells slots lsA C hI hL => lv_iadd C.1 C.2.1 hd  (kk H locs cells slots lsA C hI hL)
theorem l_isub {x y : Int32} (hd : decode X.2.1 pc = .ok (.isub, 1) ) (kk : Lf X E Iv (pc + 1) ls (.int (x - y) :: st)) : Lf X E Iv pc ls (.int y :: .int x :: st) := fun H locs cells slots lsA C hI hL => lv_isub C.1 C.2.1 hd  (kk H locs cells slots lsA C hI hL)
theorem l_iand {x y : Int32} (hd : decode X.2.1 pc = .ok (.iand, 1) ) (kk : Lf X E Iv (pc + 1) ls (.int (x &&& y) :: st)) : Lf X E Iv pc ls (.int y :: .int x :: st) := fun H locs cells slots lsA C hI hL => lv_iand C.1 C.2.1 hd  (kk H locs cells slots lsA C hI hL)
theorem l_land {x y : Int64} (hd : decode X.2.1 pc = .ok (.land, 1) ) (kk : Lf X E Iv (pc + 1) ls (.long (x &&& y) :: st)) : Lf X E Iv pc ls (.long y :: .long x :: st) := fun H locs cells slots lsA C hI hL => lv_land C.1 C.2.1 hd  (kk H locs cells slots lsA C hI hL)
theorem l_lor {x y : Int64} (hd : decode X.2.1 pc = .ok (.lor, 1) ) (kk : Lf X E Iv (pc + 1) ls (.long (x ||| y) :: st)) : Lf X E Iv pc ls (.long y :: .long x :: st) := fun H locs cells slots lsA C hI hL => lv_lor C.1 C.2.1 hd  (kk H locs cells slots lsA C hI hL)
theorem l_i2l {x : Int32} {v : Int64} (hd : decode X.2.1 pc = .ok (.i2l, 1) ) (hv : x.toInt64 = v) (kk : Lf X E Iv (pc + 1) ls (.long v :: st)) : Lf X E Iv pc ls (.int x :: st) := fun H locs cells slots lsA C hI hL => lv_i2l C.1 C.2.1 hd hv (kk H locs cells slots lsA C hI hL)
theorem l_lshl {x v : Int64} {y : Int32} (hd : decode X.2.1 pc = .ok (.lshl, 1) ) (hv : x <<< (y.toInt64 &&& 63) = v) (kk : Lf X E Iv (pc + 1) ls (.long v :: st)) : Lf X E Iv pc ls (.int y :: .long x :: st) := fun H locs cells slots lsA C hI hL => lv_lshl C.1 C.2.1 hd hv (kk H locs cells slots lsA C hI hL)
theorem l_aload_n {k : Fin 4} {i x : Nat} (hd : decode X.2.1 pc = .ok (.aload_n k, 1)) (hi : (k : Nat) = i) (hl : ls i = some (.ref x)) (kk : Lf X E Iv (pc + 1) ls (.ref x :: st)) : Lf X E Iv pc ls st := fun H locs cells slots lsA C hI hL => lv_aload_n C.1 C.2.1 hd hi (hL.2.2.1 _ _ hl) (kk H locs cells slots lsA C hI hL)
theorem l_aload {i x : Nat} (hd : decode X.2.1 pc = .ok (.aload i, 2)) (hl : ls i = some (.ref x)) (kk : Lf X E Iv (pc + 2) ls (.ref x :: st)) : Lf X E Iv pc ls st := fun H locs cells slots lsA C hI hL => lv_aload C.1 C.2.1 hd (hL.2.2.1 _ _ hl) (kk H locs cells slots lsA C hI hL)
theorem l_dup {v : Value} (hd : decode X.2.1 pc = .ok (.dup, 1)) (hv : v.category = 1) (kk : Lf X E Iv (pc + 1) ls (v :: v :: st)) : Lf X E Iv pc ls (v :: st) := fun H locs cells slots lsA C hI hL => lv_dup C.1 C.2.1 hd hv (kk H locs cells slots lsA C hI hL)
theorem l_lcmp {x y : Int64} (hd : decode X.2.1 pc = .ok (.lcmp, 1)) (kk : Lf X E Iv (pc + 1) ls (.int (lg_cmp x y) :: st)) : Lf X E Iv pc ls (.long y :: .long x :: st) := fun H locs cells slots lsA C hI hL => W.lcmp C.1 C.2.1 hd (kk H locs cells slots lsA C hI hL)
theorem l_if_eq {x : Int32} {off : Int} (tgt : Nat) (hd : decode X.2.1 pc = .ok (.ifCond .eq off, 3)) (ht : (pc : Int) + off = (tgt : Int)) (kt : x = 0 → Lf X E Iv tgt ls st) (kf : ¬ x = 0 → Lf X E Iv (pc + 3) ls st) : Lf X E Iv pc ls (.int x :: st) := fun H locs cells slots lsA C hI hL => lv_if_eq C.1 C.2.1 hd ht (fun z => kt z H locs cells slots lsA C hI hL) (fun z => kf z H locs cells slots lsA C hI hL)
theorem l_if_ne {x : Int32} {off : Int} (tgt : Nat) (hd : decode X.2.1 pc = .ok (.ifCond .ne off, 3)) (ht : (pc : Int) + off = (tgt : Int)) (kt : ¬ x = 0 → Lf X E Iv tgt ls st) (kf : x = 0 → Lf X E Iv (pc + 3) ls st) : Lf X E Iv pc ls (.int x :: st) := fun H locs cells slots lsA C hI hL => lv_if_ne C.1 C.2.1 hd ht (fun z => kt z H locs cells slots lsA C hI hL) (fun z => kf z H locs cells slots lsA C hI hL)
theorem l_icmp_eq {x y : Int32} {off : Int} (tgt : Nat) (hd : decode X.2.1 pc = .ok (.if_icmp .eq off, 3)) (ht : (pc : Int) + off = (tgt : Int)) (kt : x = y → Lf X E Iv tgt ls st) (kf : ¬ x = y → Lf X E Iv (pc + 3) ls st) : Lf X E Iv pc ls (.int y :: .int x :: st) := fun H locs cells slots lsA C hI hL => lv_icmp_eq C.1 C.2.1 hd ht (fun z => kt z H locs cells slots lsA C hI hL) (fun z => kf z H locs cells slots lsA C hI hL)
theorem l_icmp_ge {x y : Int32} {off : Int} (tgt : Nat) (hd : decode X.2.1 pc = .ok (.if_icmp .ge off, 3)) (ht : (pc : Int) + off = (tgt : Int)) (kt : y ≤ x → Lf X E Iv tgt ls st) (kf : ¬ y ≤ x → Lf X E Iv (pc + 3) ls st) : Lf X E Iv pc ls (.int y :: .int x :: st) := fun H locs cells slots lsA C hI hL => lv_icmp_ge C.1 C.2.1 hd ht (fun z => kt z H locs cells slots lsA C hI hL) (fun z => kf z H locs cells slots lsA C hI hL)
theorem l_icmp_le {x y : Int32} {off : Int} (tgt : Nat) (hd : decode X.2.1 pc = .ok (.if_icmp .le off, 3)) (ht : (pc : Int) + off = (tgt : Int)) (kt : x ≤ y → Lf X E Iv tgt ls st) (kf : ¬ x ≤ y → Lf X E Iv (pc + 3) ls st) : Lf X E Iv pc ls (.int y :: .int x :: st) := fun H locs cells slots lsA C hI hL => lv_icmp_le C.1 C.2.1 hd ht (fun z => kt z H locs cells slots lsA C hI hL) (fun z => kf z H locs cells slots lsA C hI hL)
theorem l_icmp_gt {x y : Int32} {off : Int} (tgt : Nat) (hd : decode X.2.1 pc = .ok (.if_icmp .gt off, 3)) (ht : (pc : Int) + off = (tgt : Int)) (kt : y < x → Lf X E Iv tgt ls st) (kf : ¬ y < x → Lf X E Iv (pc + 3) ls st) : Lf X E Iv pc ls (.int y :: .int x :: st) := fun H locs cells slots lsA C hI hL => lv_icmp_gt C.1 C.2.1 hd ht (fun z => kt z H locs cells slots lsA C hI hL) (fun z => kf z H locs cells slots lsA C hI hL)
theorem l_if_lt {x : Int32} {off : Int} (tgt : Nat) (hd : decode X.2.1 pc = .ok (.ifCond .lt off, 3)) (ht : (pc : Int) + off = (tgt : Int)) (kt : x < 0 → Lf X E Iv tgt ls st) (kf : ¬ x < 0 → Lf X E Iv (pc + 3) ls st) : Lf X E Iv pc ls (.int x :: st) := fun H locs cells slots lsA C hI hL => lv_if_lt C.1 C.2.1 hd ht (fun z => kt z H locs cells slots lsA C hI hL) (fun z => kf z H locs cells slots lsA C hI hL)
theorem l_goto {off : Int} (tgt : Nat) (hd : decode X.2.1 pc = .ok (.goto off, 3)) (ht : (pc : Int) + off = (tgt : Int)) (kk : Lf X E Iv tgt ls st) : Lf X E Iv pc ls st := fun H locs cells slots lsA C hI hL => lv_goto C.1 C.2.1 hd ht (kk H locs cells slots lsA C hI hL)
theorem l_tableIn {dflt lo hi : Int} {offs : Array Int} {len : Nat} {x : Int32} {off : Int} (tgt : Nat) (hd : decode X.2.1 pc = .ok (.tableswitch dflt lo hi offs, len)) (h1 : ¬ x.toInt < lo) (h2 : ¬ hi < x.toInt) (ho : offs[(x.toInt - lo).toNat]? = some off) (ht : (pc : Int) + off = (tgt : Int)) (kk : Lf X E Iv tgt ls st) : Lf X E Iv pc ls (.int x :: st) := fun H locs cells slots lsA C hI hL => lv_tableIn C.1 C.2.1 hd h1 h2 ho ht (kk H locs cells slots lsA C hI hL)
theorem l_tableOut {dflt lo hi : Int} {offs : Array Int} {len : Nat} {x : Int32} (tgt : Nat) (hd : decode X.2.1 pc = .ok (.tableswitch dflt lo hi offs, len)) (h1 : x.toInt < lo ∨ hi < x.toInt) (ht : (pc : Int) + dflt = (tgt : Int)) (kk : Lf X E Iv tgt ls st) : Lf X E Iv pc ls (.int x :: st) := fun H locs cells slots lsA C hI hL => lv_tableOut C.1 C.2.1 hd h1 ht (kk H locs cells slots lsA C hI hL)
theorem l_ldc2 {index : Nat} {v : Int64} (hd : decode X.2.1 pc = .ok (.ldc2_w index, 3)) (hw : Cond.constantLong X.1 index v ∈ zTB) (kk : Lf X E Iv (pc + 3) ls (.long v :: st)) : Lf X E Iv pc ls st := fun H locs cells slots lsA C hI hL => lv_ldc2 C.1 C.2.1 C.2.2.2.1 (C.2.2.2.2 _ hw) hd (kk H locs cells slots lsA C hI hL)
theorem l_pre (kk : Lc X E → Lf X E Iv pc ls st) : Lf X E Iv pc ls st := fun H locs cells slots lsA C hI hL => kk C H locs cells slots lsA C hI hL
theorem l_inv {Iv2 : LI} (h : ∀ H locs cells slots, Iv H locs cells slots → Iv2 H locs cells slots) (kk : Lf X E Iv2 pc ls st) : Lf X E Iv pc ls st := fun H locs cells slots lsA C hI hL => kk H locs cells slots lsA C (h _ _ _ _ hI) hL
theorem l_cat {lsA : Array Slot} (hL : zlv false X.2.2 zid ls lsA) (j : Nat) (w : Value) (hj : ls j = some w) : w.category = 1 := by
  have := hL.2.2.2 rfl j w hj
  rwa [z_cat] at this
theorem l_istore {i : Nat} {x : Int32} (hd : decode X.2.1 pc = .ok (.istore i, 2)) (hn : i < X.2.2) (kk : Lf X E Iv (pc + 2) (va_up ls i (some (.int x))) st) : Lf X E Iv pc ls (.int x :: st) :=
  fun H locs cells slots lsA C hI hL => lv_istore C.1 C.2.1 hd (zlst_has hL) hn rfl (fun lsB hB => kk H locs cells slots lsB C hI (zlv_put1 hL (x := .int x) rfl (fun j w _ hj => l_cat hL j w hj) rfl hB))
theorem l_astore {i : Nat} {x : Nat} (hd : decode X.2.1 pc = .ok (.astore i, 2)) (hn : i < X.2.2) (kk : Lf X E Iv (pc + 2) (va_up ls i (some (.ref x))) st) : Lf X E Iv pc ls (.ref x :: st) :=
  fun H locs cells slots lsA C hI hL => lv_astore C.1 C.2.1 hd (zlst_has hL) hn rfl (fun lsB hB => kk H locs cells slots lsB C hI (zlv_put1 hL (x := .ref x) rfl (fun j w _ hj => l_cat hL j w hj) rfl hB))
theorem l_astore_n {k : Fin 4} {i : Nat} {x : Nat} (hd : decode X.2.1 pc = .ok (.astore_n k, 1)) (hi : (k : Nat) = i) (hn : i < X.2.2) (kk : Lf X E Iv (pc + 1) (va_up ls i (some (.ref x))) st) : Lf X E Iv pc ls (.ref x :: st) :=
  fun H locs cells slots lsA C hI hL => lv_astore_n C.1 C.2.1 hd hi (zlst_has hL) hn rfl (fun lsB hB => kk H locs cells slots lsB C hI (zlv_put1 hL (x := .ref x) rfl (fun j w _ hj => l_cat hL j w hj) rfl hB))
theorem l_iinc {i : Nat} {n : Int} {x : Int32} (hd : decode X.2.1 pc = .ok (.iinc i n, 3)) (hl : ls i = some (.int x)) (kk : Lf X E Iv (pc + 3) (va_up ls i (some (.int (x + Int32.ofInt n)))) st) : Lf X E Iv pc ls st :=
  fun H locs cells slots lsA C hI hL => by
    obtain ⟨k, hk⟩ := List.getElem?_of_mem (zlst_mem (g := zid) (zlv_lt hL hl) hl)
    exact lv_iinc C.1 C.2.1 hd (zlst_has hL) hk rfl (zlv_lt hL hl) rfl (fun lsB hB => kk H locs cells slots lsB C hI (zlv_put1 hL (x := .int (x + Int32.ofInt n)) rfl (fun j w _ hj => l_cat hL j w hj) rfl hB))
end LR
/-! zones by other names -/
def lClo (h : ZH) : Prop := ∀ a, a < h.1 → ∀ k b, h.2.2.2.2 a k = some b → b < h.1
theorem zFg_ren {g g' : ZG} {f : Nat → Int32} {r : Nat → Option Nat} (hg : ∀ j b, r j = some b → g'.1 b = g.1 b) : ∀ (ts : List Bool) (k : Nat), zFg g' f r k ts = zFg g f r k ts
  | [], _ => rfl
  | false :: ts, k => by simp only [zFg, zFg_ren hg ts (k + 1)]
  | true :: ts, k => by
    simp only [zFg, zFg_ren hg ts (k + 1)]
    cases hr : r k with
    | none => rfl
    | some b => simp [hg k b hr]
theorem zE_ren {tc : Nat → ClassId} {g g' : ZG} {h : ZH} {a : Nat} (ha : a < h.1) (hc : lClo h) (hg : ∀ i, i < h.1 → g'.1 i = g.1 i) : zE tc g' h a = zE tc g h a := by
  have hr : ∀ j b, h.2.2.2.2 a j = some b → g'.1 b = g.1 b := fun j b hb => hg b (hc a ha j b hb)
  have hf : (fun j => (h.2.2.2.2 a j).map g'.1) = fun j => (h.2.2.2.2 a j).map g.1 := by
    funext j
    cases hb : h.2.2.2.2 a j with
    | none => rfl
    | some b => simp [hr j b hb]
  unfold zE
  split <;> first | rfl | (rw [hf]) | (rw [zFg_ren hr])
theorem zW_ren {tc : Nat → ClassId} {g g' : ZG} {h : ZH} (hc : lClo h) (hg : ∀ i, i < h.1 → g'.1 i = g.1 i) : zW tc g' h = zW tc g h := by
  unfold zW
  apply List.map_congr_left
  intro b hb
  have hb' := List.mem_range.mp hb
  rw [hg b hb', zE_ren hb' hc hg]
def lDj (w1 w2 : va_W) : Prop := ∀ (i j : Nat) (p q : Nat × va_E), w1[i]? = some p → w2[j]? = some q → p.1 ≠ q.1
def lgz (f g2 : Nat → Nat) (n sz : Nat) : ZG := (fun i => if i < n then f i else sz + (i - n), g2)
theorem lgz_lt {f g2 : Nat → Nat} {n sz i : Nat} (hi : i < n) : (lgz f g2 n sz).1 i = f i := by simp [lgz, hi]
/-- the zone h (by the names f), and what else lies there -/
def lwZ (A : Nat → Prop) (MC MS : Nat) (s : State) (D : va_G) (tc : Nat → ClassId) (g2 : Nat → Nat) (f : Nat → Nat) (h : ZH) (ws : va_W) (mc ms : Nat) : LI := fun H locs cells slots =>
  (cells + mc ≤ MC ∧ slots + ms ≤ MS) ∧ va_S A s.heap H locs ∧ (va_P D vwCl (zW tc (f, g2) h) H ∧ va_P D vwCl ws H) ∧ (va_D A (zW tc (f, g2) h) ∧ va_D A ws) ∧ lDj (zW tc (f, g2) h) ws
/-- what holds all along -/
def lwF (A : Nat → Prop) (MC MS : Nat) (E : LEv) (D : va_G) (tc : Nat → ClassId) (g2 : Nat → Nat) : Prop := (MC ≤ E.Rm.cells ∧ MS ≤ E.Rm.slots) ∧ va_K D vwCl (zty tc) E.s ∧ zG (fun a => a, g2) A E.s E.s.heap ∧ ∀ q, E.s.heap.size ≤ q → A q
section LZ
variable {X : LXt} {E : LEv} {pc : Nat} {ls : Nat → Option Value} {st : List Value} {A : Nat → Prop} {MC MS : Nat} {D : va_G} {tc : Nat → ClassId} {g2 f : Nat → Nat} {h : ZH} {ws : va_W} {mc ms mc' ms' mc2 ms2 : Nat}
theorem lwZ.pre {H : Heap} {locs : List Loc} {cells slots : Nat} (F : lwF A MC MS E D tc g2) (hI : lwZ A MC MS E.s D tc g2 f h ws mc ms H locs cells slots) (hc : lClo h) (U : State) (hU : U.heap = H) (hW : E.s.WarmedH U.vm) :
    U.heap.size = H.size ∧ zHp D tc (lgz f g2 h.1 H.size) h U.heap ∧ va_K D vwCl (zty tc) U ∧ va_D (fun _ => True) (zW tc (lgz f g2 h.1 H.size) h) ∧ zG (lgz f g2 h.1 H.size) (va_A (zW tc (lgz f g2 h.1 H.size) h) H.size) U U.heap := by
  have he : zW tc (lgz f g2 h.1 H.size) h = zW tc (f, g2) h := zW_ren hc (fun i hi => lgz_lt hi)
  rw [he]
  refine ⟨by rw [hU], ⟨by rw [hU, he]; exact hI.2.2.1.1, fun i => ?_⟩, va_K.moved hW.alike F.2.1, hI.2.2.2.1.1.weaken (fun _ _ _ _ => trivial), ?_⟩
  · rw [hU]
    show (if h.1 + i < h.1 then _ else _) = _
    rw [if_neg (Nat.not_lt.mpr (Nat.le_add_right _ _)), Nat.add_sub_cancel_left]
  · rw [hU]
    have h1 := zG.warm hW ((F.2.2.1.kept hI.2.1.2.1).narrow (B := va_A (zW tc (f, g2) h) H.size) (fun q hq => by
      rcases hq with ⟨k, e, hk⟩ | hq
      · exact hI.2.2.2.1.1.2 k (q, e) hk
      · exact F.2.2.2 q (Nat.le_trans hI.2.1.1 hq)))
    exact h1
theorem lwZ.after {H H2 : Heap} {locs L : List Loc} {cells slots : Nat} {h2 : ZH} {st0 t : State} (F : lwF A MC MS E D tc g2) (hI : lwZ A MC MS E.s D tc g2 f h ws mc ms H locs cells slots) (hc : lClo h) (h0 : st0.heap = H) (e1 : H2 = t.heap)
    (hHp : zHp D tc (lgz f g2 h.1 H.size) h2 t.heap) (hD1 : va_D (va_A (zW tc (lgz f g2 h.1 H.size) h) H.size) (zW tc (lgz f g2 h.1 H.size) h2)) (hF : va_F (va_A (zW tc (lgz f g2 h.1 H.size) h) H.size) st0 t) (hL : ∀ q ∈ L, va_A (zW tc (lgz f g2 h.1 H.size) h) H.size q.base) (hm : mc2 + mc' ≤ mc) (hs : ms2 + ms' ≤ ms) :
    lwZ A MC MS E.s D tc g2 (lgz f g2 h.1 H.size).1 h2 ws mc2 ms2 H2 (locs ++ L) (cells + mc') (slots + ms') := by
  have he : zW tc (lgz f g2 h.1 H.size) h = zW tc (f, g2) h := zW_ren hc (fun i hi => lgz_lt hi)
  rw [he] at hD1 hF hL
  obtain ⟨hz, hkp⟩ := hF
  rw [h0] at hz hkp
  have hsub : ∀ q, va_A (zW tc (f, g2) h) H.size q → A q := fun q hq => by
    rcases hq with ⟨k, e, hk⟩ | hq
    · exact hI.2.2.2.1.1.2 k (q, e) hk
    · exact F.2.2.2 q (Nat.le_trans hI.2.1.1 hq)
  have hno : ∀ (j : Nat) (q : Nat × va_E), ws[j]? = some q → ¬ va_A (zW tc (f, g2) h) H.size q.1 := fun j q hj hq => by
    rcases hq with ⟨k, e, hk⟩ | hq
    · exact hI.2.2.2.2 k j (q.1, e) q hk hj rfl
    · exact absurd (hI.2.2.1.2 j q hj).lt (Nat.not_lt.mpr hq)
  have hb := hI.1
  have hS := hI.2.1
  refine ⟨⟨by omega, by omega⟩, ⟨Nat.le_trans hS.1 (by rw [e1]; exact hz), fun q h1 h3 => ?_, fun q hq => ?_⟩, ⟨by rw [e1]; exact hHp.1, hI.2.2.1.2.kept (fun k q hk => by rw [e1]; exact hkp q.1 (hI.2.2.1.2 k q hk).lt (hno k q hk))⟩, ⟨hD1.weaken (fun k q _ hA => hsub q.1 hA), hI.2.2.2.1.2⟩, fun i j a b ha hb2 hab => ?_⟩
  · rw [e1, hkp q (Nat.lt_of_lt_of_le h1 hS.1) (fun w => h3 (hsub q w))]
    exact hS.2.1 q h1 h3
  · rcases List.mem_append.mp hq with w | w
    · exact hS.2.2 q w
    · exact hsub _ (hL q w)
  · have h5 := hD1.2 i a ha
    rw [hab] at h5
    exact hno j b hb2 h5
/-- a call into the zone -/
theorem l_callV {index na fr lo a ci : Nat} {y : MethodName} {cc : ByteArray} {nL : Nat} {ret : Option FieldType} {as : List Value} {Qy : Option Value → ZH → Prop} {s0 : List Value} {T : u_T} {N : Nat} (F : lwF A MC MS E D tc g2) (hc0 : lClo h) (hi : zInv X.1 index y cc nL ret na) (hy : zIns y) (hm : Zm y cc nL ret fr lo mc' ms' (.ref a :: as) h Qy) (hd : decode X.2.1 pc = .ok (.invokevirtual index, 3)) (ha : a < h.1) (hk : (h.2.1 a).1 = ci + 5) (hc : vwCl[ci]? = some (y.cls, T, N)) (has : ∀ g : ZG, as.map (zc g) = as) (hs0 : s0 = as.reverse ++ .ref (f a) :: st) (hna : as.length = na) (hfr : fr + 1 ≤ E.Rm.frames) (hlo : 8 + (nL + 11) + lo ≤ E.Rm.locals) (hst : (st.map Value.category).sum ≤ 8) (hmc : mc2 + mc' ≤ mc) (hms : ms2 + ms' ≤ ms)
    (kk : ∀ (r : Option Value) (h2 : ZH) (f2 : Nat → Nat), Qy r h2 → (∀ i, i < h.1 → f2 i = f i) → Lf X E (lwZ A MC MS E.s D tc g2 f2 h2 ws mc2 ms2) (pc + 3) ls ((r.map (zc (f2, g2))).toList ++ st)) : Lf X E (lwZ A MC MS E.s D tc g2 f h ws mc ms) pc ls s0 := by
  intro H locs cells slots lsA C hI hL
  subst hs0
  have hts := C.2.2.2.2
  have g1 := hI.1.1
  have g3 := hI.1.2
  have g4 := F.1
  obtain ⟨h1, h2, h3, h4⟩ := hi
  have he0 : (zW tc (f, g2) h)[a]? = some (f a, .inr (ci, zFg (f, g2) (h.2.2.1 a) (h.2.2.2.2 a) 0 (zT ci))) := by
    rw [zW_at ha]
    obtain ⟨n, K, I, L, R⟩ := h
    rw [zE_o (c := ci) (z := (K a).2) (Prod.ext hk rfl)]
  have hfa : (lgz f g2 h.1 H.size).1 a = f a := lgz_lt ha
  have hr := va_runV (p := E.p) (l := E.l) (e := E.e) (R := E.Rm) (s := E.s) (m := E.m) (args := E.args) (below := E.below) (meth := E.meth) (c := E.c) (H := H) (locs := locs) (cells := cells) (slots := slots) (g := F0 E.m pc lsA (as.reverse ++ .ref (f a) :: st)) (C := y.cls) (b := f a) (As := as) (rest := st) (Pc := _) (Qc := _) (free := _) (mc := mc') (ms := ms') ⟨C.1, C.2.1, C.2.2.1, C.2.2.2.1, hts⟩ (hm E.l D tc (lgz f g2 h.1 H.size) H.size) ⟨callB_of na hts (zGood h2) rfl rfl rfl (hts _ h3) (hts _ h1) h4 ⟨by show fr + 1 ≤ _; omega, by show 8 + (nL + 11) + lo ≤ _; omega⟩, hts _ hy.1, hts _ hy.2⟩ ⟨zBlind, va_recv F.2.1 hI.2.2.1.1 hc he0, fun U hU hW => ⟨by rw [List.map_cons, has]; show _ = (Value.ref ((lgz f g2 h.1 H.size).1 a) :: as).toArray; rw [hfa], lwZ.pre F hI hc0 U hU hW⟩⟩ rfl hna hL.1 rfl (lv_room hst) hd ⟨by omega, by omega⟩
  intro Ts hT Xs
  obtain ⟨v, st₀, t, T', L, h0, X', hLL, e1, e2, ⟨⟨r, h2', hv, hq, hHp, hK1, hD1⟩, hF⟩, stp⟩ := hr Ts hT Xs
  have hv' : v = r.map (zc (lgz f g2 h.1 H.size)) := by injection hv
  subst hv'
  obtain ⟨t2, a1, b1⟩ := kk r h2' (lgz f g2 h.1 H.size).1 hq (fun i hi => lgz_lt hi) T'.heap (locs ++ L) (cells + mc') (slots + ms') lsA C (lwZ.after F hI hc0 h0 e1 hHp hD1 hF hLL hmc hms) hL T' rfl X'
  exact ⟨t2, stp t2 a1, b1⟩
/-- a constructor's call into the zone -/
theorem l_callI {index na fr lo a : Nat} {y : MethodName} {cc : ByteArray} {nL : Nat} {as : List Value} {Qy : Option Value → ZH → Prop} {s0 : List Value} (F : lwF A MC MS E D tc g2) (hc0 : lClo h) (hi : zInv X.1 index y cc nL none na) (hy : Cond.instanceMethod y ∈ zTB) (hyn : y.name = "<init>") (hm : Zm y cc nL none fr lo mc' ms' (.ref a :: as) h Qy) (hd : decode X.2.1 pc = .ok (.invokespecial index, 3)) (ha : a < h.1) (has : ∀ g : ZG, as.map (zc g) = as) (hs0 : s0 = as.reverse ++ .ref (f a) :: st) (hna : as.length = na) (hfr : fr + 1 ≤ E.Rm.frames) (hlo : 8 + (nL + 11) + lo ≤ E.Rm.locals) (hst : (st.map Value.category).sum ≤ 8) (hmc : mc2 + mc' ≤ mc) (hms : ms2 + ms' ≤ ms)
    (kk : ∀ (r : Option Value) (h2 : ZH) (f2 : Nat → Nat), Qy r h2 → (∀ i, i < h.1 → f2 i = f i) → Lf X E (lwZ A MC MS E.s D tc g2 f2 h2 ws mc2 ms2) (pc + 3) ls ((r.map (zc (f2, g2))).toList ++ st)) : Lf X E (lwZ A MC MS E.s D tc g2 f h ws mc ms) pc ls s0 := by
  intro H locs cells slots lsA C hI hL
  subst hs0
  have hts := C.2.2.2.2
  have g1 := hI.1.1
  have g3 := hI.1.2
  have g4 := F.1
  obtain ⟨h1, h2, h3, h4⟩ := hi
  have hfa : (lgz f g2 h.1 H.size).1 a = f a := lgz_lt ha
  have hr := va_runI (p := E.p) (l := E.l) (e := E.e) (R := E.Rm) (s := E.s) (m := E.m) (args := E.args) (below := E.below) (meth := E.meth) (c := E.c) (H := H) (locs := locs) (cells := cells) (slots := slots) (g := F0 E.m pc lsA (as.reverse ++ .ref (f a) :: st)) (b := f a) (As := as) (rest := st) (mc := mc') (ms := ms') ⟨C.1, C.2.1, C.2.2.1, C.2.2.2.1, hts⟩ (hm E.l D tc (lgz f g2 h.1 H.size) H.size) ⟨callB_of na hts (zGood h2) rfl rfl rfl (hts _ h3) (hts _ h1) h4 ⟨by show fr + 1 ≤ _; omega, by show 8 + (nL + 11) + lo ≤ _; omega⟩, hyn, hts _ hy⟩ ⟨zBlind, fun U hU hW => ⟨by rw [List.map_cons, has]; show _ = (Value.ref ((lgz f g2 h.1 H.size).1 a) :: as).toArray; rw [hfa], lwZ.pre F hI hc0 U hU hW⟩⟩ rfl hna hL.1 rfl (lv_room hst) hd ⟨by omega, by omega⟩
  intro Ts hT Xs
  obtain ⟨v, st₀, t, T', L, h0, X', hLL, e1, e2, ⟨⟨r, h2', hv, hq, hHp, hK1, hD1⟩, hF⟩, stp⟩ := hr Ts hT Xs
  have hv' : v = r.map (zc (lgz f g2 h.1 H.size)) := by injection hv
  subst hv'
  obtain ⟨t2, a1, b1⟩ := kk r h2' (lgz f g2 h.1 H.size).1 hq (fun i hi => lgz_lt hi) T'.heap (locs ++ L) (cells + mc') (slots + ms') lsA C (lwZ.after F hI hc0 h0 e1 hHp hD1 hF hLL hmc hms) hL T' rfl X'
  exact ⟨t2, stp t2 a1, b1⟩
end LZ
