/-! the JDK's small ones, makings, statics -/
section ZM1
variable {X : ZX} {mc ms pc : Nat} {ls : Nat → Option Value} {st : List Value} {h : ZH} {Q : Option Value → ZH → Prop}
theorem z_rm {g : ZG} (hst : (st.map Value.category).sum ≤ 8) : ((st.map (zc g)).map fun v => v.category).sum ≤ 8 := by
  rw [List.map_map]
  have : ((fun v : Value => v.category) ∘ zc g) = Value.category := funext (fun v => z_cat g v)
  rw [this]
  exact hst
theorem z_mmax {index : Nat} {x y : Int32} (hd : decode X.2.1 pc = .ok (.invokestatic index, 3)) (w1 : Cond.methodLink X.1 index Lib.Math.max.name ∈ zTB) (w2 : Cond.static Lib.Math.max.name ∈ zTB) (w3 : Cond.initialized "java/lang/Math" ∈ zTB) (w4 : Cond.code Lib.Math.max.name Lib.Math.max.code 2 (some .int) ∈ zTB) (hfr : 1 ≤ X.2.2.2.2.2.1) (hlo : 21 ≤ X.2.2.2.2.2.2.1) (hst : (st.map Value.category).sum ≤ 8) (kk : Zf X mc ms (pc + 3) ls (.int (if x < y then y else x) :: st) h Q) : Zf X mc ms pc ls (.int y :: .int x :: st) h Q := by
  intro p l e Rm s m args below meth c H locs cells slots D tc g A MC MS lsA C
  have hts := C.1.2.2.2.2.2.1
  have g1 := C.2.1.2.2.1
  have g2 := C.2.1.2.2.2.2.1
  have g3 := C.2.1.2.2.2.1
  have g4 := C.2.1.2.2.2.2.2
  have g5 := C.2.1.1
  have g6 := C.2.1.2.1
  have g7 := z_rm (g := g) hst
  exact va_mmax C.1.1 C.1.2.1 (C.1.2.2.2.1.trans C.2.2.2.2.1.symm) C.1.2.2.2.2.1 (hts _ w1) (hts _ w2) (hts _ w3) (hts _ w4) (by omega) (by omega) (by omega) (by omega) hd (kk p l e Rm s m args below meth c H locs cells slots D tc g A MC MS lsA C)
theorem z_mmin {index : Nat} {x y : Int32} (hd : decode X.2.1 pc = .ok (.invokestatic index, 3)) (w1 : Cond.methodLink X.1 index Lib.Math.min.name ∈ zTB) (w2 : Cond.static Lib.Math.min.name ∈ zTB) (w3 : Cond.initialized "java/lang/Math" ∈ zTB) (w4 : Cond.code Lib.Math.min.name Lib.Math.min.code 2 (some .int) ∈ zTB) (hfr : 1 ≤ X.2.2.2.2.2.1) (hlo : 21 ≤ X.2.2.2.2.2.2.1) (hst : (st.map Value.category).sum ≤ 8) (kk : Zf X mc ms (pc + 3) ls (.int (if y < x then y else x) :: st) h Q) : Zf X mc ms pc ls (.int y :: .int x :: st) h Q := by
  intro p l e Rm s m args below meth c H locs cells slots D tc g A MC MS lsA C
  have hts := C.1.2.2.2.2.2.1
  have g1 := C.2.1.2.2.1
  have g2 := C.2.1.2.2.2.2.1
  have g3 := C.2.1.2.2.2.1
  have g4 := C.2.1.2.2.2.2.2
  have g5 := C.2.1.1
  have g6 := C.2.1.2.1
  have g7 := z_rm (g := g) hst
  exact va_mmin C.1.1 C.1.2.1 (C.1.2.2.2.1.trans C.2.2.2.2.1.symm) C.1.2.2.2.2.1 (hts _ w1) (hts _ w2) (hts _ w3) (hts _ w4) (by omega) (by omega) (by omega) (by omega) hd (kk p l e Rm s m args below meth c H locs cells slots D tc g A MC MS lsA C)
theorem z_mabs {index : Nat} {x : Int32} (hd : decode X.2.1 pc = .ok (.invokestatic index, 3)) (w1 : Cond.methodLink X.1 index Lib.Math.abs.name ∈ zTB) (w2 : Cond.static Lib.Math.abs.name ∈ zTB) (w3 : Cond.initialized "java/lang/Math" ∈ zTB) (w4 : Cond.code Lib.Math.abs.name Lib.Math.abs.code 1 (some .int) ∈ zTB) (hfr : 1 ≤ X.2.2.2.2.2.1) (hlo : 21 ≤ X.2.2.2.2.2.2.1) (hst : (st.map Value.category).sum ≤ 8) (kk : Zf X mc ms (pc + 3) ls (.int (if 0 ≤ x then x else 0 - x) :: st) h Q) : Zf X mc ms pc ls (.int x :: st) h Q := by
  intro p l e Rm s m args below meth c H locs cells slots D tc g A MC MS lsA C
  have hts := C.1.2.2.2.2.2.1
  have g1 := C.2.1.2.2.1
  have g2 := C.2.1.2.2.2.2.1
  have g3 := C.2.1.2.2.2.1
  have g4 := C.2.1.2.2.2.2.2
  have g5 := C.2.1.1
  have g6 := C.2.1.2.1
  have g7 := z_rm (g := g) hst
  exact va_mabs C.1.1 C.1.2.1 (C.1.2.2.2.1.trans C.2.2.2.2.1.symm) C.1.2.2.2.2.1 (hts _ w1) (hts _ w2) (hts _ w3) (hts _ w4) (by omega) (by omega) (by omega) (by omega) hd (kk p l e Rm s m args below meth c H locs cells slots D tc g A MC MS lsA C)
theorem z_objInit {index a : Nat} (hd : decode X.2.1 pc = .ok (.invokespecial index, 3)) (w1 : Cond.methodLink X.1 index Lib.objectInit ∈ zTB) (w2 : Cond.instanceMethod Lib.objectInit ∈ zTB) (w3 : Cond.code Lib.objectInit ⟨#[0xb1]⟩ 1 none ∈ zTB) (hfr : 1 ≤ X.2.2.2.2.2.1) (hlo : 20 ≤ X.2.2.2.2.2.2.1) (hst : (st.map Value.category).sum ≤ 8) (kk : Zf X mc ms (pc + 3) ls st h Q) : Zf X mc ms pc ls (.ref a :: st) h Q := by
  intro p l e Rm s m args below meth c H locs cells slots D tc g A MC MS lsA C
  have hts := C.1.2.2.2.2.2.1
  have g5 := C.2.1.1
  have g6 := C.2.1.2.1
  have g7 := z_rm (g := g) hst
  exact W.objInit C.1.1 C.1.2.1 C.1.2.2.2.2.1 (hts _ w1) (hts _ w2) (hts _ w3) rfl (C.2.2.2.2.1.trans C.1.2.2.2.1.symm) rfl hd (by omega) (by show 2 * 0 + _ + 12 ≤ _; omega) (kk p l e Rm s m args below meth c H locs cells slots D tc g A MC MS lsA C)
/-- getstatic of Turf's two rows -/
theorem z_gets {index k : Nat} (hk : k < 2) (hd : decode X.2.1 pc = .ok (.getstatic index, 3)) (w1 : Cond.fieldLink X.1 index RX7 (if k = 0 then "STANDING_0" else "STANDING_1") "[I" ∈ zTB) (kk : Zf X mc ms (pc + 3) ls (.float (UInt32.ofNat (100 + k)) :: st) h Q) : Zf X mc ms pc ls st h Q := by
  intro p l e Rm s m args below meth c H locs cells slots D tc g A MC MS lsA C
  have hts := C.1.2.2.2.2.2.1
  obtain ⟨z0, -, z1, -⟩ := C.2.2.1.2.1
  rcases (show k = 0 ∨ k = 1 by omega) with rfl | rfl
  · exact va_gets C.1.1 C.1.2.1 z0 C.2.2.2.1.2.2 C.1.2.2.2.2.1 (hts _ w1) (fun _ h => h) hd (kk p l e Rm s m args below meth c H locs cells slots D tc g A MC MS lsA C)
  · exact va_gets C.1.1 C.1.2.1 z1 C.2.2.2.1.2.2 C.1.2.2.2.2.1 (hts _ w1) (fun _ h => h) hd (kk p l e Rm s m args below meth c H locs cells slots D tc g A MC MS lsA C)
theorem z_tald {k : Nat} {i : Int32} (hk : k < 2) (hd : decode X.2.1 pc = .ok (.iaload, 1)) (hi : vp_in i 24) (kk : Zf X mc ms (pc + 1) ls (.int (if k = 0 then zS0 i.toNatClampNeg else zS1 i.toNatClampNeg) :: st) h Q) : Zf X mc ms pc ls (.int i :: .float (UInt32.ofNat (100 + k)) :: st) h Q := by
  intro p l e Rm s m args below meth c H locs cells slots D tc g A MC MS lsA C
  obtain ⟨-, z0, -, z1, -⟩ := C.2.2.1.2.1
  rcases (show k = 0 ∨ k = 1 by omega) with rfl | rfl
  · exact va_ti C.1.1 C.1.2.1 z0 C.2.2.2.1.2.2 hi rfl hd (kk p l e Rm s m args below meth c H locs cells slots D tc g A MC MS lsA C)
  · exact va_ti C.1.1 C.1.2.1 z1 C.2.2.2.1.2.2 hi rfl hd (kk p l e Rm s m args below meth c H locs cells slots D tc g A MC MS lsA C)
theorem z_ldcS {index i : Nat} (hi : i < 12) (hx : (zSx i).1 = index) (ho : X.1 = RX6) (hd : decode X.2.1 pc = .ok (.ldc index, 2)) (kk : Zf X mc ms (pc + 2) ls (.float (UInt32.ofNat i) :: st) h Q) : Zf X mc ms pc ls st h Q := by
  intro p l e Rm s m args below meth c H locs cells slots D tc g A MC MS lsA C
  obtain ⟨-, -, -, -, -, z6, -⟩ := C.2.2.1.2.1
  have hw := z6 i hi
  rw [hx, ← ho] at hw
  have hu : (UInt32.ofNat i).toNat = i := by
    rw [UInt32.toNat_ofNat']
    omega
  refine va_ldcS (q := g.2 i) C.1.1 C.1.2.1 C.1.2.2.2.2.1 hw hd ?_
  have := kk p l e Rm s m args below meth c H locs cells slots D tc g A MC MS lsA C
  simp only [List.map_cons, zc, hu] at this
  exact this
end ZM1
section ZM2
variable {X : ZX} {mc ms pc : Nat} {ls : Nat → Option Value} {st : List Value} {Q : Option Value → ZH → Prop} {n : Nat} {K : Nat → Nat × Nat} {I : Nat → Nat → Int32} {L : Nat → Nat → Int64} {R : Nat → Nat → Option Nat}
theorem zE_new {tc : Nat → ClassId} {g : ZG} {k : Nat × Nat} {f : Nat → Int32} {f2 : Nat → Int64} {f3 : Nat → Option Nat} {b : Nat} (hb : b < n) : zE tc g (n + 1, va_up K n k, va_up I n f, va_up L n f2, va_up R n f3) b = zE tc g (n, K, I, L, R) b := by
  have : b ≠ n := by omega
  simp only [zE, va_up_ne _ _ this]
/-- a cell more -/
theorem zAt.push {h2 : ZH} {p : Program} {Rm : Room} {s : State} {m : MethodId} {args : Array Value} {meth : Method} {c : Code} {H H1 : Heap} {locs : List Loc} {cells slots mc2 ms2 w : Nat} {D : va_G} {tc : Nat → ClassId} {g : ZG} {A : Nat → Prop} {MC MS : Nat} {lsA : Array Slot} {k : Nat × Nat} {f : Nat → Int32} {f2 : Nat → Int64} {f3 : Nat → Option Nat}
    (C : zAt X mc ms ls (n, K, I, L, R) p Rm s m args meth c H locs cells slots D tc g A MC MS lsA) (hh : h2 = (n + 1, va_up K n k, va_up I n f, va_up L n f2, va_up R n f3)) (z1 : H1.size = H.size + 1) (o1 : ∀ q, q < H.size → H1[q]? = H[q]?) (hat : va_at D vwCl (H.size, zE tc g h2 n) H1) (hm : mc2 + 1 ≤ mc) (hs : ms2 + w ≤ ms) : zAt X mc2 ms2 ls h2 p Rm s m args meth c H1 locs (cells + 1) (slots + w) D tc g A MC MS lsA := by
  subst hh
  have hP := C.2.2.2.1.1.1
  have hD := C.2.2.2.1.2.1
  have hS := C.2.2.2.1.2.2
  have g0 : g.1 n = H.size := C.2.2.2.1.1.2 0
  have g1 := C.2.1.2.2.1
  have g2 := C.2.1.2.2.2.2.1
  have hk : ∀ (k : Nat) (x : Nat × va_E), (zW tc g (n, K, I, L, R))[k]? = some x → H1[x.1]? = H[x.1]? := fun k x hx => o1 x.1 ((hP k x hx).lt)
  have hw := zW_push (tc := tc) (g := g) (h := (n, K, I, L, R)) (h' := (n + 1, va_up K n k, va_up I n f, va_up L n f2, va_up R n f3)) rfl (fun b hb => zE_new hb)
  refine ⟨C.1, ⟨C.2.1.1, C.2.1.2.1, by omega, C.2.1.2.2.2.1, by omega, C.2.1.2.2.2.2.2⟩, C.2.2.1, ⟨⟨?_, fun i => ?_⟩, ?_, ?_⟩, C.2.2.2.2⟩
  · rw [← hw]
    refine (hP.kept hk).app (fun k x hx => ?_)
    have hz : k < 1 := (List.getElem?_eq_some_iff.mp hx).1
    rw [show k = 0 by omega] at hx
    cases hx
    show va_at D vwCl (g.1 n, _) H1
    rw [g0]
    exact hat
  · show g.1 (n + 1 + i) = _
    rw [z1, show n + 1 + i = n + (1 + i) by omega]
    have h9 : g.1 (n + (1 + i)) = H.size + (1 + i) := C.2.2.2.1.1.2 (1 + i)
    rw [h9]
    omega
  · rw [← hw]
    exact hD.push hP g0 (by show A (g.1 n); rw [g0]; exact C.2.2.1.2.2 _ hS.1)
  · exact ⟨Nat.le_trans hS.1 (by omega), fun x h1 h2 => (o1 x (Nat.lt_of_lt_of_le h1 hS.1)).trans (hS.2.1 x h1 h2), hS.2.2⟩
/-- new of class ci -/
def zNw (own : String) (index ci : Nat) (w : Nat) : Prop := ∃ (C : String) (T : u_T) (ty : Nat → FieldType), zCl ci C T w ty ∧ Cond.classLink own index C ∈ zTB ∧ Cond.instantiable C w ∈ zTB ∧ Cond.initialized C ∈ zTB ∧ ∀ k, k < w → defaultValue (ty k) = if (zT ci)[k]? = some true then .null else .int 0
theorem z_new {index ci w mc2 ms2 : Nat} (hw : zNw X.1 index ci w) (hd : decode X.2.1 pc = .ok (.new index, 3)) (hm : mc2 + 1 ≤ mc) (hs : ms2 + w ≤ ms) (kk : Zf X mc2 ms2 (pc + 3) ls (.ref n :: st) (n + 1, va_up K n (ci + 5, 0), va_up I n (fun _ => 0), va_up L n (fun _ => 0), va_up R n (fun _ => none)) Q) : Zf X mc ms pc ls st (n, K, I, L, R) Q := by
  intro p l e Rm s m args below meth c H locs cells slots D tc g A MC MS lsA C
  obtain ⟨cC, T, ty, ⟨hc, hin, hty, hnm, hlen⟩, w1, w2, w3, hdf⟩ := hw
  have hts := C.1.2.2.2.2.2.1
  have g1 := C.2.1.2.2.1
  have g2 := C.2.1.2.2.2.2.1
  have g3 := C.2.1.2.2.2.1
  have g4 := C.2.1.2.2.2.2.2
  have hKn := C.2.2.1.1.1 ci _ hc
  have g0 : g.1 n = H.size := C.2.2.2.1.1.2 0
  refine W.newcK C.1.1 C.1.2.1 C.1.2.2.2.2.1 (hts _ w1) (hts _ w2) (hts _ w3) rfl hd (by omega) (by omega) hKn.2.1 rfl fun H1 kC hkC e1 z1 o1 => ?_
  have C2 := C.push (h2 := (n + 1, va_up K n (ci + 5, 0), va_up I n (fun _ => 0), va_up L n (fun _ => 0), va_up R n (fun _ => none))) (H1 := H1) (mc2 := mc2) (ms2 := ms2) (w := w) rfl z1 o1 (by
    rw [zE_o (c := ci) (z := 0) (va_up_self _ _ _), va_up_self, va_up_self]
    refine ⟨_, hc, (u_born ty hts hin hKn hkC e1 hty).to (fun j hj => ?_)⟩
    rw [hdf j hj]
    have hjl : j < (zT ci).length := by rw [hlen]; exact hj
    show _ = (zFg g (fun _ => 0) (fun _ => none) 0 (zT ci)).getD j .null
    rw [List.getD_eq_getElem?_getD]
    cases hb : (zT ci)[j]? with
    | none => rw [List.getElem?_eq_none_iff] at hb; omega
    | some b =>
      cases b with
      | true => rw [zFg_r _ _ _ _ _ _ hb]; rfl
      | false => rw [zFg_i _ _ _ _ _ _ hb]; rfl) hm hs
  have h9 := kk p l e Rm s m args below meth c H1 locs (cells + 1) (slots + w) D tc g A MC MS lsA C2
  simp only [List.map_cons, zc, g0] at h9
  exact h9
theorem z_newI {mc2 ms2 : Nat} {x : Int32} {N : Nat} (w1 : Cond.arrayClass .int ∈ zTB) (hd : decode X.2.1 pc = .ok (.newarray .int, 2)) (hx : ¬ x < 0) (hN : x.toNatClampNeg = N) (hb : N ≤ 100000) (hm : mc2 + 1 ≤ mc) (hs : ms2 + N ≤ ms) (kk : Zf X mc2 ms2 (pc + 2) ls (.ref n :: st) (n + 1, va_up K n (0, N), va_up I n (fun _ => 0), va_up L n (fun _ => 0), va_up R n (fun _ => none)) Q) : Zf X mc ms pc ls (.int x :: st) (n, K, I, L, R) Q := by
  intro p l e Rm s m args below meth c H locs cells slots D tc g A MC MS lsA C
  have hts := C.1.2.2.2.2.2.1
  have g1 := C.2.1.2.2.1
  have g2 := C.2.1.2.2.2.2.1
  have g3 := C.2.1.2.2.2.1
  have g4 := C.2.1.2.2.2.2.2
  have g0 : g.1 n = H.size := C.2.2.2.1.1.2 0
  refine va_newaK (atype := .int) (N := N) C.1.1 C.1.2.1 (hts _ w1) rfl hd rfl hx hN (by show N * componentBytes .int ≤ _; simp only [componentBytes]; omega) (by omega) (by omega) rfl fun H1 cA e1 z1 o1 hAr hNm => ?_
  have hcA : cA = tc 0 := by
    have h0 : s.vm.findClass ("[" ++ (FieldType.int).toString) = some (tc 0) := (C.2.2.1.1.2 0 (tc 0, .int) rfl).2
    exact Option.some.inj (hNm.symm.trans h0)
  subst hcA
  have C2 := C.push (h2 := (n + 1, va_up K n (0, N), va_up I n (fun _ => 0), va_up L n (fun _ => 0), va_up R n (fun _ => none))) (H1 := H1) (mc2 := mc2) (ms2 := ms2) (w := N) rfl z1 o1 (by
    rw [zE_i (z := N) (va_up_self _ _ _), va_up_self]
    exact e1) hm hs
  have h9 := kk p l e Rm s m args below meth c H1 locs (cells + 1) (slots + N) D tc g A MC MS lsA C2
  simp only [List.map_cons, zc, g0] at h9
  exact h9
theorem z_newJ {mc2 ms2 : Nat} {x : Int32} {N : Nat} (w1 : Cond.arrayClass .long ∈ zTB) (hd : decode X.2.1 pc = .ok (.newarray .long, 2)) (hx : ¬ x < 0) (hN : x.toNatClampNeg = N) (hb : N ≤ 100000) (hm : mc2 + 1 ≤ mc) (hs : ms2 + N ≤ ms) (kk : Zf X mc2 ms2 (pc + 2) ls (.ref n :: st) (n + 1, va_up K n (1, N), va_up I n (fun _ => 0), va_up L n (fun _ => 0), va_up R n (fun _ => none)) Q) : Zf X mc ms pc ls (.int x :: st) (n, K, I, L, R) Q := by
  intro p l e Rm s m args below meth c H locs cells slots D tc g A MC MS lsA C
  have hts := C.1.2.2.2.2.2.1
  have g1 := C.2.1.2.2.1
  have g2 := C.2.1.2.2.2.2.1
  have g3 := C.2.1.2.2.2.1
  have g4 := C.2.1.2.2.2.2.2
  have g0 : g.1 n = H.size := C.2.2.2.1.1.2 0
  refine va_newaK (atype := .long) (N := N) C.1.1 C.1.2.1 (hts _ w1) rfl hd rfl hx hN (by show N * componentBytes .long ≤ _; simp only [componentBytes]; omega) (by omega) (by omega) rfl fun H1 cA e1 z1 o1 hAr hNm => ?_
  have hcA : cA = tc 1 := by
    have h0 : s.vm.findClass ("[" ++ (FieldType.long).toString) = some (tc 1) := (C.2.2.1.1.2 1 (tc 1, .long) rfl).2
    exact Option.some.inj (hNm.symm.trans h0)
  subst hcA
  have C2 := C.push (h2 := (n + 1, va_up K n (1, N), va_up I n (fun _ => 0), va_up L n (fun _ => 0), va_up R n (fun _ => none))) (H1 := H1) (mc2 := mc2) (ms2 := ms2) (w := N) rfl z1 o1 (by
    rw [zE_l (z := N) (va_up_self _ _ _), va_up_self]
    exact e1) hm hs
  have h9 := kk p l e Rm s m args below meth c H1 locs (cells + 1) (slots + N) D tc g A MC MS lsA C2
  simp only [List.map_cons, zc, g0] at h9
  exact h9
theorem z_newC {mc2 ms2 : Nat} {x : Int32} {N : Nat} (w1 : Cond.arrayClass .char ∈ zTB) (hd : decode X.2.1 pc = .ok (.newarray .char, 2)) (hx : ¬ x < 0) (hN : x.toNatClampNeg = N) (hb : N ≤ 100000) (hm : mc2 + 1 ≤ mc) (hs : ms2 + N ≤ ms) (kk : Zf X mc2 ms2 (pc + 2) ls (.ref n :: st) (n + 1, va_up K n (2, N), va_up I n (fun _ => 0), va_up L n (fun _ => 0), va_up R n (fun _ => none)) Q) : Zf X mc ms pc ls (.int x :: st) (n, K, I, L, R) Q := by
  intro p l e Rm s m args below meth c H locs cells slots D tc g A MC MS lsA C
  have hts := C.1.2.2.2.2.2.1
  have g1 := C.2.1.2.2.1
  have g2 := C.2.1.2.2.2.2.1
  have g3 := C.2.1.2.2.2.1
  have g4 := C.2.1.2.2.2.2.2
  have g0 : g.1 n = H.size := C.2.2.2.1.1.2 0
  refine va_newaK (atype := .char) (N := N) C.1.1 C.1.2.1 (hts _ w1) rfl hd rfl hx hN (by show N * componentBytes .char ≤ _; simp only [componentBytes]; omega) (by omega) (by omega) rfl fun H1 cA e1 z1 o1 hAr hNm => ?_
  have hcA : cA = tc 2 := by
    have h0 : s.vm.findClass ("[" ++ (FieldType.char).toString) = some (tc 2) := (C.2.2.1.1.2 2 (tc 2, .char) rfl).2
    exact Option.some.inj (hNm.symm.trans h0)
  subst hcA
  have C2 := C.push (h2 := (n + 1, va_up K n (2, N), va_up I n (fun _ => 0), va_up L n (fun _ => 0), va_up R n (fun _ => none))) (H1 := H1) (mc2 := mc2) (ms2 := ms2) (w := N) rfl z1 o1 (by
    rw [zE_c (z := N) (va_up_self _ _ _), va_up_self]
    exact e1) hm hs
  have h9 := kk p l e Rm s m args below meth c H1 locs (cells + 1) (slots + N) D tc g A MC MS lsA C2
  simp only [List.map_cons, zc, g0] at h9
  exact h9
theorem z_newP {mc2 ms2 index : Nat} {x : Int32} {N : Nat} (w1 : Cond.classLink X.1 index RX2 ∈ zTB) (hd : decode X.2.1 pc = .ok (.anewarray index, 3)) (hx : ¬ x < 0) (hN : x.toNatClampNeg = N) (hb : N ≤ 100000) (hm : mc2 + 1 ≤ mc) (hs : ms2 + N ≤ ms) (kk : Zf X mc2 ms2 (pc + 3) ls (.ref n :: st) (n + 1, va_up K n (3, N), va_up I n (fun _ => 0), va_up L n (fun _ => 0), va_up R n (fun _ => none)) Q) : Zf X mc ms pc ls (.int x :: st) (n, K, I, L, R) Q := by
  intro p l e Rm s m args below meth c H locs cells slots D tc g A MC MS lsA C
  have hts := C.1.2.2.2.2.2.1
  have g1 := C.2.1.2.2.1
  have g2 := C.2.1.2.2.2.2.1
  have g3 := C.2.1.2.2.2.1
  have g4 := C.2.1.2.2.2.2.2
  obtain ⟨-, -, -, -, -, -, z7, -⟩ := C.2.2.1.2.1
  have g0 : g.1 n = H.size := C.2.2.2.1.1.2 0
  subst hN
  refine W.anew C.1.1 C.1.2.1 C.1.2.2.2.2.1 (hts _ w1) (va_AO.use z7.2.1) rfl hd rfl hx (by omega) (by omega) (by omega) fun cA kA comp f1 f2 f3 f4 => ?_
  have hcA : cA = tc 3 := by
    obtain ⟨kA', comp', -, -, -, h0⟩ := (C.2.2.1.1.2 3 (tc 3, .object RX2) rfl).2
    exact Option.some.inj (f1.symm.trans h0)
  subst hcA
  generalize hH1 : H.push ({ cls := tc 3, slots := Array.replicate x.toNatClampNeg .null, vm := .none } : Cell) = H1
  have z1 : H1.size = H.size + 1 := by rw [← hH1, Array.size_push]
  have e1 : H1[H.size]? = some (arrV (tc 3) x.toNatClampNeg (fun _ => .null)) := by rw [← hH1, Array.getElem?_push_size, ← arrV_new]
  have o1 : ∀ q : Nat, q < H.size → H1[q]? = H[q]? := fun q hq => by rw [← hH1, Array.getElem?_push, if_neg (Nat.ne_of_lt hq)]
  have C2 := C.push (h2 := (n + 1, va_up K n (3, x.toNatClampNeg), va_up I n (fun _ => 0), va_up L n (fun _ => 0), va_up R n (fun _ => none))) (H1 := H1) (mc2 := mc2) (ms2 := ms2) (w := x.toNatClampNeg) rfl z1 o1 (by
    rw [zE_p (z := x.toNatClampNeg) (va_up_self _ _ _), va_up_self]
    exact e1) hm hs
  have h9 := kk p l e Rm s m args below meth c H1 locs (cells + 1) (slots + x.toNatClampNeg) D tc g A MC MS lsA C2
  simp only [List.map_cons, zc, g0] at h9
  exact h9
theorem z_newQ {mc2 ms2 index : Nat} {x : Int32} {N : Nat} (w1 : Cond.classLink X.1 index RX1 ∈ zTB) (hd : decode X.2.1 pc = .ok (.anewarray index, 3)) (hx : ¬ x < 0) (hN : x.toNatClampNeg = N) (hb : N ≤ 100000) (hm : mc2 + 1 ≤ mc) (hs : ms2 + N ≤ ms) (kk : Zf X mc2 ms2 (pc + 3) ls (.ref n :: st) (n + 1, va_up K n (4, N), va_up I n (fun _ => 0), va_up L n (fun _ => 0), va_up R n (fun _ => none)) Q) : Zf X mc ms pc ls (.int x :: st) (n, K, I, L, R) Q := by
  intro p l e Rm s m args below meth c H locs cells slots D tc g A MC MS lsA C
  have hts := C.1.2.2.2.2.2.1
  have g1 := C.2.1.2.2.1
  have g2 := C.2.1.2.2.2.2.1
  have g3 := C.2.1.2.2.2.1
  have g4 := C.2.1.2.2.2.2.2
  obtain ⟨-, -, -, -, -, -, z7, -⟩ := C.2.2.1.2.1
  have g0 : g.1 n = H.size := C.2.2.2.1.1.2 0
  subst hN
  refine W.anew C.1.1 C.1.2.1 C.1.2.2.2.2.1 (hts _ w1) (va_AO.use z7.2.2) rfl hd rfl hx (by omega) (by omega) (by omega) fun cA kA comp f1 f2 f3 f4 => ?_
  have hcA : cA = tc 4 := by
    obtain ⟨kA', comp', -, -, -, h0⟩ := (C.2.2.1.1.2 4 (tc 4, .object RX1) rfl).2
    exact Option.some.inj (f1.symm.trans h0)
  subst hcA
  generalize hH1 : H.push ({ cls := tc 4, slots := Array.replicate x.toNatClampNeg .null, vm := .none } : Cell) = H1
  have z1 : H1.size = H.size + 1 := by rw [← hH1, Array.size_push]
  have e1 : H1[H.size]? = some (arrV (tc 4) x.toNatClampNeg (fun _ => .null)) := by rw [← hH1, Array.getElem?_push_size, ← arrV_new]
  have o1 : ∀ q : Nat, q < H.size → H1[q]? = H[q]? := fun q hq => by rw [← hH1, Array.getElem?_push, if_neg (Nat.ne_of_lt hq)]
  have C2 := C.push (h2 := (n + 1, va_up K n (4, x.toNatClampNeg), va_up I n (fun _ => 0), va_up L n (fun _ => 0), va_up R n (fun _ => none))) (H1 := H1) (mc2 := mc2) (ms2 := ms2) (w := x.toNatClampNeg) rfl z1 o1 (by
    rw [zE_q (z := x.toNatClampNeg) (va_up_self _ _ _), va_up_self]
    exact e1) hm hs
  have h9 := kk p l e Rm s m args below meth c H1 locs (cells + 1) (slots + x.toNatClampNeg) D tc g A MC MS lsA C2
  simp only [List.map_cons, zc, g0] at h9
  exact h9
/-- a constructor of a nest mate that is private -/
theorem z_callIN {h : ZH} {index na mc' ms' mc2 ms2 fr lo a : Nat} {y : MethodName} {cc : ByteArray} {nL : Nat} {as : List Value} {Qy : Option Value → ZH → Prop} {s0 : List Value} (ho : X.1 = RX8) (hq : (index, y) ∈ zNest) (w2 : Cond.code y cc nL none ∈ zTB) (w3 : Cond.initialized y.cls ∈ zTB) (w4 : y.cls ≠ "java/lang/invoke/MethodHandle" ∧ y.cls ≠ "java/lang/invoke/VarHandle" ∧ (parseMethodDescriptor y.desc).map (fun d => d.parameters.length) = some na) (hy : Cond.instanceMethod y ∈ zTB) (hyn : y.name = "<init>") (hm : Zm y cc nL none fr lo mc' ms' (.ref a :: as) h Qy) (hd : decode X.2.1 pc = .ok (.invokespecial index, 3)) (hs0 : s0 = as.reverse ++ .ref a :: st) (hna : as.length = na) (hfr : fr + 1 ≤ X.2.2.2.2.2.1) (hlo : 8 + (nL + 11) + lo ≤ X.2.2.2.2.2.2.1) (hst : (st.map Value.category).sum ≤ 8) (hmc : mc2 + mc' ≤ mc) (hms : ms2 + ms' ≤ ms)
    (kk : ∀ (r : Option Value) (h2 : ZH), Qy r h2 → Zf X mc2 ms2 (pc + 3) ls (r.toList ++ st) h2 Q) : Zf X mc ms pc ls s0 h Q := by
  intro p l e Rm s m args below meth c H locs cells slots D tc g A MC MS lsA C
  subst hs0
  have hts := C.1.2.2.2.2.2.1
  have g1 := C.2.1.2.2.1
  have g2 := C.2.1.2.2.2.2.1
  have g3 := C.2.1.2.2.2.1
  have g4 := C.2.1.2.2.2.2.2
  have g5 := C.2.1.1
  have g6 := C.2.1.2.1
  obtain ⟨-, -, -, -, -, -, z7, -⟩ := C.2.2.1.2.1
  have hnl := z7.1 _ hq
  simp only [← ho] at hnl
  refine z_after (mc' := mc') (ms' := ms') (a := (Value.ref (g.1 a) :: as.map (zc g)).toArray) C hmc hms (va_runIN (b := g.1 a) (As := as.map (zc g)) (rest := st.map (zc g)) ⟨C.1.1, C.1.2.1, C.1.2.2.2.1, C.1.2.2.2.2.1, hts⟩ (hm l D tc g H.size) ⟨va_cnB na hts (zGood w2) rfl rfl rfl hnl (hts _ w3) w4 ⟨by show fr + 1 ≤ _; omega, by show 8 + (nL + 11) + lo ≤ _; omega⟩, hyn, hts _ hy⟩ ⟨zBlind, fun U hU hW => ⟨rfl, C.pre U hU hW⟩⟩ rfl (by rw [List.length_map]; exact hna) C.2.2.2.2.1 (by simp [List.map_append, List.map_reverse, zc]) (z_room hst) hd ⟨by omega, by omega⟩) kk
end ZM2
