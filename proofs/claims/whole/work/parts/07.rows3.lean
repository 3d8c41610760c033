/-! the heap's rows -/
def zCl (ci : Nat) (C : String) (T : u_T) (N : Nat) (ty : Nat → FieldType) : Prop := vwCl[ci]? = some (C, T, N) ∧ (∀ w ∈ u_ws C T N, w ∈ zTB) ∧ (∀ k, k < N → parseFieldDescriptor (T k).2.2.1 = some (ty k)) ∧ (∀ a, a < N → ∀ b, b < N → a ≠ b → (T a).2.1 ≠ (T b).2.1) ∧ (zT ci).length = N
/-- field k of class ci, by entry index of own: b tells whether it is a reference -/
def zFd (own : String) (index ci k : Nat) (b fin : Bool) : Prop := ∃ (C : String) (T : u_T) (N : Nat) (ty : Nat → FieldType), zCl ci C T N ty ∧ k < N ∧ (zT ci)[k]? = some b ∧ Cond.fieldLink own index (T k).1 (T k).2.1 (T k).2.2.1 ∈ zTB ∧ (T k).2.2.2 = fin ∧ (b = false → ty k = .int) ∧ (b = true → ∀ q : Option Nat, narrow (ty k) (va_rf q) = va_rf q ∧ fits (ty k) (va_rf q) = true) ∧ (fin = true → (T k).1 = own)
theorem zE_i {tc : Nat → ClassId} {g : ZG} {n : Nat} {K : Nat → Nat × Nat} {I : Nat → Nat → Int32} {L : Nat → Nat → Int64} {R : Nat → Nat → Option Nat} {a z : Nat} (hk : K a = (0, z)) : zE tc g (n, K, I, L, R) a = .inl (tc 0, z, .inl (I a)) := by simp [zE, hk]
theorem zE_l {tc : Nat → ClassId} {g : ZG} {n : Nat} {K : Nat → Nat × Nat} {I : Nat → Nat → Int32} {L : Nat → Nat → Int64} {R : Nat → Nat → Option Nat} {a z : Nat} (hk : K a = (1, z)) : zE tc g (n, K, I, L, R) a = .inl (tc 1, z, .inr (.inl (L a))) := by simp [zE, hk]
theorem zE_c {tc : Nat → ClassId} {g : ZG} {n : Nat} {K : Nat → Nat × Nat} {I : Nat → Nat → Int32} {L : Nat → Nat → Int64} {R : Nat → Nat → Option Nat} {a z : Nat} (hk : K a = (2, z)) : zE tc g (n, K, I, L, R) a = .inl (tc 2, z, .inl (I a)) := by simp [zE, hk]
theorem zE_p {tc : Nat → ClassId} {g : ZG} {n : Nat} {K : Nat → Nat × Nat} {I : Nat → Nat → Int32} {L : Nat → Nat → Int64} {R : Nat → Nat → Option Nat} {a z : Nat} (hk : K a = (3, z)) : zE tc g (n, K, I, L, R) a = .inl (tc 3, z, .inr (.inr (.inr (.inr (fun j => (R a j).map g.1))))) := by simp [zE, hk]
theorem zE_q {tc : Nat → ClassId} {g : ZG} {n : Nat} {K : Nat → Nat × Nat} {I : Nat → Nat → Int32} {L : Nat → Nat → Int64} {R : Nat → Nat → Option Nat} {a z : Nat} (hk : K a = (4, z)) : zE tc g (n, K, I, L, R) a = .inl (tc 4, z, .inr (.inr (.inr (.inr (fun j => (R a j).map g.1))))) := by simp [zE, hk]
theorem zE_o {tc : Nat → ClassId} {g : ZG} {n : Nat} {K : Nat → Nat × Nat} {I : Nat → Nat → Int32} {L : Nat → Nat → Int64} {R : Nat → Nat → Option Nat} {a c z : Nat} (hk : K a = (c + 5, z)) : zE tc g (n, K, I, L, R) a = .inr (c, zFg g (I a) (R a) 0 (zT c)) := by simp [zE, hk]
theorem zE_I {tc : Nat → ClassId} {g : ZG} {n : Nat} {K : Nat → Nat × Nat} {I : Nat → Nat → Int32} {L : Nat → Nat → Int64} {R : Nat → Nat → Option Nat} {a b k : Nat} {v : Int32} (hb : b ≠ a) : zE tc g (n, K, zu I a k v, L, R) b = zE tc g (n, K, I, L, R) b := by simp only [zE, zu_ne _ _ _ hb]
theorem zE_L {tc : Nat → ClassId} {g : ZG} {n : Nat} {K : Nat → Nat × Nat} {I : Nat → Nat → Int32} {L : Nat → Nat → Int64} {R : Nat → Nat → Option Nat} {a b k : Nat} {v : Int64} (hb : b ≠ a) : zE tc g (n, K, I, zu L a k v, R) b = zE tc g (n, K, I, L, R) b := by simp only [zE, zu_ne _ _ _ hb]
theorem zE_R {tc : Nat → ClassId} {g : ZG} {n : Nat} {K : Nat → Nat × Nat} {I : Nat → Nat → Int32} {L : Nat → Nat → Int64} {R : Nat → Nat → Option Nat} {a b k : Nat} {v : Option Nat} (hb : b ≠ a) : zE tc g (n, K, I, L, zu R a k v) b = zE tc g (n, K, I, L, R) b := by simp only [zE, zu_ne _ _ _ hb]
section ZHR
variable {X : ZX} {mc ms pc : Nat} {ls : Nat → Option Value} {st : List Value} {Q : Option Value → ZH → Prop} {n : Nat} {K : Nat → Nat × Nat} {I : Nat → Nat → Int32} {L : Nat → Nat → Int64} {R : Nat → Nat → Option Nat}
theorem z_getI {index ci k a z : Nat} {fin : Bool} (hf : zFd X.1 index ci k false fin) (hd : decode X.2.1 pc = .ok (.getfield index, 3)) (ha : a < n) (hk : K a = (ci + 5, z)) (kk : Zf X mc ms (pc + 3) ls (.int (I a k) :: st) (n, K, I, L, R) Q) : Zf X mc ms pc ls (.ref a :: st) (n, K, I, L, R) Q := by
  intro p l e Rm s m args below meth c H locs cells slots D tc g A MC MS lsA C
  obtain ⟨cC, T, N, ty, ⟨hc, hin, hty, hnm, hlen⟩, hkN, hb, hlink, hfin, -⟩ := hf
  have he : (zW tc g (n, K, I, L, R))[a]? = some (g.1 a, .inr (ci, zFg g (I a) (R a) 0 (zT ci))) := by rw [zW_at ha, zE_o hk]
  have hv := zFg_i g (I a) (R a) (zT ci) 0 k hb
  rw [Nat.zero_add] at hv
  exact va_get (C := cC) (T := T) (N := N) C.1.1 C.1.2.1 C.1.2.2.2.2.2.1 hin C.1.2.2.2.2.1 C.2.2.1.1 C.2.2.2.1.1.1 a he hc k hkN (C.1.2.2.2.2.2.1 _ hlink) (fun _ h => h) hv hd (kk p l e Rm s m args below meth c H locs cells slots D tc g A MC MS lsA C)
theorem z_getR {index ci k a b z : Nat} {fin : Bool} (hf : zFd X.1 index ci k true fin) (hd : decode X.2.1 pc = .ok (.getfield index, 3)) (ha : a < n) (hk : K a = (ci + 5, z)) (hr : R a k = some b) (kk : Zf X mc ms (pc + 3) ls (.ref b :: st) (n, K, I, L, R) Q) : Zf X mc ms pc ls (.ref a :: st) (n, K, I, L, R) Q := by
  intro p l e Rm s m args below meth c H locs cells slots D tc g A MC MS lsA C
  obtain ⟨cC, T, N, ty, ⟨hc, hin, hty, hnm, hlen⟩, hkN, hb, hlink, hfin, -⟩ := hf
  have he : (zW tc g (n, K, I, L, R))[a]? = some (g.1 a, .inr (ci, zFg g (I a) (R a) 0 (zT ci))) := by rw [zW_at ha, zE_o hk]
  have hv := zFg_r g (I a) (R a) (zT ci) 0 k hb
  rw [Nat.zero_add, hr] at hv
  exact va_get (C := cC) (T := T) (N := N) C.1.1 C.1.2.1 C.1.2.2.2.2.2.1 hin C.1.2.2.2.2.1 C.2.2.1.1 C.2.2.2.1.1.1 a he hc k hkN (C.1.2.2.2.2.2.1 _ hlink) (fun _ h => h) hv hd (kk p l e Rm s m args below meth c H locs cells slots D tc g A MC MS lsA C)
/-- putfield: a field that isn't final, or a final one in its constructor -/
theorem z_wput {p : Program} {l : Launch} {e : Env} {Rm : Room} {s : State} {m : MethodId} {args : Array Value} {below : List Frame} {meth : Method} {c : Code} {H : Heap} {locs : List Loc} {cells slots : Nat} {Qs : State → Prop} {D : va_G} {tys : List (ClassId × FieldType)} {ws : va_W} {A : Nat → Prop} {cc : ByteArray} {lsA : Array Slot} {rest : List Value} {own : String} {index ci k a q0 : Nat} {b fin : Bool} {fs : List Value} {v : Value}
    (hexec : p.tables.exec = Jvm.exec) (hb : c.code = cc) (hts : ∀ w ∈ zTB, w.before args s = true) (hown : s.vm.findClass own = some m.cls) (hK : va_K D vwCl tys s) (hP : va_P D vwCl ws H) (hD : va_D A ws) (hS0 : va_S A s.heap H locs) (he : ws[q0]? = some (a, .inr (ci, fs))) (hl : fs.length = (zT ci).length)
    (hf : zFd own index ci k b fin) (hnit : fin = true → meth.name = "<init>") (hv : (b = false ∧ ∃ x : Int32, v = .int x) ∨ (b = true ∧ ∃ q : Option Nat, v = va_rf q)) (hdg : decode cc pc = .ok (.putfield index, 3))
    (kk : ∀ (H1 : Heap) (locs1 : List Loc), H1.size = H.size → va_P D vwCl (ws.set q0 (a, .inr (ci, fs.set k v))) H1 → va_D A (ws.set q0 (a, .inr (ci, fs.set k v))) → va_S A s.heap H1 locs1 → W p l e Rm s m args below meth c H1 locs1 cells slots Qs (F0 m (pc + 3) lsA rest)) : W p l e Rm s m args below meth c H locs cells slots Qs (F0 m pc lsA (v :: .ref a :: rest)) := by
  obtain ⟨cC, T, N, ty, ⟨hc, hin, hty, hnm, hlen⟩, hkN, hbk, hlink, hfin, hti, htr, hdecl⟩ := hf
  have hlk := hts _ hlink
  have hnf : narrow (ty k) v = v ∧ fits (ty k) v = true := by
    rcases hv with ⟨e1, x, rfl⟩ | ⟨e1, q, rfl⟩
    · rw [hti e1]; exact ⟨rfl, rfl⟩
    · exact htr e1 q
  have hkl : k < fs.length := by rw [hl, hlen]; exact hkN
  have hap := va_apart (own := own) hts hin ty hty hnm hK hc
  obtain ⟨r, h1, cell, q1, q2, q3, q4⟩ := hP q0 _ he
  have hr : r = (cC, T, N) := Option.some.inj (h1.symm.trans hc)
  subst hr
  obtain ⟨hS, hfc, kC, hkC, hkind⟩ := hK.1 ci _ hc
  obtain ⟨cf, kf, fi, f, hi, hsl⟩ := hS k hkN
  have hlay := hts _ (hin _ (u_in_lay hkN))
  unfold u_lay at hlay
  have hst := (u_facts hfc hkC (u_lays hts hin hkN) hi).1
  cases hfb : fin with
  | false =>
    rw [hfb] at hfin
    rw [if_neg (by rw [hfin]; decide)] at hlay
    have h6 := u_store hfc hkC hkind hlay hi (hty k hkN) hnf.1 hnf.2
    refine W.putK hexec hb (f := f) ⟨hown, hlk, ⟨_, _, _, hi⟩, hst⟩ (by rw [q2]; exact h6) q1 q3 (by rw [hsl]; exact k2_hasslot (q4 k hkN)) rfl rfl hdg fun H' e1 e2 e3 => ?_
    rw [hsl] at e1 ⊢
    exact kk H' _ e2 (hP.set hD he ⟨_, hc, t_OB.to (V := updV (vp_V fs) k v) ⟨_, e1, q2, q3, t_set q4 hap hkN v⟩ (fun j _ => vp_updV_set hkl v j)⟩ e3) (hD.set he) (hS0.put e2 e3 (hD.2 q0 _ he))
  | true =>
    rw [hfb] at hfin
    rw [if_pos hfin] at hlay
    have hcf : m.cls = cf := by
      obtain ⟨_, _, c', _, _, _, -, -, hf', -, -, -, hown2, -⟩ := Cond.laysFinal_spec hlay
      have e1 : c' = cf := by have := hi.symm.trans hf'; simp at this; exact this.1.symm
      rw [hdecl hfb] at hown2
      rw [← e1]; exact Option.some.inj (hown.symm.trans hown2)
    have h6 := u_fits hfc hkC hkind (Or.inr hlay) hi (hty k hkN) hnf.1 hnf.2
    refine W.putFinK hexec hb hown hlk hi hst hcf (hnit hfb) (by rw [q2]; exact h6) q1 q3 (by rw [hsl]; exact k2_hasslot (q4 k hkN)) rfl rfl hdg fun H' e1 e2 e3 => ?_
    rw [hsl] at e1 ⊢
    exact kk H' _ e2 (hP.set hD he ⟨_, hc, t_OB.to (V := updV (vp_V fs) k v) ⟨_, e1, q2, q3, t_set q4 hap hkN v⟩ (fun j _ => vp_updV_set hkl v j)⟩ e3) (hD.set he) (hS0.put e2 e3 (hD.2 q0 _ he))
theorem zAt.hp {h h2 : ZH} {p : Program} {Rm : Room} {s : State} {m : MethodId} {args : Array Value} {meth : Method} {c : Code} {H H1 : Heap} {locs locs1 : List Loc} {cells slots : Nat} {D : va_G} {tc : Nat → ClassId} {g : ZG} {A : Nat → Prop} {MC MS : Nat} {lsA : Array Slot}
    (C : zAt X mc ms ls h p Rm s m args meth c H locs cells slots D tc g A MC MS lsA) (hn : h2.1 = h.1) (hz : H1.size = H.size) (hP : va_P D vwCl (zW tc g h2) H1) (hD : va_D A (zW tc g h2)) (hS : va_S A s.heap H1 locs1) : zAt X mc ms ls h2 p Rm s m args meth c H1 locs1 cells slots D tc g A MC MS lsA :=
  ⟨C.1, C.2.1, C.2.2.1, ⟨⟨hP, fun i => by rw [hn, hz]; exact C.2.2.2.1.1.2 i⟩, hD, hS⟩, C.2.2.2.2⟩
theorem z_putI {index ci k a z : Nat} {fin : Bool} {x : Int32} (hf : zFd X.1 index ci k false fin) (hd : decode X.2.1 pc = .ok (.putfield index, 3)) (hi : fin = true → X.2.2.2.2.1 = "<init>") (ha : a < n) (hk : K a = (ci + 5, z)) (kk : Zf X mc ms (pc + 3) ls st (n, K, zu I a k x, L, R) Q) : Zf X mc ms pc ls (.int x :: .ref a :: st) (n, K, I, L, R) Q := by
  intro p l e Rm s m args below meth c H locs cells slots D tc g A MC MS lsA C
  have he : (zW tc g (n, K, I, L, R))[a]? = some (g.1 a, .inr (ci, zFg g (I a) (R a) 0 (zT ci))) := by rw [zW_at ha, zE_o hk]
  have hb : (zT ci)[k]? = some false := by obtain ⟨_, _, _, _, _, _, hb, _⟩ := hf; exact hb
  refine z_wput (v := .int x) C.1.1 C.1.2.1 C.1.2.2.2.2.2.1 C.1.2.2.2.2.1 C.2.2.1.1 C.2.2.2.1.1.1 C.2.2.2.1.2.1 C.2.2.2.1.2.2 he (zFg_len _ _ _ _ _) hf (fun q => C.1.2.2.2.2.2.2.2.trans (hi q)) (Or.inl ⟨rfl, x, rfl⟩) hd (fun H1 locs1 hz hP hD hS => ?_)
  rw [zFg_setI g (I a) (R a) x (zT ci) 0 k hb, Nat.zero_add, zW_set (h := (n, K, I, L, R)) (h' := (n, K, zu I a k x, L, R)) (e := .inr (ci, zFg g (va_up (I a) k x) (R a) 0 (zT ci))) ha rfl (fun b hb => zE_I hb) (by rw [zE_o hk, zu_at])] at hP hD
  exact kk p l e Rm s m args below meth c H1 locs1 cells slots D tc g A MC MS lsA (C.hp rfl hz hP hD hS)
theorem z_putR {index ci k a b z : Nat} {fin : Bool} (hf : zFd X.1 index ci k true fin) (hd : decode X.2.1 pc = .ok (.putfield index, 3)) (hi : fin = true → X.2.2.2.2.1 = "<init>") (ha : a < n) (hk : K a = (ci + 5, z)) (kk : Zf X mc ms (pc + 3) ls st (n, K, I, L, zu R a k (some b)) Q) : Zf X mc ms pc ls (.ref b :: .ref a :: st) (n, K, I, L, R) Q := by
  intro p l e Rm s m args below meth c H locs cells slots D tc g A MC MS lsA C
  have he : (zW tc g (n, K, I, L, R))[a]? = some (g.1 a, .inr (ci, zFg g (I a) (R a) 0 (zT ci))) := by rw [zW_at ha, zE_o hk]
  have hb : (zT ci)[k]? = some true := by obtain ⟨_, _, _, _, _, _, hb, _⟩ := hf; exact hb
  refine z_wput (v := va_rf ((some b).map g.1)) C.1.1 C.1.2.1 C.1.2.2.2.2.2.1 C.1.2.2.2.2.1 C.2.2.1.1 C.2.2.2.1.1.1 C.2.2.2.1.2.1 C.2.2.2.1.2.2 he (zFg_len _ _ _ _ _) hf (fun q => C.1.2.2.2.2.2.2.2.trans (hi q)) (Or.inr ⟨rfl, _, rfl⟩) hd (fun H1 locs1 hz hP hD hS => ?_)
  rw [zFg_setR g (I a) (R a) (some b) (zT ci) 0 k hb, Nat.zero_add, zW_set (h := (n, K, I, L, R)) (h' := (n, K, I, L, zu R a k (some b))) (e := .inr (ci, zFg g (I a) (va_up (R a) k (some b)) 0 (zT ci))) ha rfl (fun b hb => zE_R hb) (by rw [zE_o hk, zu_at])] at hP hD
  exact kk p l e Rm s m args below meth c H1 locs1 cells slots D tc g A MC MS lsA (C.hp rfl hz hP hD hS)
theorem z_iald {a z : Nat} {i : Int32} (hd : decode X.2.1 pc = .ok (.iaload, 1)) (ha : a < n) (hk : K a = (0, z)) (hi : vp_in i z) (kk : Zf X mc ms (pc + 1) ls (.int (I a i.toNatClampNeg) :: st) (n, K, I, L, R) Q) : Zf X mc ms pc ls (.int i :: .ref a :: st) (n, K, I, L, R) Q :=
  fun p l e Rm s m args below meth c H locs cells slots D tc g A MC MS lsA C => va_iald C.1.1 C.1.2.1 C.2.2.1.1 C.2.2.2.1.1.1 a 0 (by rw [zW_at ha, zE_i hk]) rfl hi hd (kk p l e Rm s m args below meth c H locs cells slots D tc g A MC MS lsA C)
theorem z_lald {a z : Nat} {i : Int32} (hd : decode X.2.1 pc = .ok (.laload, 1)) (ha : a < n) (hk : K a = (1, z)) (hi : vp_in i z) (kk : Zf X mc ms (pc + 1) ls (.long (L a i.toNatClampNeg) :: st) (n, K, I, L, R) Q) : Zf X mc ms pc ls (.int i :: .ref a :: st) (n, K, I, L, R) Q :=
  fun p l e Rm s m args below meth c H locs cells slots D tc g A MC MS lsA C => va_lald C.1.1 C.1.2.1 C.2.2.1.1 C.2.2.2.1.1.1 a 1 (by rw [zW_at ha, zE_l hk]) rfl hi hd (kk p l e Rm s m args below meth c H locs cells slots D tc g A MC MS lsA C)
theorem z_cald {a z : Nat} {i : Int32} (hd : decode X.2.1 pc = .ok (.caload, 1)) (ha : a < n) (hk : K a = (2, z)) (hi : vp_in i z) (kk : Zf X mc ms (pc + 1) ls (.int (I a i.toNatClampNeg) :: st) (n, K, I, L, R) Q) : Zf X mc ms pc ls (.int i :: .ref a :: st) (n, K, I, L, R) Q :=
  fun p l e Rm s m args below meth c H locs cells slots D tc g A MC MS lsA C => va_cald C.1.1 C.1.2.1 C.2.2.1.1 C.2.2.2.1.1.1 a 2 (by rw [zW_at ha, zE_c hk]) rfl hi hd (kk p l e Rm s m args below meth c H locs cells slots D tc g A MC MS lsA C)
theorem z_aaldP {a b z : Nat} {i : Int32} (hd : decode X.2.1 pc = .ok (.aaload, 1)) (ha : a < n) (hk : K a = (3, z)) (hi : vp_in i z) (hr : R a i.toNatClampNeg = some b) (kk : Zf X mc ms (pc + 1) ls (.ref b :: st) (n, K, I, L, R) Q) : Zf X mc ms pc ls (.int i :: .ref a :: st) (n, K, I, L, R) Q :=
  fun p l e Rm s m args below meth c H locs cells slots D tc g A MC MS lsA C => va_aldq C.1.1 C.1.2.1 C.2.2.1.1 C.2.2.2.1.1.1 a 3 (by rw [zW_at ha, zE_p hk]) rfl hi hd (by rw [hr]; exact kk p l e Rm s m args below meth c H locs cells slots D tc g A MC MS lsA C)
theorem z_aaldQ {a b z : Nat} {i : Int32} (hd : decode X.2.1 pc = .ok (.aaload, 1)) (ha : a < n) (hk : K a = (4, z)) (hi : vp_in i z) (hr : R a i.toNatClampNeg = some b) (kk : Zf X mc ms (pc + 1) ls (.ref b :: st) (n, K, I, L, R) Q) : Zf X mc ms pc ls (.int i :: .ref a :: st) (n, K, I, L, R) Q :=
  fun p l e Rm s m args below meth c H locs cells slots D tc g A MC MS lsA C => va_aldq C.1.1 C.1.2.1 C.2.2.1.1 C.2.2.2.1.1.1 a 4 (by rw [zW_at ha, zE_q hk]) rfl hi hd (by rw [hr]; exact kk p l e Rm s m args below meth c H locs cells slots D tc g A MC MS lsA C)
theorem z_alenI {a z : Nat} {v : Int32} (hd : decode X.2.1 pc = .ok (.arraylength, 1)) (ha : a < n) (hk : K a = (0, z)) (hv : Int32.ofNat z = v) (kk : Zf X mc ms (pc + 1) ls (.int v :: st) (n, K, I, L, R) Q) : Zf X mc ms pc ls (.ref a :: st) (n, K, I, L, R) Q :=
  fun p l e Rm s m args below meth c H locs cells slots D tc g A MC MS lsA C => va_alen C.1.1 C.1.2.1 C.2.2.1.1 C.2.2.2.1.1.1 a 0 (by rw [zW_at ha, zE_i hk]) rfl hv hd (kk p l e Rm s m args below meth c H locs cells slots D tc g A MC MS lsA C)
theorem z_alenC {a z : Nat} {v : Int32} (hd : decode X.2.1 pc = .ok (.arraylength, 1)) (ha : a < n) (hk : K a = (2, z)) (hv : Int32.ofNat z = v) (kk : Zf X mc ms (pc + 1) ls (.int v :: st) (n, K, I, L, R) Q) : Zf X mc ms pc ls (.ref a :: st) (n, K, I, L, R) Q :=
  fun p l e Rm s m args below meth c H locs cells slots D tc g A MC MS lsA C => va_alen C.1.1 C.1.2.1 C.2.2.1.1 C.2.2.2.1.1.1 a 2 (by rw [zW_at ha, zE_c hk]) rfl hv hd (kk p l e Rm s m args below meth c H locs cells slots D tc g A MC MS lsA C)
theorem z_alenP {a z : Nat} {v : Int32} (hd : decode X.2.1 pc = .ok (.arraylength, 1)) (ha : a < n) (hk : K a = (3, z)) (hv : Int32.ofNat z = v) (kk : Zf X mc ms (pc + 1) ls (.int v :: st) (n, K, I, L, R) Q) : Zf X mc ms pc ls (.ref a :: st) (n, K, I, L, R) Q :=
  fun p l e Rm s m args below meth c H locs cells slots D tc g A MC MS lsA C => va_alen C.1.1 C.1.2.1 C.2.2.1.1 C.2.2.2.1.1.1 a 3 (by rw [zW_at ha, zE_p hk]) rfl hv hd (kk p l e Rm s m args below meth c H locs cells slots D tc g A MC MS lsA C)
theorem z_alenQ {a z : Nat} {v : Int32} (hd : decode X.2.1 pc = .ok (.arraylength, 1)) (ha : a < n) (hk : K a = (4, z)) (hv : Int32.ofNat z = v) (kk : Zf X mc ms (pc + 1) ls (.int v :: st) (n, K, I, L, R) Q) : Zf X mc ms pc ls (.ref a :: st) (n, K, I, L, R) Q :=
  fun p l e Rm s m args below meth c H locs cells slots D tc g A MC MS lsA C => va_alen C.1.1 C.1.2.1 C.2.2.1.1 C.2.2.2.1.1.1 a 4 (by rw [zW_at ha, zE_q hk]) rfl hv hd (kk p l e Rm s m args below meth c H locs cells slots D tc g A MC MS lsA C)
/-- an array's cell put anew -/
theorem z_wast {h h2 : ZH} {p : Program} {Rm : Room} {s : State} {m : MethodId} {args : Array Value} {meth : Method} {c : Code} {H H1 : Heap} {locs : List Loc} {cells slots : Nat} {D : va_G} {tc : Nat → ClassId} {g : ZG} {A : Nat → Prop} {MC MS a j : Nat} {lsA : Array Slot} {e : va_E}
    (C : zAt X mc ms ls h p Rm s m args meth c H locs cells slots D tc g A MC MS lsA) (ha : a < h.1) (hn : h2.1 = h.1) (ho : ∀ b, b ≠ a → zE tc g h2 b = zE tc g h b) (he : zE tc g h2 a = e) (hat : va_at D vwCl (g.1 a, e) H1) (z : H1.size = H.size) (oq : ∀ q : Nat, q ≠ g.1 a → H1[q]? = H[q]?) : zAt X mc ms ls h2 p Rm s m args meth c H1 (locs ++ [⟨g.1 a, j⟩]) cells slots D tc g A MC MS lsA := by
  have hw : (zW tc g h)[a]? = some (g.1 a, zE tc g h a) := zW_at ha
  have hP := C.2.2.2.1.1.1.set C.2.2.2.1.2.1 hw hat oq
  have hD := C.2.2.2.1.2.1.set (e := e) hw
  rw [zW_set ha hn ho he] at hP hD
  exact C.hp hn z hP hD (C.2.2.2.1.2.2.put z oq (C.2.2.2.1.2.1.2 a _ hw))
theorem z_iast {a z : Nat} {i x : Int32} (hd : decode X.2.1 pc = .ok (.iastore, 1)) (ha : a < n) (hk : K a = (0, z)) (hi : vp_in i z) (kk : Zf X mc ms (pc + 1) ls st (n, K, zu I a i.toNatClampNeg x, L, R) Q) : Zf X mc ms pc ls (.int x :: .int i :: .ref a :: st) (n, K, I, L, R) Q := by
  intro p l e Rm s m args below meth c H locs cells slots D tc g A MC MS lsA C
  have hw : (zW tc g (n, K, I, L, R))[a]? = some (g.1 a, .inl (tc 0, z, .inl (I a))) := by rw [zW_at ha, zE_i hk]
  refine W.iast C.1.1 C.1.2.1 (C.2.2.2.1.1.1 a _ hw) ((C.2.2.1.1.2 0 (tc 0, .int) rfl).1 z (fun j => .int (I a j))) (fun q => by cases q) (by show ¬ (i < 0 ∨ (arrV _ _ _).slots.size ≤ _); rw [arrV_size]; exact hi) rfl rfl hd fun H1 e1 z1 oq => ?_
  refine kk p l e Rm s m args below meth c H1 _ cells slots D tc g A MC MS lsA (z_wast (e := .inl (tc 0, z, .inl (va_up (I a) i.toNatClampNeg x))) C ha rfl (fun b hb => zE_I hb) (by rw [zE_i hk, zu_at]) ?_ z1 oq)
  show H1[g.1 a]? = some (vp_cell _ _)
  rw [e1, vp_cell_i, vp_cell_i, arrV_store]
  congr 2
  funext q
  by_cases hq : q = i.toNatClampNeg
  · subst hq
    simp [updV, va_up]
  · simp [updV, va_up, hq]
theorem z_cast {a z : Nat} {i x : Int32} (hd : decode X.2.1 pc = .ok (.castore, 1)) (ha : a < n) (hk : K a = (2, z)) (hi : vp_in i z) (kk : Zf X mc ms (pc + 1) ls st (n, K, zu I a i.toNatClampNeg (vp_nar .char x), L, R) Q) : Zf X mc ms pc ls (.int x :: .int i :: .ref a :: st) (n, K, I, L, R) Q := by
  intro p l e Rm s m args below meth c H locs cells slots D tc g A MC MS lsA C
  have hw : (zW tc g (n, K, I, L, R))[a]? = some (g.1 a, .inl (tc 2, z, .inl (I a))) := by rw [zW_at ha, zE_c hk]
  refine W.cast C.1.1 C.1.2.1 (C.2.2.2.1.1.1 a _ hw) ((C.2.2.1.1.2 2 (tc 2, .char) rfl).1 z (fun j => .int (I a j))) (fun q => by cases q) (by show ¬ (i < 0 ∨ (arrV _ _ _).slots.size ≤ _); rw [arrV_size]; exact hi) rfl rfl hd fun H1 e1 z1 oq => ?_
  refine kk p l e Rm s m args below meth c H1 _ cells slots D tc g A MC MS lsA (z_wast (e := .inl (tc 2, z, .inl (va_up (I a) i.toNatClampNeg (vp_nar .char x)))) C ha rfl (fun b hb => zE_I hb) (by rw [zE_c hk, zu_at]) ?_ z1 oq)
  show H1[g.1 a]? = some (vp_cell _ _)
  rw [e1, vp_cell_i, vp_cell_i, arrV_store]
  congr 2
  funext q
  by_cases hq : q = i.toNatClampNeg
  · subst hq
    simp [updV, va_up, vp_nar]
    try rfl
  · simp [updV, va_up, hq]
theorem z_last {a z : Nat} {i : Int32} {x : Int64} (hd : decode X.2.1 pc = .ok (.lastore, 1)) (ha : a < n) (hk : K a = (1, z)) (hi : vp_in i z) (kk : Zf X mc ms (pc + 1) ls st (n, K, I, zu L a i.toNatClampNeg x, R) Q) : Zf X mc ms pc ls (.long x :: .int i :: .ref a :: st) (n, K, I, L, R) Q := by
  intro p l e Rm s m args below meth c H locs cells slots D tc g A MC MS lsA C
  have hw : (zW tc g (n, K, I, L, R))[a]? = some (g.1 a, .inl (tc 1, z, .inr (.inl (L a)))) := by rw [zW_at ha, zE_l hk]
  refine W.last C.1.1 C.1.2.1 (C.2.2.2.1.1.1 a _ hw) ((C.2.2.1.1.2 1 (tc 1, .long) rfl).1 z (fun j => .long (L a j))) (fun q => by cases q) (by show ¬ (i < 0 ∨ (arrV _ _ _).slots.size ≤ _); rw [arrV_size]; exact hi) rfl rfl hd fun H1 e1 z1 oq => ?_
  refine kk p l e Rm s m args below meth c H1 _ cells slots D tc g A MC MS lsA (z_wast (e := .inl (tc 1, z, .inr (.inl (va_up (L a) i.toNatClampNeg x)))) C ha rfl (fun b hb => zE_L hb) (by rw [zE_l hk, zu_at]) ?_ z1 oq)
  show H1[g.1 a]? = some (vp_cell _ _)
  rw [e1, vp_cell_l, vp_cell_l, arrV_store]
  congr 2
  funext q
  by_cases hq : q = i.toNatClampNeg
  · subst hq
    simp [updV, va_up]
  · simp [updV, va_up, hq]
/-- a reference into a row of objects: t0 the row's type, ci the object's class -/
theorem z_waast {p : Program} {l : Launch} {e : Env} {Rm : Room} {s : State} {m : MethodId} {args : Array Value} {below : List Frame} {meth : Method} {c : Code} {H : Heap} {locs : List Loc} {cells slots : Nat} {D : va_G} {tc : Nat → ClassId} {g : ZG} {A : Nat → Prop} {MC MS : Nat} {lsA : Array Slot} {a b z y t0 ci : Nat} {cA : ClassId} {r : vw_C} {i : Int32} {Qs : State → Prop} {rest : List Value}
    (C : zAt X mc ms ls (n, K, I, L, R) p Rm s m args meth c H locs cells slots D tc g A MC MS lsA) (hd : decode X.2.1 pc = .ok (.aastore, 1)) (ha : a < n) (hb : b < n) (ht : (zty tc)[t0]? = some (cA, .object r.1)) (hea : zE tc g (n, K, I, L, R) a = .inl (cA, z, .inr (.inr (.inr (.inr (fun j => (R a j).map g.1)))))) (heb : zE tc g (n, K, I, L, R) b = .inr (ci, zFg g (I b) (R b) 0 (zT ci)))
    (hea2 : zE tc g (n, K, I, L, zu R a i.toNatClampNeg (some b)) a = .inl (cA, z, .inr (.inr (.inr (.inr (fun j => ((zu R a i.toNatClampNeg (some b)) a j).map g.1)))))) (hc : vwCl[ci]? = some r) (hi : vp_in i z)
    (kk : ∀ (H1 : Heap) (locs1 : List Loc), zAt X mc ms ls (n, K, I, L, zu R a i.toNatClampNeg (some b)) p Rm s m args meth c H1 locs1 cells slots D tc g A MC MS lsA → W p l e Rm s m args below meth c H1 locs1 cells slots Qs (F0 m (pc + 1) lsA rest)) : W p l e Rm s m args below meth c H locs cells slots Qs (F0 m pc lsA (.ref (g.1 b) :: .int i :: .ref (g.1 a) :: rest)) := by
  have hlt : i.toNatClampNeg < z := Nat.not_le.mp fun q => hi (Or.inr q)
  have h0 : ¬ i < 0 := fun q => hi (Or.inl q)
  have hK := C.2.2.1.1
  have hP := C.2.2.2.1.1.1
  have hwa : (zW tc g (n, K, I, L, R))[a]? = some (g.1 a, .inl (cA, z, .inr (.inr (.inr (.inr (fun j => (R a j).map g.1)))))) := by rw [zW_at ha, hea]
  have hwb : (zW tc g (n, K, I, L, R))[b]? = some (g.1 b, .inr (ci, zFg g (I b) (R b) 0 (zT ci))) := by rw [zW_at hb, heb]
  obtain ⟨r', hr', cellV, g1, g2, g3, -⟩ := hP b _ hwb
  have hcls := (hK.1 ci r hc).2
  obtain ⟨kA, comp, k1, k2, k3, -⟩ := (hK.2 t0 _ ht).2
  have hcomp : comp = D.1 ci := Option.some.inj (k3.symm.trans hcls.1)
  subst hcomp
  obtain ⟨kC, hkC, -⟩ := hcls.2
  refine W.aast C.1.1 C.1.2.1 (hP a _ hwa) (fun q h => by cases h) (fun h => by cases h) k1 k2 rfl hkC ⟨h0, by show _ < (arrV _ _ _).slots.size; rw [arrV_size]; exact hlt⟩ g1 (fun q h => by rw [g3] at h; cases h) (by rw [g2]; exact hkC) (by rw [g2]; exact va_assign hcls) rfl rfl hd fun H1 e1 z1 oq => ?_
  refine kk H1 _ (z_wast C ha rfl (fun b hb => zE_R hb) hea2 ?_ z1 oq)
  show H1[g.1 a]? = some (vp_cell _ _)
  rw [e1, vp_cell_q, vp_cell_q, arrV_store]
  congr 2
  funext q
  by_cases hq : q = i.toNatClampNeg
  · subst hq
    simp [updV, zu, va_up, va_rf]
  · simp [updV, zu, va_up, hq]
theorem z_aastP {a b z y : Nat} {i : Int32} (hd : decode X.2.1 pc = .ok (.aastore, 1)) (ha : a < n) (hk : K a = (3, z)) (hb : b < n) (hkb : K b = (7, y)) (hi : vp_in i z) (kk : Zf X mc ms (pc + 1) ls st (n, K, I, L, zu R a i.toNatClampNeg (some b)) Q) : Zf X mc ms pc ls (.ref b :: .int i :: .ref a :: st) (n, K, I, L, R) Q :=
  fun p l e Rm s m args below meth c H locs cells slots D tc g A MC MS lsA C => z_waast (y := y) (t0 := 3) (ci := 2) (r := (RX2, TX2, 5)) C hd ha hb rfl (zE_p hk) (zE_o hkb) (zE_p hk) rfl hi (fun H1 locs1 C1 => kk p l e Rm s m args below meth c H1 locs1 cells slots D tc g A MC MS lsA C1)
theorem z_aastQ {a b z y : Nat} {i : Int32} (hd : decode X.2.1 pc = .ok (.aastore, 1)) (ha : a < n) (hk : K a = (4, z)) (hb : b < n) (hkb : K b = (6, y)) (hi : vp_in i z) (kk : Zf X mc ms (pc + 1) ls st (n, K, I, L, zu R a i.toNatClampNeg (some b)) Q) : Zf X mc ms pc ls (.ref b :: .int i :: .ref a :: st) (n, K, I, L, R) Q :=
  fun p l e Rm s m args below meth c H locs cells slots D tc g A MC MS lsA C => z_waast (y := y) (t0 := 4) (ci := 1) (r := (RX1, TX1, 10)) C hd ha hb rfl (zE_q hk) (zE_o hkb) (zE_q hk) rfl hi (fun H1 locs1 C1 => kk p l e Rm s m args below meth c H1 locs1 cells slots D tc g A MC MS lsA C1)
end ZHR
