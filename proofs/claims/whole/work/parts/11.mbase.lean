theorem zFd.g {own : String} {index ci k : Nat} {b fin : Bool} (h : zFd own index ci k b fin) : zFg2 own index ci k b := by
  obtain ⟨C, T, N, ty, h1, h2, h3, h4, -⟩ := h
  exact ⟨C, T, N, ty, h1, h2, h3, h4⟩
section ZB1
variable {X : ZX} {mc ms pc : Nat} {ls : Nat → Option Value} {st : List Value} {Q : Option Value → ZH → Prop} {n : Nat} {K : Nat → Nat × Nat} {I : Nat → Nat → Int32} {L : Nat → Nat → Int64} {R : Nat → Nat → Option Nat}
theorem z_gI {index ci k a z : Nat} (hf : zFg2 X.1 index ci k false) (hd : decode X.2.1 pc = .ok (.getfield index, 3)) (ha : a < n) (hk : K a = (ci + 5, z)) (kk : Zf X mc ms (pc + 3) ls (.int (I a k) :: st) (n, K, I, L, R) Q) : Zf X mc ms pc ls (.ref a :: st) (n, K, I, L, R) Q := by
  intro p l e Rm s m args below meth c H locs cells slots D tc g A MC MS lsA C
  obtain ⟨cC, T, N, ty, ⟨hc, hin, hty, hnm, hlen⟩, hkN, hb, hlink⟩ := hf
  have he : (zW tc g (n, K, I, L, R))[a]? = some (g.1 a, .inr (ci, zFg g (I a) (R a) 0 (zT ci))) := by rw [zW_at ha, zE_o hk]
  have hv := zFg_i g (I a) (R a) (zT ci) 0 k hb
  rw [Nat.zero_add] at hv
  exact va_get (C := cC) (T := T) (N := N) C.1.1 C.1.2.1 C.1.2.2.2.2.2.1 hin C.1.2.2.2.2.1 C.2.2.1.1 C.2.2.2.1.1.1 a he hc k hkN (C.1.2.2.2.2.2.1 _ hlink) (fun _ h => h) hv hd (kk p l e Rm s m args below meth c H locs cells slots D tc g A MC MS lsA C)
theorem z_gR {index ci k a b z : Nat} (hf : zFg2 X.1 index ci k true) (hd : decode X.2.1 pc = .ok (.getfield index, 3)) (ha : a < n) (hk : K a = (ci + 5, z)) (hr : R a k = some b) (kk : Zf X mc ms (pc + 3) ls (.ref b :: st) (n, K, I, L, R) Q) : Zf X mc ms pc ls (.ref a :: st) (n, K, I, L, R) Q := by
  intro p l e Rm s m args below meth c H locs cells slots D tc g A MC MS lsA C
  obtain ⟨cC, T, N, ty, ⟨hc, hin, hty, hnm, hlen⟩, hkN, hb, hlink⟩ := hf
  have he : (zW tc g (n, K, I, L, R))[a]? = some (g.1 a, .inr (ci, zFg g (I a) (R a) 0 (zT ci))) := by rw [zW_at ha, zE_o hk]
  have hv := zFg_r g (I a) (R a) (zT ci) 0 k hb
  rw [Nat.zero_add, hr] at hv
  exact va_get (C := cC) (T := T) (N := N) C.1.1 C.1.2.1 C.1.2.2.2.2.2.1 hin C.1.2.2.2.2.1 C.2.2.1.1 C.2.2.2.1.1.1 a he hc k hkN (C.1.2.2.2.2.2.1 _ hlink) (fun _ h => h) hv hd (kk p l e Rm s m args below meth c H locs cells slots D tc g A MC MS lsA C)
end ZB1
/-! the reference's zone: its object at 0, its rows at 1 to 34 -/
def mKl : List (Nat × Nat) := [(14, 0), (0, 600), (0, 602), (0, 602), (1, 602), (1, 12), (0, 2), (0, 32), (0, 32), (0, 1320), (0, 1320), (0, 7), (0, 7), (0, 7), (0, 8), (0, 660), (0, 6), (0, 6), (0, 144), (0, 144), (0, 6), (0, 6), (0, 6), (0, 6), (0, 6), (0, 60), (0, 60), (0, 60), (0, 60), (0, 60), (0, 60), (0, 60), (0, 60), (0, 60), (0, 16)]
def mRl : List (Option Nat) := [none, some 1, none, none, some 2, some 3, some 4, none, none, some 5, some 6, some 7, some 8, some 9, some 10, none, none, none, none, some 11, some 12, some 13, some 14, some 15, none, some 16, some 17, some 18, some 19, some 20, some 21, some 22, some 23, some 24, none, none, some 25, some 26, some 27, some 28, some 29, some 30, some 31, some 32, some 33, some 34]
def mK : Nat → Nat × Nat := fun a => mKl.getD a (0, 0)
def mR : Nat → Nat → Option Nat := fun a k => if a = 0 then mRl.getD k none else none
abbrev mh (I : Nat → Nat → Int32) (L : Nat → Nat → Int64) : ZH := (35, mK, I, L, mR)
/-- what a method of the reference does: its answer, its ints, its longs -/
abbrev mQ (r : Option Value) (I : Nat → Nat → Int32) (L : Nat → Nat → Int64) : Option Value → ZH → Prop := fun r2 h2 => r2 = r ∧ h2 = mh I L
