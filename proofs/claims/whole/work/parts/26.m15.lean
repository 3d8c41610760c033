def mwords (w : Nat) : Int64 := ([974156, 1825, 1176170, 1891, 31692, 1167067, 22745289, 665385, 1132078311, 5538, 426554, 1633] : List Int64).getD w 0
theorem mwords_inj : ∀ a, a < 12 → ∀ b, b < 12 → mwords a = mwords b → a = b := by decide +kernel
def isMark (k : Nat) : Bool := k == 40 || k == 41 || k == 59 || k == 60 || k == 61 || k == 43 || k == 45
/-- one token of the reference: kind k (0 the end, 1 none, 2 a number, 3 to 14 the words, a mark by its sign), value tv -/
def mtk (s : Int32) (v : Int64) (k tv : Nat) : Prop :=
  (k = 0 ∧ s = 0) ∨ (k = 2 ∧ s = 2 ∧ v = lN tv ∧ tv ≤ 9999) ∨ (3 ≤ k ∧ k ≤ 14 ∧ s = 1 ∧ v = mwords (k - 3)) ∨ (isMark k = true ∧ s = 3 ∧ v = lN k) ∨ (k = 1 ∧ (s = 4 ∨ (s = 1 ∧ ∀ w, w < 12 → v ≠ mwords w)))
theorem isMark_or {k : Nat} (h : isMark k = true) : k = 40 ∨ k = 41 ∨ k = 59 ∨ k = 60 ∨ k = 61 ∨ k = 43 ∨ k = 45 := by
  simp [isMark] at h
  omega
theorem mtk_sign {s : Int32} {v : Int64} {k tv c : Nat} (h : mtk s v k tv) (hc : isMark c = true) : (s = 3 ∧ v = (nI c).toInt64) ↔ k = c := by
  have hc2 := isMark_or hc
  rw [nI_l (by omega)]
  rcases h with ⟨h1, h2⟩ | ⟨h1, h2, -⟩ | ⟨h1, h1', h2, -⟩ | ⟨h1, h2, h3⟩ | ⟨h1, h2 | ⟨h2, -⟩⟩
  · subst h2; subst h1
    exact ⟨fun q => absurd q.1 (by decide), fun q => by omega⟩
  · subst h2; subst h1
    exact ⟨fun q => absurd q.1 (by decide), fun q => by omega⟩
  · subst h2
    exact ⟨fun q => absurd q.1 (by decide), fun q => by omega⟩
  · subst h2; subst h3
    have hk2 := isMark_or h1
    exact ⟨fun q => (lN_eq (by omega) (by omega)).mp q.2, fun q => ⟨rfl, by rw [q]⟩⟩
  · subst h2; subst h1
    exact ⟨fun q => absurd q.1 (by decide), fun q => by omega⟩
  · subst h2; subst h1
    exact ⟨fun q => absurd q.1 (by decide), fun q => by omega⟩
theorem mtk_word {s : Int32} {v : Int64} {k tv w : Nat} (h : mtk s v k tv) (hw : w < 12) : (s = 1 ∧ v = mwords w) ↔ k = 3 + w := by
  rcases h with ⟨h1, h2⟩ | ⟨h1, h2, -⟩ | ⟨h1, h1', h2, h3⟩ | ⟨h1, h2, h3⟩ | ⟨h1, h2 | ⟨h2, h3⟩⟩
  · subst h2; subst h1
    exact ⟨fun q => absurd q.1 (by decide), fun q => by omega⟩
  · subst h2; subst h1
    exact ⟨fun q => absurd q.1 (by decide), fun q => by omega⟩
  · subst h2; subst h3
    exact ⟨fun q => by have := mwords_inj (k - 3) (by omega) w hw q.2; omega, fun q => ⟨rfl, by rw [show k - 3 = w by omega]⟩⟩
  · subst h2
    have hk2 := isMark_or h1
    exact ⟨fun q => absurd q.1 (by decide), fun q => by omega⟩
  · subst h2; subst h1
    exact ⟨fun q => absurd q.1 (by decide), fun q => by omega⟩
  · subst h2; subst h1
    exact ⟨fun q => absurd q.2 (h3 w hw), fun q => by omega⟩
theorem mtk_num {s : Int32} {v : Int64} {k tv : Nat} (h : mtk s v k tv) : s = 2 ↔ k = 2 := by
  rcases h with ⟨h1, h2⟩ | ⟨h1, h2, -⟩ | ⟨h1, h1', h2, h3⟩ | ⟨h1, h2, h3⟩ | ⟨h1, h2 | ⟨h2, h3⟩⟩
  · subst h2; subst h1; decide
  · subst h2; subst h1; decide
  · subst h2
    exact ⟨fun q => absurd q (by decide), fun q => by omega⟩
  · subst h2
    have hk2 := isMark_or h1
    exact ⟨fun q => absurd q (by decide), fun q => by omega⟩
  · subst h2; subst h1; decide
  · subst h2; subst h1; decide
theorem mtk_end {s : Int32} {v : Int64} {k tv : Nat} (h : mtk s v k tv) : s = 0 ↔ k = 0 := by
  rcases h with ⟨h1, h2⟩ | ⟨h1, h2, -⟩ | ⟨h1, h1', h2, h3⟩ | ⟨h1, h2, h3⟩ | ⟨h1, h2 | ⟨h2, h3⟩⟩
  · subst h2; subst h1; decide
  · subst h2; subst h1; decide
  · subst h2
    exact ⟨fun q => absurd q (by decide), fun q => by omega⟩
  · subst h2
    have hk2 := isMark_or h1
    exact ⟨fun q => absurd q (by decide), fun q => by omega⟩
  · subst h2; subst h1; decide
  · subst h2; subst h1; decide
theorem mtk_val {s : Int32} {v : Int64} {tv : Nat} (h : mtk s v 2 tv) : v = lN tv ∧ tv ≤ 9999 := by
  rcases h with ⟨h1, h2⟩ | ⟨h1, h2, h3⟩ | ⟨h1, h1', h2, h3⟩ | ⟨h1, h2, h3⟩ | ⟨h1, h2⟩
  · omega
  · exact h3
  · omega
  · simp [isMark] at h1
  · omega
/-- the tokens of the reference: n of them, and the end -/
def mTok (I : Nat → Nat → Int32) (L : Nat → Nat → Int64) (n : Nat) (tk tp tv : Nat → Nat) : Prop := n ≤ 600 ∧ tk n = 0 ∧ (∀ i, i ≤ n → mtk (I 2 i) (L 4 i) (tk i) (tv i) ∧ I 3 i = nI (tp i) ∧ tp i ≤ 600) ∧ (∀ i, i < n → tk i ≠ 0) ∧ ∀ w, w < 12 → L 5 w = mwords w
theorem mTok_msg {I : Nat → Nat → Int32} {L : Nat → Nat → Int64} {n : Nat} {tk tp tv : Nat → Nat} (h : mTok I L n tk tp tv) {A c : Nat} (hA : A ≤ n) (hc : isMark c = true) (h8 : I 0 8 = 0) : msg I L A (nI c) = decide (tk A = c) := by
  have h1 := mtk_sign (h.2.2.1 A hA).1 hc
  unfold msg
  rw [h8]
  by_cases h2 : tk A = c
  · have h3 := h1.mpr h2
    rw [h3.1, h3.2]; simp [h2]
  · rw [decide_eq_false h2]
    by_cases h4 : I 2 A = 3
    · rw [decide_eq_false (fun q => h2 (h1.mp ⟨h4, q⟩))]; simp
    · rw [decide_eq_false h4]; simp
theorem mTok_mwd {I : Nat → Nat → Int32} {L : Nat → Nat → Int64} {n : Nat} {tk tp tv : Nat → Nat} (h : mTok I L n tk tp tv) {A w : Nat} (hA : A ≤ n) (hw : w < 12) (h8 : I 0 8 = 0) : mwd I L A w = decide (tk A = 3 + w) := by
  have h1 := mtk_word (h.2.2.1 A hA).1 hw
  unfold mwd
  rw [h8, h.2.2.2.2 w hw]
  by_cases h2 : tk A = 3 + w
  · have h3 := h1.mpr h2
    rw [h3.1, h3.2]; simp [h2]
  · rw [decide_eq_false h2]
    by_cases h4 : I 2 A = 1
    · rw [decide_eq_false (fun q => h2 (h1.mp ⟨h4, q⟩))]; simp
    · rw [decide_eq_false h4]; simp
theorem mTok_cong {I J : Nat → Nat → Int32} {L : Nat → Nat → Int64} {n : Nat} {tk tp tv : Nat → Nat} (h : mTok I L n tk tp tv) (h2 : J 2 = I 2) (h3 : J 3 = I 3) : mTok J L n tk tp tv := by
  obtain ⟨a, b, c, d, e⟩ := h
  exact ⟨a, b, fun i hi => by rw [h2, h3]; exact c i hi, d, e⟩
/-- the name that stands there: 0 to 7, or none -/
theorem mpw_eq {I : Nat → Nat → Int32} {L : Nat → Nat → Int64} {n : Nat} {tk tp tv : Nat → Nat} (h : mTok I L n tk tp tv) {A : Nat} (hA : A ≤ n) (h8 : I 0 8 = 0) : ∀ (m k : Nat), k + m = 8 → mpw I L A k m = if 7 + k ≤ tk A ∧ tk A ≤ 14 then nI (tk A - 7) else -1
  | 0, k, hk => by
    unfold mpw
    rw [if_neg (by omega)]
  | m + 1, k, hk => by
    unfold mpw
    rw [mTok_mwd h hA (by omega) h8, mpw_eq h hA h8 m (k + 1) (by omega)]
    by_cases e : tk A = 3 + (4 + k)
    · rw [decide_eq_true e, if_pos rfl, if_pos (by omega), show tk A - 7 = k by omega]
    · rw [decide_eq_false e, if_neg (by decide)]
      by_cases e2 : 7 + (k + 1) ≤ tk A ∧ tk A ≤ 14
      · rw [if_pos e2, if_pos (by omega)]
      · rw [if_neg e2, if_neg (by omega)]
/-! the reference's reader: place, fault, codes, depth, what waits at each depth -/
abbrev MP : Type := Nat × Int32 × List (Nat × Int32) × Nat × (Nat → Nat) × (Nat → Nat) × (Nat → Nat)
def mRep (I : Nat → Nat → Int32) (b : Nat) (s : MP) : Prop := I 0 7 = nI s.1 ∧ I 0 8 = s.2.1 ∧ I 0 16 = nI b ∧ I 0 17 = nI s.2.2.1.length ∧ (∀ (j : Nat) (c : Nat × Int32), s.2.2.1[j]? = some c → I 9 (660 * b + j) = nI c.1 ∧ I 10 (660 * b + j) = c.2) ∧ I 0 18 = nI s.2.2.2.1 ∧ ∀ k, k ≤ s.2.2.2.1 → I 11 k = nI (s.2.2.2.2.1 k) ∧ I 12 k = nI (s.2.2.2.2.2.1 k) ∧ I 13 k = nI (s.2.2.2.2.2.2 k)
/-- what the reader leaves alone -/
def mFr (I J : Nat → Nat → Int32) (b : Nat) : Prop := (∀ a, a ≠ 0 → a ≠ 9 → a ≠ 10 → a ≠ 11 → a ≠ 12 → a ≠ 13 → J a = I a) ∧ (∀ k, k ≠ 7 → k ≠ 8 → k ≠ 17 → k ≠ 18 → J 0 k = I 0 k) ∧ ∀ j, (j < 660 * b ∨ 660 * b + 660 ≤ j) → J 9 j = I 9 j ∧ J 10 j = I 10 j
theorem mFr.rf (I : Nat → Nat → Int32) (b : Nat) : mFr I I b := ⟨fun _ _ _ _ _ _ _ => rfl, fun _ _ _ _ _ => rfl, fun _ _ => ⟨rfl, rfl⟩⟩
theorem mFr.tr {I J K : Nat → Nat → Int32} {b : Nat} (h : mFr I J b) (h2 : mFr J K b) : mFr I K b :=
  ⟨fun a h0 h9 h10 h11 h12 h13 => (h2.1 a h0 h9 h10 h11 h12 h13).trans (h.1 a h0 h9 h10 h11 h12 h13), fun k h7 h8 h17 h18 => (h2.2.1 k h7 h8 h17 h18).trans (h.2.1 k h7 h8 h17 h18), fun j hj => ⟨(h2.2.2 j hj).1.trans (h.2.2 j hj).1, (h2.2.2 j hj).2.trans (h.2.2 j hj).2⟩⟩
theorem mRep_emit {I : Nat → Nat → Int32} {b A : Nat} {f : Int32} {out : List (Nat × Int32)} {d : Nat} {sW gW aW : Nat → Nat} (h : mRep I b (A, f, out, d, sW, gW, aW)) (c : Nat) (a : Int32) : mRep (mem I b out.length (nI c) a) b (A, f, out ++ [(c, a)], d, sW, gW, aW) := by
  obtain ⟨h1, h2, h3, h4, h5, h6, h7⟩ := h
  refine ⟨h1, h2, h3, ?_, fun j x hj => ?_, h6, h7⟩
  · show nI (out.length + 1) = nI (out ++ [(c, a)]).length
    simp
  · dsimp only at hj
    unfold mem
    rw [zu_ne _ _ _ (by decide), zu_ne _ _ _ (by decide), zu_apply, zu_ne (zu (zu I 9 (660 * b + out.length) (nI c)) 10 (660 * b + out.length) a) _ _ (by decide), zu_apply, zu_ne I _ _ (by decide)]
    by_cases e : j < out.length
    · rw [List.getElem?_append_left e] at hj
      rw [if_neg (by omega), if_neg (by omega)]
      exact h5 j x hj
    · rw [List.getElem?_append_right (by omega)] at hj
      have hz : j - out.length < 1 := (List.getElem?_eq_some_iff.mp hj).1
      have hj2 : j = out.length := by omega
      rw [hj2, Nat.sub_self] at hj
      cases hj
      rw [hj2, if_pos ⟨rfl, rfl⟩, if_pos ⟨rfl, rfl⟩]
      exact ⟨rfl, rfl⟩
theorem mFr_emit {I : Nat → Nat → Int32} {b k : Nat} {c a : Int32} (hk : k < 660) : mFr I (mem I b k c a) b := by
  refine ⟨fun q h0 h9 h10 h11 h12 h13 => ?_, fun q h7 h8 h17 h18 => ?_, fun j hj => ⟨?_, ?_⟩⟩
  · unfold mem
    rw [zu_ne _ _ _ h0, zu_ne _ _ _ h10, zu_ne _ _ _ h9]
  · unfold mem
    rw [zu_apply, if_neg (by omega)]; rfl
  · unfold mem
    rw [zu_ne _ _ _ (by decide), zu_ne _ _ _ (by decide), zu_apply, if_neg (by omega)]
  · unfold mem
    rw [zu_ne _ _ _ (by decide), zu_apply, if_neg (by omega), zu_ne _ _ _ (by decide)]
theorem mRep_at {I : Nat → Nat → Int32} {b A : Nat} {s : Int32 × List (Nat × Int32) × Nat × (Nat → Nat) × (Nat → Nat) × (Nat → Nat)} (h : mRep I b (A, s)) (A2 : Nat) : mRep (zu I 0 7 (nI A2)) b (A2, s) := by
  obtain ⟨h1, h2, h3, h4, h5, h6, h7⟩ := h
  exact ⟨rfl, h2, h3, h4, h5, h6, h7⟩
theorem mFr_at {I : Nat → Nat → Int32} {b : Nat} {v : Int32} : mFr I (zu I 0 7 v) b := ⟨fun a h0 _ _ _ _ _ => zu_ne _ _ _ h0, fun k h7 _ _ _ => by rw [zu_apply, if_neg (by omega)], fun j _ => ⟨rfl, rfl⟩⟩
theorem mRep_f {I : Nat → Nat → Int32} {b A : Nat} {f : Int32} {s : List (Nat × Int32) × Nat × (Nat → Nat) × (Nat → Nat) × (Nat → Nat)} (h : mRep I b (A, f, s)) (f2 : Int32) : mRep (zu I 0 8 f2) b (A, f2, s) := by
  obtain ⟨h1, h2, h3, h4, h5, h6, h7⟩ := h
  exact ⟨h1, rfl, h3, h4, h5, h6, h7⟩
theorem mFr_f {I : Nat → Nat → Int32} {b : Nat} {v : Int32} : mFr I (zu I 0 8 v) b := ⟨fun a h0 _ _ _ _ _ => zu_ne _ _ _ h0, fun k _ h8 _ _ => by rw [zu_apply, if_neg (by omega)], fun j _ => ⟨rfl, rfl⟩⟩
theorem mRep_s {I : Nat → Nat → Int32} {b A : Nat} {f : Int32} {out : List (Nat × Int32)} {d : Nat} {sW gW aW : Nat → Nat} (h : mRep I b (A, f, out, d, sW, gW, aW)) (v : Nat) : mRep (zu I 11 d (nI v)) b (A, f, out, d, va_up sW d v, gW, aW) := by
  obtain ⟨h1, h2, h3, h4, h5, h6, h7⟩ := h
  refine ⟨h1, h2, h3, h4, h5, h6, fun k hk => ⟨?_, (h7 k hk).2⟩⟩
  show zu I 11 d (nI v) 11 k = nI (va_up sW d v k)
  rw [zu_apply]
  by_cases e : k = d
  · rw [if_pos ⟨rfl, e⟩, e, va_up_self]
  · rw [if_neg (by omega), va_up_ne _ _ e]; exact (h7 k hk).1
theorem mRep_g {I : Nat → Nat → Int32} {b A : Nat} {f : Int32} {out : List (Nat × Int32)} {d : Nat} {sW gW aW : Nat → Nat} (h : mRep I b (A, f, out, d, sW, gW, aW)) (v : Nat) : mRep (zu I 12 d (nI v)) b (A, f, out, d, sW, va_up gW d v, aW) := by
  obtain ⟨h1, h2, h3, h4, h5, h6, h7⟩ := h
  refine ⟨h1, h2, h3, h4, h5, h6, fun k hk => ⟨(h7 k hk).1, ?_, (h7 k hk).2.2⟩⟩
  show zu I 12 d (nI v) 12 k = nI (va_up gW d v k)
  rw [zu_apply]
  by_cases e : k = d
  · rw [if_pos ⟨rfl, e⟩, e, va_up_self]
  · rw [if_neg (by omega), va_up_ne _ _ e]; exact (h7 k hk).2.1
theorem mRep_a {I : Nat → Nat → Int32} {b A : Nat} {f : Int32} {out : List (Nat × Int32)} {d : Nat} {sW gW aW : Nat → Nat} (h : mRep I b (A, f, out, d, sW, gW, aW)) (v : Nat) : mRep (zu I 13 d (nI v)) b (A, f, out, d, sW, gW, va_up aW d v) := by
  obtain ⟨h1, h2, h3, h4, h5, h6, h7⟩ := h
  refine ⟨h1, h2, h3, h4, h5, h6, fun k hk => ⟨(h7 k hk).1, (h7 k hk).2.1, ?_⟩⟩
  show zu I 13 d (nI v) 13 k = nI (va_up aW d v k)
  rw [zu_apply]
  by_cases e : k = d
  · rw [if_pos ⟨rfl, e⟩, e, va_up_self]
  · rw [if_neg (by omega), va_up_ne _ _ e]; exact (h7 k hk).2.2
theorem mFr_w {I : Nat → Nat → Int32} {b r k : Nat} {v : Int32} (hr : r = 11 ∨ r = 12 ∨ r = 13) : mFr I (zu I r k v) b :=
  ⟨fun a _ _ _ _ _ _ => zu_ne _ _ _ (by omega), fun q _ _ _ _ => by rw [zu_ne _ _ _ (by omega)], fun j _ => by rw [zu_ne _ _ _ (by omega), zu_ne _ _ _ (by omega)]; exact ⟨rfl, rfl⟩⟩
theorem mRep_up {I : Nat → Nat → Int32} {b A : Nat} {f : Int32} {out : List (Nat × Int32)} {d : Nat} {sW gW aW : Nat → Nat} (h : mRep I b (A, f, out, d + 1, sW, gW, aW)) : mRep (zu I 0 18 (nI d)) b (A, f, out, d, sW, gW, aW) := by
  obtain ⟨h1, h2, h3, h4, h5, h6, h7⟩ := h
  exact ⟨h1, h2, h3, h4, h5, rfl, fun k hk => h7 k (by dsimp only at hk ⊢; omega)⟩
theorem mFr_d {I : Nat → Nat → Int32} {b : Nat} {v : Int32} : mFr I (zu I 0 18 v) b := ⟨fun a h0 _ _ _ _ _ => zu_ne _ _ _ h0, fun k _ _ _ h18 => by rw [zu_apply, if_neg (by omega)], fun j _ => ⟨rfl, rfl⟩⟩
/-- deeper, with nothing that waits there -/
theorem mRep_dn {I : Nat → Nat → Int32} {b A : Nat} {f : Int32} {out : List (Nat × Int32)} {d : Nat} {sW gW aW : Nat → Nat} (h : mRep I b (A, f, out, d, sW, gW, aW)) : mRep (mop3 (zu I 0 18 (nI (d + 1))) (d + 1)) b (A, f, out, d + 1, va_up sW (d + 1) 0, va_up gW (d + 1) 0, va_up aW (d + 1) 0) := by
  obtain ⟨h1, h2, h3, h4, h5, h6, h7⟩ := h
  refine ⟨h1, h2, h3, h4, h5, rfl, fun k hk => ?_⟩
  dsimp only at hk ⊢
  unfold mop3
  by_cases e : k = d + 1
  · subst e
    simp only [va_up_self]
    refine ⟨?_, ?_, ?_⟩
    · rw [zu_ne _ _ _ (by decide), zu_ne _ _ _ (by decide), zu_apply, if_pos ⟨rfl, rfl⟩]; rfl
    · rw [zu_ne _ _ _ (by decide), zu_apply, if_pos ⟨rfl, rfl⟩]; rfl
    · rw [zu_apply, if_pos ⟨rfl, rfl⟩]; rfl
  · rw [va_up_ne _ _ e, va_up_ne _ _ e, va_up_ne _ _ e]
    have := h7 k (by dsimp only; omega)
    refine ⟨?_, ?_, ?_⟩
    · rw [zu_ne _ _ _ (by decide), zu_ne _ _ _ (by decide), zu_apply, if_neg (by omega)]; exact this.1
    · rw [zu_ne _ _ _ (by decide), zu_apply, if_neg (by omega)]; exact this.2.1
    · rw [zu_apply, if_neg (by omega)]; exact this.2.2
theorem mFr_o {I : Nat → Nat → Int32} {b d : Nat} : mFr I (mop3 I d) b := (mFr_w (Or.inl rfl)).tr ((mFr_w (Or.inr (Or.inl rfl))).tr (mFr_w (Or.inr (Or.inr rfl))))
