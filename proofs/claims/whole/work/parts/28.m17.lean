/-- the codes bring the height h to e -/
def mrp : List (Nat × Int32) → Nat → Nat → Prop
  | [], h, e => h = e
  | c :: cs, h, e => (c.1 = 1 ∧ ((∃ v, v ≤ 9999 ∧ c.2 = nI v) ∧ h < 16) ∧ mrp cs (h + 1) e) ∨ (c.1 = 2 ∧ ((∃ k, k < 8 ∧ c.2 = nI k) ∧ h < 16) ∧ mrp cs (h + 1) e) ∨ ((3 ≤ c.1 ∧ c.1 ≤ 7) ∧ 2 ≤ h ∧ mrp cs (h - 1) e)
theorem mrp_n : ∀ (cs : List (Nat × Int32)) (h e : Nat), 1 ≤ e → mrp cs h e → mrpn cs h
  | [], h, e, he, q => by
    simp only [mrp] at q
    simp only [mrpn]
    omega
  | c :: cs, h, e, he, q => by
    simp only [mrp] at q
    simp only [mrpn]
    rcases q with ⟨q1, -, q2⟩ | ⟨q1, q3, q2⟩ | ⟨q1, q3, q2⟩
    · exact Or.inl ⟨q1, mrp_n cs _ e he q2⟩
    · exact Or.inr (Or.inl ⟨q1, q3.1, mrp_n cs _ e he q2⟩)
    · exact Or.inr (Or.inr ⟨q1, q3, mrp_n cs _ e he q2⟩)
theorem mrp_app : ∀ (cs ds : List (Nat × Int32)) (h x e : Nat), mrp cs h x → mrp ds x e → mrp (cs ++ ds) h e
  | [], ds, h, x, e, q, p => by
    simp only [mrp] at q
    subst q; exact p
  | c :: cs, ds, h, x, e, q, p => by
    simp only [mrp] at q
    simp only [List.cons_append, mrp]
    rcases q with ⟨q1, q3, q2⟩ | ⟨q1, q3, q2⟩ | ⟨q1, q3, q2⟩
    · exact Or.inl ⟨q1, q3, mrp_app cs ds _ x e q2 p⟩
    · exact Or.inr (Or.inl ⟨q1, q3, mrp_app cs ds _ x e q2 p⟩)
    · exact Or.inr (Or.inr ⟨q1, q3, mrp_app cs ds _ x e q2 p⟩)
theorem mrp_op {o : List (Nat × Int32)} {c h : Nat} (q : mrp o 0 (h + 2)) (h3 : 3 ≤ c) (h7 : c ≤ 7) : mrp (o ++ [(c, (0 : Int32))]) 0 (h + 1) :=
  mrp_app o [(c, 0)] 0 (h + 2) (h + 1) q (by simp only [mrp]; exact Or.inr (Or.inr ⟨⟨h3, h7⟩, by omega, by omega⟩))
theorem pnd_le (sW gW aW : Nat → Nat) : ∀ d, pnd sW gW aW d ≤ 3 * (d + 1)
  | 0 => by
    simp only [pnd]
    have := nz_1 (sW 0); have := nz_1 (gW 0); have := nz_1 (aW 0)
    omega
  | d + 1 => by
    have h := pnd_le sW gW aW d
    simp only [pnd]
    have := nz_1 (sW (d + 1)); have := nz_1 (gW (d + 1)); have := nz_1 (aW (d + 1))
    omega
def w3 (sW gW aW : Nat → Nat) : Prop := ∀ k, (sW k = 0 ∨ 3 ≤ sW k) ∧ (gW k = 0 ∨ 3 ≤ gW k) ∧ (aW k = 0 ∨ 3 ≤ aW k)
theorem up3 {f : Nat → Nat} {k d v : Nat} (h : f k = 0 ∨ 3 ≤ f k) (hv : v = 0 ∨ 3 ≤ v) : va_up f d v k = 0 ∨ 3 ≤ va_up f d v k := by unfold va_up; split <;> assumption
theorem w3_s {sW gW aW : Nat → Nat} (h : w3 sW gW aW) (d : Nat) {v : Nat} (hv : v = 0 ∨ 3 ≤ v) : w3 (va_up sW d v) gW aW := fun k => ⟨up3 (h k).1 hv, (h k).2⟩
theorem w3_g {sW gW aW : Nat → Nat} (h : w3 sW gW aW) (d : Nat) {v : Nat} (hv : v = 0 ∨ 3 ≤ v) : w3 sW (va_up gW d v) aW := fun k => ⟨(h k).1, up3 (h k).2.1 hv, (h k).2.2⟩
theorem w3_a {sW gW aW : Nat → Nat} (h : w3 sW gW aW) (d : Nat) {v : Nat} (hv : v = 0 ∨ 3 ≤ v) : w3 sW gW (va_up aW d v) := fun k => ⟨(h k).1, (h k).2.1, up3 (h k).2.2 hv⟩
theorem fltp_ne {tp : Nat → Nat} {k A : Nat} (hk : 1 ≤ k) (hk2 : k ≤ 15) (h : tp A ≤ 600) : ¬ fltp tp k A = 0 := by
  unfold fltp
  rw [show (0 : Int32) = nI 0 from rfl, nI_eq (by omega) (by omega)]
  omega
/-- behind a part: what stands before and after -/
def pI (n : Nat) (pre : List (Nat × Int32)) (A0 N0 : Nat) (s : MP) (e : Nat) : Prop := s.1 ≤ n ∧ A0 ≤ s.1 ∧ s.2.2.2.1 ≤ 5 ∧ psz s + A0 ≤ N0 + s.1 ∧ w7 s.2.2.2.2.1 s.2.2.2.2.2.1 s.2.2.2.2.2.2 ∧ w3 s.2.2.2.2.1 s.2.2.2.2.2.1 s.2.2.2.2.2.2 ∧ ∃ o, s.2.2.1 = pre ++ o ∧ (s.2.1 = 0 → mrp o 0 (pnd s.2.2.2.2.1 s.2.2.2.2.2.1 s.2.2.2.2.2.2 s.2.2.2.1 + e))
def pR (n : Nat) (pre : List (Nat × Int32)) (A0 N0 A1 : Nat) (r : MP × Bool) : Prop := (r.2 = true → r.1.2.1 = 0 ∧ A1 < r.1.1 ∧ pI n pre A0 N0 r.1 0) ∧ (r.2 = false → pI n pre A0 N0 r.1 1 ∧ (r.1.2.1 = 0 → pnd r.1.2.2.2.2.1 r.1.2.2.2.2.2.1 r.1.2.2.2.2.2.2 r.1.2.2.2.1 = 0 ∧ A1 ≤ r.1.1))
theorem pI_mk {n : Nat} {pre : List (Nat × Int32)} {A0 N0 A : Nat} {f : Int32} {out : List (Nat × Int32)} {d : Nat} {sW gW aW : Nat → Nat} {e : Nat} (h1 : A ≤ n) (h2 : A0 ≤ A) (h3 : d ≤ 5) (h4 : out.length + pnd sW gW aW d + A0 ≤ N0 + A) (h5 : w7 sW gW aW) (h6 : w3 sW gW aW) (h7 : ∃ o, out = pre ++ o ∧ (f = 0 → mrp o 0 (pnd sW gW aW d + e))) : pI n pre A0 N0 (A, f, out, d, sW, gW, aW) e := ⟨h1, h2, h3, h4, h5, h6, h7⟩
theorem lt_of_tk {n A c : Nat} {tk : Nat → Nat} (hn : tk n = 0) (hA : A ≤ n) (h : tk A = c) (hc : c ≠ 0) : A < n := by
  rcases Nat.lt_or_ge A n with q1 | q1
  · exact q1
  · have : A = n := by omega
    rw [this, hn] at h
    omega
theorem pr249 {n : Nat} {pre : List (Nat × Int32)} {A0 N0 A1 D : Nat} {tk tp : Nat → Nat} {rec : MP → MP × Bool} (hn : tk n = 0) (htp : ∀ i, i ≤ n → tp i ≤ 600) (hrec : ∀ (A : Nat) (f : Int32) (out : List (Nat × Int32)) (d : Nat) (sW gW aW : Nat → Nat), d < D → A1 ≤ A → pI n pre A0 N0 (A, f, out, d, sW, gW, aW) 1 → pR n pre A0 N0 A1 (rec (A, f, out, d, sW, gW, aW))) : ∀ (A : Nat) (out : List (Nat × Int32)) (d : Nat) (sW gW aW : Nat → Nat), d ≤ D → A1 ≤ A → sW d = 0 → gW d = 0 → aW d = 0 → pI n pre A0 N0 (A, 0, out, d, sW, gW, aW) 1 → pR n pre A0 N0 A1 (q249 tk tp rec (A, 0, out, d, sW, gW, aW)) := by
  intro A out d sW gW aW hD hA1 es eg ea hp
  obtain ⟨h1, h2, h3, h4, h5, h6, o, ho, hm⟩ := hp
  dsimp only at h1 h2 h3 h4 h5 h6 ho hm
  unfold psz at h4
  dsimp only at h4
  have hm := hm rfl
  rw [q249_e]
  have hb := pnd_b sW gW aW d
  rw [es, eg, ea, nz_0] at hb
  by_cases e0 : d = 0
  · rw [if_pos e0]
    subst e0
    refine ⟨fun q => (by cases q), fun _ => ⟨pI_mk h1 h2 h3 h4 h5 h6 ⟨o, ho, fun _ => hm⟩, fun _ => ⟨?_, hA1⟩⟩⟩
    rw [hb]; rfl
  · rw [if_neg e0]
    obtain ⟨q, rfl⟩ : ∃ q, d = q + 1 := ⟨d - 1, by omega⟩
    simp only [pnb, Nat.add_zero] at hb
    rw [hb] at h4 hm
    by_cases e1 : tk A = 41
    · have hlt := lt_of_tk hn h1 e1 (by decide)
      rw [if_pos e1]
      exact hrec _ _ _ _ _ _ _ (by omega) (by omega) (pI_mk (by omega) (by omega) (by omega) (by simp only [Nat.add_sub_cancel]; omega) h5 h6 ⟨o, ho, fun _ => hm⟩)
    · rw [if_neg e1]
      exact hrec _ _ _ _ _ _ _ (by omega) (by omega) (pI_mk (by omega) (by omega) (by omega) (by simp only [Nat.add_sub_cancel]; omega) h5 h6 ⟨o, ho, fun z => absurd z (fltp_ne (by decide) (by decide) (htp A h1))⟩)
theorem pr218 {n : Nat} {pre : List (Nat × Int32)} {A0 N0 A1 D : Nat} {tk tp : Nat → Nat} {rec : MP → MP × Bool} (hn : tk n = 0) (htp : ∀ i, i ≤ n → tp i ≤ 600) (hnx : ∀ (A : Nat) (out : List (Nat × Int32)) (d : Nat) (sW gW aW : Nat → Nat), d ≤ D → A1 ≤ A → sW d = 0 → gW d = 0 → aW d = 0 → pI n pre A0 N0 (A, 0, out, d, sW, gW, aW) 1 → pR n pre A0 N0 A1 (q249 tk tp rec (A, 0, out, d, sW, gW, aW))) : ∀ (A : Nat) (out : List (Nat × Int32)) (d : Nat) (sW gW aW : Nat → Nat), d ≤ D → A1 ≤ A → sW d = 0 → gW d = 0 → aW d = 0 → pI n pre A0 N0 (A, 0, out, d, sW, gW, aW) 1 → pR n pre A0 N0 A1 (q218 tk tp rec (A, 0, out, d, sW, gW, aW)) := by
  intro A out d sW gW aW hD hA1 es eg ea hp
  by_cases e1 : tk A = 6
  · obtain ⟨h1, h2, h3, h4, h5, h6, o, ho, hm⟩ := hp
    dsimp only at h1 h2 h3 h4 h5 h6 ho hm
    unfold psz at h4
    dsimp only at h4
    have hm := hm rfl
    have hb := pnd_b sW gW aW d
    have hb2 := pnd_a sW gW aW d 7
    rw [es, eg, ea, nz_0] at hb
    rw [es, eg, nz_0, nz_p (x := 7) (by decide)] at hb2
    have hlt := lt_of_tk hn h1 e1 (by decide)
    rw [q218_e, if_pos e1]
    refine ⟨fun _ => ⟨rfl, by dsimp only; omega, pI_mk (by omega) (by omega) (by omega) (by omega) (w7_a h5 d (by decide)) (w3_a h6 d (by decide)) ⟨o, ho, fun _ => ?_⟩⟩, fun q => (by cases q)⟩
    rw [hb2, show pnb sW gW aW d + (0 + 0 + 1) + 0 = pnd sW gW aW d + 1 by omega]
    exact hm
  · rw [q218_e, if_neg e1]
    exact hnx A out d sW gW aW hD hA1 es eg ea hp
theorem pr189 {n : Nat} {pre : List (Nat × Int32)} {A0 N0 A1 D : Nat} {tk tp : Nat → Nat} {rec : MP → MP × Bool} (hn : tk n = 0) (htp : ∀ i, i ≤ n → tp i ≤ 600) (hnx : ∀ (A : Nat) (out : List (Nat × Int32)) (d : Nat) (sW gW aW : Nat → Nat), d ≤ D → A1 ≤ A → sW d = 0 → gW d = 0 → aW d = 0 → pI n pre A0 N0 (A, 0, out, d, sW, gW, aW) 1 → pR n pre A0 N0 A1 (q218 tk tp rec (A, 0, out, d, sW, gW, aW))) : ∀ (A : Nat) (out : List (Nat × Int32)) (d : Nat) (sW gW aW : Nat → Nat), d ≤ D → A1 ≤ A → sW d = 0 → gW d = 0 → pI n pre A0 N0 (A, 0, out, d, sW, gW, aW) 1 → pR n pre A0 N0 A1 (q189 tk tp rec (A, 0, out, d, sW, gW, aW)) := by
  intro A out d sW gW aW hD hA1 es eg hp
  rw [q189_e]
  by_cases e1 : aW d = 0
  · rw [if_pos e1]
    exact hnx A out d sW gW aW hD hA1 es eg e1 hp
  · rw [if_neg e1]
    obtain ⟨h1, h2, h3, h4, h5, h6, o, ho, hm⟩ := hp
    dsimp only at h1 h2 h3 h4 h5 h6 ho hm
    unfold psz at h4
    dsimp only at h4
    have hm := hm rfl
    have hb := pnd_b sW gW aW d
    have hb2 := pnd_a sW gW aW d 0
    rw [es, eg, nz_p e1, nz_0] at hb
    rw [es, eg, nz_0] at hb2
    refine hnx A _ d sW gW _ hD hA1 es eg (va_up_self _ _ _) (pI_mk h1 h2 h3 (by rw [hb2, List.length_append]; simp only [List.length_cons, List.length_nil]; omega) (w7_a h5 d (by decide)) (w3_a h6 d (by decide)) ⟨o ++ [(7, 0)], by rw [ho, List.append_assoc], fun _ => ?_⟩)
    rw [hb2, show pnb sW gW aW d + (0 + 0 + 0) + 1 = pnb sW gW aW d + 1 by omega]
    exact mrp_op (by rw [show pnb sW gW aW d + 2 = pnd sW gW aW d + 1 by omega]; exact hm) (by decide) (by decide)
theorem pr96 {n : Nat} {pre : List (Nat × Int32)} {A0 N0 A1 D : Nat} {tk tp : Nat → Nat} {rec : MP → MP × Bool} (hn : tk n = 0) (htp : ∀ i, i ≤ n → tp i ≤ 600) (hnx : ∀ (A : Nat) (out : List (Nat × Int32)) (d : Nat) (sW gW aW : Nat → Nat), d ≤ D → A1 ≤ A → sW d = 0 → gW d = 0 → pI n pre A0 N0 (A, 0, out, d, sW, gW, aW) 1 → pR n pre A0 N0 A1 (q189 tk tp rec (A, 0, out, d, sW, gW, aW))) : ∀ (A : Nat) (out : List (Nat × Int32)) (d : Nat) (sW gW aW : Nat → Nat), d ≤ D → A1 ≤ A → sW d = 0 → pI n pre A0 N0 (A, 0, out, d, sW, gW, aW) 1 → pR n pre A0 N0 A1 (q96 tk tp rec (A, 0, out, d, sW, gW, aW)) := by
  intro A out d sW gW aW hD hA1 es hp
  rw [q96_e]
  by_cases e1 : gW d = 0
  · rw [if_pos e1]
    by_cases e2 : tk A = 60
    · rw [if_pos e2]
      obtain ⟨h1, h2, h3, h4, h5, h6, o, ho, hm⟩ := hp
      dsimp only at h1 h2 h3 h4 h5 h6 ho hm
      unfold psz at h4
      dsimp only at h4
      have hm := hm rfl
      have hb := pnd_b sW gW aW d
      have hb2 := pnd_g sW gW aW d 5
      rw [es, e1, nz_0] at hb
      rw [es, nz_0, nz_p (x := 5) (by decide)] at hb2
      have hlt := lt_of_tk hn h1 e2 (by decide)
      refine ⟨fun _ => ⟨rfl, by dsimp only; omega, pI_mk (by omega) (by omega) (by omega) (by omega) (w7_g h5 d (by decide)) (w3_g h6 d (by decide)) ⟨o, ho, fun _ => ?_⟩⟩, fun q => (by cases q)⟩
      rw [show pnd sW (va_up gW d 5) aW d + 0 = pnd sW gW aW d + 1 by omega]
      exact hm
    · rw [if_neg e2]
      by_cases e3 : tk A = 61
      · rw [if_pos e3]
        obtain ⟨h1, h2, h3, h4, h5, h6, o, ho, hm⟩ := hp
        dsimp only at h1 h2 h3 h4 h5 h6 ho hm
        unfold psz at h4
        dsimp only at h4
        have hm := hm rfl
        have hb := pnd_b sW gW aW d
        have hb2 := pnd_g sW gW aW d 6
        rw [es, e1, nz_0] at hb
        rw [es, nz_0, nz_p (x := 6) (by decide)] at hb2
        have hlt := lt_of_tk hn h1 e3 (by decide)
        refine ⟨fun _ => ⟨rfl, by dsimp only; omega, pI_mk (by omega) (by omega) (by omega) (by omega) (w7_g h5 d (by decide)) (w3_g h6 d (by decide)) ⟨o, ho, fun _ => ?_⟩⟩, fun q => (by cases q)⟩
        rw [show pnd sW (va_up gW d 6) aW d + 0 = pnd sW gW aW d + 1 by omega]
        exact hm
      · rw [if_neg e3]
        exact hnx A out d sW gW aW hD hA1 es e1 hp
  · rw [if_neg e1]
    obtain ⟨h1, h2, h3, h4, h5, h6, o, ho, hm⟩ := hp
    dsimp only at h1 h2 h3 h4 h5 h6 ho hm
    unfold psz at h4
    dsimp only at h4
    have hm := hm rfl
    have hb := pnd_b sW gW aW d
    have hb2 := pnd_g sW gW aW d 0
    rw [es, nz_p e1, nz_0] at hb
    rw [es, nz_0] at hb2
    have hg := h6 d
    have hg7 := h5 d
    refine hnx A _ d sW _ aW hD hA1 es (va_up_self _ _ _) (pI_mk h1 h2 h3 (by rw [hb2, List.length_append]; simp only [List.length_cons, List.length_nil]; omega) (w7_g h5 d (by decide)) (w3_g h6 d (by decide)) ⟨o ++ [(gW d, 0)], by rw [ho, List.append_assoc], fun _ => ?_⟩)
    refine mrp_op (by rw [show pnd sW (va_up gW d 0) aW d + 2 = pnd sW gW aW d + 1 by omega]; exact hm) (by omega) (by omega)
theorem pr43 {n : Nat} {pre : List (Nat × Int32)} {A0 N0 A1 D : Nat} {tk tp : Nat → Nat} {rec : MP → MP × Bool} (hn : tk n = 0) (htp : ∀ i, i ≤ n → tp i ≤ 600) (hnx : ∀ (A : Nat) (out : List (Nat × Int32)) (d : Nat) (sW gW aW : Nat → Nat), d ≤ D → A1 ≤ A → sW d = 0 → pI n pre A0 N0 (A, 0, out, d, sW, gW, aW) 1 → pR n pre A0 N0 A1 (q96 tk tp rec (A, 0, out, d, sW, gW, aW))) : ∀ (A : Nat) (out : List (Nat × Int32)) (d : Nat) (sW gW aW : Nat → Nat), d ≤ D → A1 ≤ A → sW d = 0 → pI n pre A0 N0 (A, 0, out, d, sW, gW, aW) 1 → pR n pre A0 N0 A1 (q43 tk tp rec (A, 0, out, d, sW, gW, aW)) := by
  intro A out d sW gW aW hD hA1 e1 hp
  rw [q43_e]
  by_cases e2 : tk A = 43
  · rw [if_pos e2]
    obtain ⟨h1, h2, h3, h4, h5, h6, o, ho, hm⟩ := hp
    dsimp only at h1 h2 h3 h4 h5 h6 ho hm
    unfold psz at h4
    dsimp only at h4
    have hm := hm rfl
    have hb := pnd_b sW gW aW d
    have hb2 := pnd_s sW gW aW d 3
    rw [e1, nz_0] at hb
    rw [nz_p (x := 3) (by decide)] at hb2
    have hlt := lt_of_tk hn h1 e2 (by decide)
    refine ⟨fun _ => ⟨rfl, by dsimp only; omega, pI_mk (by omega) (by omega) (by omega) (by omega) (w7_s h5 d (by decide)) (w3_s h6 d (by decide)) ⟨o, ho, fun _ => ?_⟩⟩, fun q => (by cases q)⟩
    rw [show pnd (va_up sW d 3) gW aW d + 0 = pnd sW gW aW d + 1 by omega]
    exact hm
  · rw [if_neg e2]
    by_cases e3 : tk A = 45
    · rw [if_pos e3]
      obtain ⟨h1, h2, h3, h4, h5, h6, o, ho, hm⟩ := hp
      dsimp only at h1 h2 h3 h4 h5 h6 ho hm
      unfold psz at h4
      dsimp only at h4
      have hm := hm rfl
      have hb := pnd_b sW gW aW d
      have hb2 := pnd_s sW gW aW d 4
      rw [e1, nz_0] at hb
      rw [nz_p (x := 4) (by decide)] at hb2
      have hlt := lt_of_tk hn h1 e3 (by decide)
      refine ⟨fun _ => ⟨rfl, by dsimp only; omega, pI_mk (by omega) (by omega) (by omega) (by omega) (w7_s h5 d (by decide)) (w3_s h6 d (by decide)) ⟨o, ho, fun _ => ?_⟩⟩, fun q => (by cases q)⟩
      rw [show pnd (va_up sW d 4) gW aW d + 0 = pnd sW gW aW d + 1 by omega]
      exact hm
    · rw [if_neg e3]
      exact hnx A out d sW gW aW hD hA1 e1 hp
theorem pr0 {n : Nat} {pre : List (Nat × Int32)} {A0 N0 A1 D : Nat} {tk tp : Nat → Nat} {rec : MP → MP × Bool} (hn : tk n = 0) (htp : ∀ i, i ≤ n → tp i ≤ 600) (hnx : ∀ (A : Nat) (out : List (Nat × Int32)) (d : Nat) (sW gW aW : Nat → Nat), d ≤ D → A1 ≤ A → sW d = 0 → pI n pre A0 N0 (A, 0, out, d, sW, gW, aW) 1 → pR n pre A0 N0 A1 (q43 tk tp rec (A, 0, out, d, sW, gW, aW))) : ∀ (A : Nat) (f : Int32) (out : List (Nat × Int32)) (d : Nat) (sW gW aW : Nat → Nat), d ≤ D → A1 ≤ A → pI n pre A0 N0 (A, f, out, d, sW, gW, aW) 1 → pR n pre A0 N0 A1 (q0 tk tp rec (A, f, out, d, sW, gW, aW)) := by
  intro A f out d sW gW aW hD hA1 hp
  rw [q0_e]
  by_cases e0 : f = 0
  · subst e0
    rw [if_pos rfl]
    by_cases e1 : sW d = 0
    · rw [if_pos e1]
      exact hnx A out d sW gW aW hD hA1 e1 hp
    · rw [if_neg e1]
      obtain ⟨h1, h2, h3, h4, h5, h6, o, ho, hm⟩ := hp
      dsimp only at h1 h2 h3 h4 h5 h6 ho hm
      unfold psz at h4
      dsimp only at h4
      have hm := hm rfl
      have hb := pnd_b sW gW aW d
      have hb2 := pnd_s sW gW aW d 0
      rw [nz_p e1] at hb
      rw [nz_0] at hb2
      have hg := h6 d
      have hg7 := h5 d
      refine hnx A _ d _ gW aW hD hA1 (va_up_self _ _ _) (pI_mk h1 h2 h3 (by rw [hb2, List.length_append]; simp only [List.length_cons, List.length_nil]; omega) (w7_s h5 d (by decide)) (w3_s h6 d (by decide)) ⟨o ++ [(sW d, 0)], by rw [ho, List.append_assoc], fun _ => ?_⟩)
      refine mrp_op (by rw [show pnd (va_up sW d 0) gW aW d + 2 = pnd sW gW aW d + 1 by omega]; exact hm) (by omega) (by omega)
  · rw [if_neg e0]
    exact ⟨fun q => (by cases q), fun _ => ⟨hp, fun q => absurd q e0⟩⟩
theorem prGob {n : Nat} {pre : List (Nat × Int32)} {A0 N0 A1 : Nat} {tk tp : Nat → Nat} (hn : tk n = 0) (htp : ∀ i, i ≤ n → tp i ≤ 600) : ∀ (m : Nat) (A : Nat) (f : Int32) (out : List (Nat × Int32)) (d : Nat) (sW gW aW : Nat → Nat), d < m → A1 ≤ A → pI n pre A0 N0 (A, f, out, d, sW, gW, aW) 1 → pR n pre A0 N0 A1 (pGob tk tp m (A, f, out, d, sW, gW, aW)) := by
  intro m
  induction m with
  | zero => intro A f out d sW gW aW h; omega
  | succ m ih =>
  intro A f out d sW gW aW hD hA1 hp
  exact pr0 (D := m) hn htp (pr43 hn htp (pr96 hn htp (pr189 hn htp (pr218 hn htp (pr249 hn htp (fun A f out d sW gW aW h1 h2 h3 => ih A f out d sW gW aW h1 h2 h3)))))) A f out d sW gW aW (by omega) hA1 hp
def pPart (tk tp tv : Nat → Nat) : MP → MP × Bool
  | (A, f, out, d, sW, gW, aW) => if tk A = 2 ∨ tk A = 40 ∨ (7 ≤ tk A ∧ tk A ≤ 14) then (if d = 5 then ((A, fltp tp 5 A, out, d, sW, gW, aW), false) else if tk A = 40 then ((A + 1, f, out, d + 1, va_up sW (d + 1) 0, va_up gW (d + 1) 0, va_up aW (d + 1) 0), true) else if tk A = 2 then ((A + 1, f, out ++ [(1, nI (tv A))], d, sW, gW, aW), false) else ((A + 1, f, out ++ [(2, nI (tk A - 7))], d, sW, gW, aW), false)) else ((A, fltp tp 1 A, out, d, sW, gW, aW), false)
theorem pPart_e (tk tp tv : Nat → Nat) (A : Nat) (f : Int32) (out : List (Nat × Int32)) (d : Nat) (sW gW aW : Nat → Nat) : pPart tk tp tv (A, f, out, d, sW, gW, aW) = if tk A = 2 ∨ tk A = 40 ∨ (7 ≤ tk A ∧ tk A ≤ 14) then (if d = 5 then ((A, fltp tp 5 A, out, d, sW, gW, aW), false) else if tk A = 40 then ((A + 1, f, out, d + 1, va_up sW (d + 1) 0, va_up gW (d + 1) 0, va_up aW (d + 1) 0), true) else if tk A = 2 then ((A + 1, f, out ++ [(1, nI (tv A))], d, sW, gW, aW), false) else ((A + 1, f, out ++ [(2, nI (tk A - 7))], d, sW, gW, aW), false)) else ((A, fltp tp 1 A, out, d, sW, gW, aW), false) := rfl
/-- a part: what stands behind it -/
theorem prPart {n : Nat} {pre : List (Nat × Int32)} {A0 N0 : Nat} {tk tp tv : Nat → Nat} (hn : tk n = 0) (htp : ∀ i, i ≤ n → tp i ≤ 600) (htv : ∀ i, i ≤ n → tk i = 2 → tv i ≤ 9999) (A : Nat) (out : List (Nat × Int32)) (d : Nat) (sW gW aW : Nat → Nat) (hp : pI n pre A0 N0 (A, 0, out, d, sW, gW, aW) 0) : ((pPart tk tp tv (A, 0, out, d, sW, gW, aW)).2 = true → (pPart tk tp tv (A, 0, out, d, sW, gW, aW)).1.2.1 = 0 ∧ A < (pPart tk tp tv (A, 0, out, d, sW, gW, aW)).1.1 ∧ pI n pre A0 N0 (pPart tk tp tv (A, 0, out, d, sW, gW, aW)).1 0) ∧ ((pPart tk tp tv (A, 0, out, d, sW, gW, aW)).2 = false → pI n pre A0 N0 (pPart tk tp tv (A, 0, out, d, sW, gW, aW)).1 1 ∧ ((pPart tk tp tv (A, 0, out, d, sW, gW, aW)).1.2.1 = 0 → A < (pPart tk tp tv (A, 0, out, d, sW, gW, aW)).1.1)) := by
  obtain ⟨h1, h2, h3, h4, h5, h6, o, ho, hm⟩ := hp
  dsimp only at h1 h2 h3 h4 h5 h6 ho hm
  unfold psz at h4
  dsimp only at h4
  have hm := hm rfl
  rw [pPart_e]
  by_cases e0 : tk A = 2 ∨ tk A = 40 ∨ (7 ≤ tk A ∧ tk A ≤ 14)
  · have hlt := lt_of_tk hn h1 rfl (show tk A ≠ 0 by omega)
    rw [if_pos e0]
    have hpl := pnd_le sW gW aW d
    by_cases e1 : d = 5
    · rw [if_pos e1]
      exact ⟨fun q => (by cases q), fun _ => ⟨pI_mk h1 h2 h3 h4 h5 h6 ⟨o, ho, fun z => absurd z (fltp_ne (by decide) (by decide) (htp A h1))⟩, fun z => absurd z (fltp_ne (by decide) (by decide) (htp A h1))⟩⟩
    · rw [if_neg e1]
      by_cases e2 : tk A = 40
      · rw [if_pos e2]
        refine ⟨fun _ => ⟨rfl, by dsimp only; omega, pI_mk (by omega) (by omega) (by omega) (by rw [pnd_dn]; omega) (fun k => ⟨up7 (h5 k).1 (by decide), up7 (h5 k).2.1 (by decide), up7 (h5 k).2.2 (by decide)⟩) (fun k => ⟨up3 (h6 k).1 (by decide), up3 (h6 k).2.1 (by decide), up3 (h6 k).2.2 (by decide)⟩) ⟨o, ho, fun _ => ?_⟩⟩, fun q => (by cases q)⟩
        rw [pnd_dn]; exact hm
      · rw [if_neg e2]
        by_cases e3 : tk A = 2
        · rw [if_pos e3]
          refine ⟨fun q => (by cases q), fun _ => ⟨pI_mk (by omega) (by omega) (by omega) (by rw [List.length_append]; simp only [List.length_cons, List.length_nil]; omega) h5 h6 ⟨o ++ [(1, nI (tv A))], by rw [ho, List.append_assoc], fun _ => ?_⟩, fun _ => by dsimp only; omega⟩⟩
          exact mrp_app _ _ _ _ _ hm (Or.inl ⟨rfl, ⟨⟨tv A, htv A h1 e3, rfl⟩, by omega⟩, rfl⟩)
        · rw [if_neg e3]
          refine ⟨fun q => (by cases q), fun _ => ⟨pI_mk (by omega) (by omega) (by omega) (by rw [List.length_append]; simp only [List.length_cons, List.length_nil]; omega) h5 h6 ⟨o ++ [(2, nI (tk A - 7))], by rw [ho, List.append_assoc], fun _ => ?_⟩, fun _ => by dsimp only; omega⟩⟩
          exact mrp_app _ _ _ _ _ hm (Or.inr (Or.inl ⟨rfl, ⟨⟨tk A - 7, by omega, rfl⟩, by omega⟩, rfl⟩))
  · rw [if_neg e0]
    exact ⟨fun q => (by cases q), fun _ => ⟨pI_mk h1 h2 h3 h4 h5 h6 ⟨o, ho, fun z => absurd z (fltp_ne (by decide) (by decide) (htp A h1))⟩, fun z => absurd z (fltp_ne (by decide) (by decide) (htp A h1))⟩⟩
