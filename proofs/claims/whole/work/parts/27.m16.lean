def nz (x : Nat) : Nat := if x = 0 then 0 else 1
def pnd (sW gW aW : Nat → Nat) : Nat → Nat
  | 0 => nz (sW 0) + nz (gW 0) + nz (aW 0)
  | d + 1 => pnd sW gW aW d + (nz (sW (d + 1)) + nz (gW (d + 1)) + nz (aW (d + 1)))
/-- the codes that are there and those that wait -/
def psz (s : MP) : Nat := s.2.2.1.length + pnd s.2.2.2.2.1 s.2.2.2.2.2.1 s.2.2.2.2.2.2 s.2.2.2.1
def pnb (sW gW aW : Nat → Nat) : Nat → Nat
  | 0 => 0
  | d + 1 => pnd sW gW aW d
theorem pnd_b (sW gW aW : Nat → Nat) (d : Nat) : pnd sW gW aW d = pnb sW gW aW d + (nz (sW d) + nz (gW d) + nz (aW d)) := by
  cases d <;> simp [pnd, pnb]
theorem pnd_cong {sW gW aW sW' gW' aW' : Nat → Nat} : ∀ d, (∀ k, k ≤ d → sW' k = sW k ∧ gW' k = gW k ∧ aW' k = aW k) → pnd sW' gW' aW' d = pnd sW gW aW d
  | 0, h => by simp [pnd, (h 0 (by omega)).1, (h 0 (by omega)).2.1, (h 0 (by omega)).2.2]
  | d + 1, h => by
    simp only [pnd]
    rw [pnd_cong d (fun k hk => h k (by omega)), (h (d + 1) (by omega)).1, (h (d + 1) (by omega)).2.1, (h (d + 1) (by omega)).2.2]
theorem pnb_cong {sW gW aW sW' gW' aW' : Nat → Nat} (d : Nat) (h : ∀ k, k < d → sW' k = sW k ∧ gW' k = gW k ∧ aW' k = aW k) : pnb sW' gW' aW' d = pnb sW gW aW d := by
  cases d with
  | zero => rfl
  | succ d => exact pnd_cong d (fun k hk => h k (by omega))
theorem pnd_s (sW gW aW : Nat → Nat) (d v : Nat) : pnd (va_up sW d v) gW aW d = pnb sW gW aW d + (nz v + nz (gW d) + nz (aW d)) := by
  rw [pnd_b, va_up_self, pnb_cong d (sW := sW) (gW := gW) (aW := aW) (fun k hk => ⟨va_up_ne _ _ (by omega), rfl, rfl⟩)]
theorem pnd_g (sW gW aW : Nat → Nat) (d v : Nat) : pnd sW (va_up gW d v) aW d = pnb sW gW aW d + (nz (sW d) + nz v + nz (aW d)) := by
  rw [pnd_b, va_up_self, pnb_cong d (sW := sW) (gW := gW) (aW := aW) (fun k hk => ⟨rfl, va_up_ne _ _ (by omega), rfl⟩)]
theorem pnd_a (sW gW aW : Nat → Nat) (d v : Nat) : pnd sW gW (va_up aW d v) d = pnb sW gW aW d + (nz (sW d) + nz (gW d) + nz v) := by
  rw [pnd_b, va_up_self, pnb_cong d (sW := sW) (gW := gW) (aW := aW) (fun k hk => ⟨rfl, rfl, va_up_ne _ _ (by omega)⟩)]
theorem pnd_dn (sW gW aW : Nat → Nat) (d : Nat) : pnd (va_up sW (d + 1) 0) (va_up gW (d + 1) 0) (va_up aW (d + 1) 0) (d + 1) = pnd sW gW aW d := by
  simp only [pnd, va_up_self, nz, if_true, Nat.add_zero]
  exact pnd_cong d (fun k hk => ⟨va_up_ne _ _ (by omega), va_up_ne _ _ (by omega), va_up_ne _ _ (by omega)⟩)
theorem nz_0 : nz 0 = 0 := rfl
theorem nz_p {x : Nat} (h : x ≠ 0) : nz x = 1 := by simp [nz, h]
theorem nz_1 (x : Nat) : nz x ≤ 1 := by unfold nz; split <;> omega
def w7 (sW gW aW : Nat → Nat) : Prop := ∀ k, sW k ≤ 7 ∧ gW k ≤ 7 ∧ aW k ≤ 7
theorem up7 {f : Nat → Nat} {k d v : Nat} (h : f k ≤ 7) (hv : v ≤ 7) : va_up f d v k ≤ 7 := by unfold va_up; split <;> assumption
theorem w7_s {sW gW aW : Nat → Nat} (h : w7 sW gW aW) (d : Nat) {v : Nat} (hv : v ≤ 7) : w7 (va_up sW d v) gW aW := fun k => ⟨up7 (h k).1 hv, (h k).2⟩
theorem w7_g {sW gW aW : Nat → Nat} (h : w7 sW gW aW) (d : Nat) {v : Nat} (hv : v ≤ 7) : w7 sW (va_up gW d v) aW := fun k => ⟨(h k).1, up7 (h k).2.1 hv, (h k).2.2⟩
theorem w7_a {sW gW aW : Nat → Nat} (h : w7 sW gW aW) (d : Nat) {v : Nat} (hv : v ≤ 7) : w7 sW gW (va_up aW d v) := fun k => ⟨(h k).1, (h k).2.1, up7 (h k).2.2 hv⟩
theorem w0_of {x : Nat} (h : nI x = 0) (hx : x ≤ 7) : x = 0 := by
  rw [show (0 : Int32) = nI 0 from rfl] at h
  exact (nI_eq (by omega) (by omega)).mp h
def fltp (tp : Nat → Nat) (k A : Nat) : Int32 := nI (k + 16 * tp A)
def q249 (tk tp : Nat → Nat) (rec : MP → MP × Bool) : MP → MP × Bool
  | (A, f, out, d, sW, gW, aW) => if d = 0 then ((A, f, out, d, sW, gW, aW), false) else if tk A = 41 then rec (A + 1, f, out, d - 1, sW, gW, aW) else rec (A, fltp tp 1 A, out, d - 1, sW, gW, aW)
def q218 (tk tp : Nat → Nat) (rec : MP → MP × Bool) : MP → MP × Bool
  | (A, f, out, d, sW, gW, aW) => if tk A = 6 then ((A + 1, f, out, d, sW, gW, va_up aW d 7), true) else q249 tk tp rec (A, f, out, d, sW, gW, aW)
def q189 (tk tp : Nat → Nat) (rec : MP → MP × Bool) : MP → MP × Bool
  | (A, f, out, d, sW, gW, aW) => if aW d = 0 then q218 tk tp rec (A, f, out, d, sW, gW, aW) else q218 tk tp rec (A, f, out ++ [(7, 0)], d, sW, gW, va_up aW d 0)
def q96 (tk tp : Nat → Nat) (rec : MP → MP × Bool) : MP → MP × Bool
  | (A, f, out, d, sW, gW, aW) => if gW d = 0 then (if tk A = 60 then ((A + 1, f, out, d, sW, va_up gW d 5, aW), true) else if tk A = 61 then ((A + 1, f, out, d, sW, va_up gW d 6, aW), true) else q189 tk tp rec (A, f, out, d, sW, gW, aW)) else q189 tk tp rec (A, f, out ++ [(gW d, 0)], d, sW, va_up gW d 0, aW)
def q43 (tk tp : Nat → Nat) (rec : MP → MP × Bool) : MP → MP × Bool
  | (A, f, out, d, sW, gW, aW) => if tk A = 43 then ((A + 1, f, out, d, va_up sW d 3, gW, aW), true) else if tk A = 45 then ((A + 1, f, out, d, va_up sW d 4, gW, aW), true) else q96 tk tp rec (A, f, out, d, sW, gW, aW)
def q0 (tk tp : Nat → Nat) (rec : MP → MP × Bool) : MP → MP × Bool
  | (A, f, out, d, sW, gW, aW) => if f = 0 then (if sW d = 0 then q43 tk tp rec (A, f, out, d, sW, gW, aW) else q43 tk tp rec (A, f, out ++ [(sW d, 0)], d, va_up sW d 0, gW, aW)) else ((A, f, out, d, sW, gW, aW), false)
def pGob (tk tp : Nat → Nat) : Nat → MP → MP × Bool
  | 0, s => (s, false)
  | m + 1, s => q0 tk tp (pGob tk tp m) s
theorem q249_e (tk tp : Nat → Nat) (rec : MP → MP × Bool) (A : Nat) (f : Int32) (out : List (Nat × Int32)) (d : Nat) (sW gW aW : Nat → Nat) : q249 tk tp rec (A, f, out, d, sW, gW, aW) = if d = 0 then ((A, f, out, d, sW, gW, aW), false) else if tk A = 41 then rec (A + 1, f, out, d - 1, sW, gW, aW) else rec (A, fltp tp 1 A, out, d - 1, sW, gW, aW) := rfl
theorem q218_e (tk tp : Nat → Nat) (rec : MP → MP × Bool) (A : Nat) (f : Int32) (out : List (Nat × Int32)) (d : Nat) (sW gW aW : Nat → Nat) : q218 tk tp rec (A, f, out, d, sW, gW, aW) = if tk A = 6 then ((A + 1, f, out, d, sW, gW, va_up aW d 7), true) else q249 tk tp rec (A, f, out, d, sW, gW, aW) := rfl
theorem q189_e (tk tp : Nat → Nat) (rec : MP → MP × Bool) (A : Nat) (f : Int32) (out : List (Nat × Int32)) (d : Nat) (sW gW aW : Nat → Nat) : q189 tk tp rec (A, f, out, d, sW, gW, aW) = if aW d = 0 then q218 tk tp rec (A, f, out, d, sW, gW, aW) else q218 tk tp rec (A, f, out ++ [(7, 0)], d, sW, gW, va_up aW d 0) := rfl
theorem q96_e (tk tp : Nat → Nat) (rec : MP → MP × Bool) (A : Nat) (f : Int32) (out : List (Nat × Int32)) (d : Nat) (sW gW aW : Nat → Nat) : q96 tk tp rec (A, f, out, d, sW, gW, aW) = if gW d = 0 then (if tk A = 60 then ((A + 1, f, out, d, sW, va_up gW d 5, aW), true) else if tk A = 61 then ((A + 1, f, out, d, sW, va_up gW d 6, aW), true) else q189 tk tp rec (A, f, out, d, sW, gW, aW)) else q189 tk tp rec (A, f, out ++ [(gW d, 0)], d, sW, va_up gW d 0, aW) := rfl
theorem q43_e (tk tp : Nat → Nat) (rec : MP → MP × Bool) (A : Nat) (f : Int32) (out : List (Nat × Int32)) (d : Nat) (sW gW aW : Nat → Nat) : q43 tk tp rec (A, f, out, d, sW, gW, aW) = if tk A = 43 then ((A + 1, f, out, d, va_up sW d 3, gW, aW), true) else if tk A = 45 then ((A + 1, f, out, d, va_up sW d 4, gW, aW), true) else q96 tk tp rec (A, f, out, d, sW, gW, aW) := rfl
theorem q0_e (tk tp : Nat → Nat) (rec : MP → MP × Bool) (A : Nat) (f : Int32) (out : List (Nat × Int32)) (d : Nat) (sW gW aW : Nat → Nat) : q0 tk tp rec (A, f, out, d, sW, gW, aW) = if f = 0 then (if sW d = 0 then q43 tk tp rec (A, f, out, d, sW, gW, aW) else q43 tk tp rec (A, f, out ++ [(sW d, 0)], d, va_up sW d 0, gW, aW)) else ((A, f, out, d, sW, gW, aW), false) := rfl
/-- what a method of the reader gives back: the ints behind it stand for s -/
abbrev mQr (I : Nat → Nat → Int32) (L : Nat → Nat → Int64) (b : Nat) (s : MP × Bool) : Option Value → ZH → Prop := fun r h => r = some (.int (zb s.2)) ∧ ∃ J, h = mh J L ∧ mRep J b s.1 ∧ mFr I J b
theorem mQr_tr {I J : Nat → Nat → Int32} {L : Nat → Nat → Int64} {b : Nat} {s : MP × Bool} (h : mFr I J b) {r : Option Value} {x : ZH} (q : mQr J L b s r x) : mQr I L b s r x := by
  obtain ⟨h1, K, h2, h3, h4⟩ := q
  exact ⟨h1, K, h2, h3, h.tr h4⟩
abbrev x9_goesOnBehind : ZX := (RX9, cX9_goesOnBehind, 1, (some .boolean), "goesOnBehind", 2, 80, false)
set_option maxHeartbeats 4000000 in
theorem l9_g249 {L : Nat → Nat → Int64} {Q : Option Value → ZH → Prop} {I0 : Nat → Nat → Int32} {n b : Nat} {tk tp tv : Nat → Nat} {rec : MP → MP × Bool} {D : Nat} (hb : b < 2) (hrec : ∀ (I : Nat → Nat → Int32) (A : Nat) (f : Int32) (out : List (Nat × Int32)) (d : Nat) (sW gW aW : Nat → Nat) (ls : Nat → Option Value), mTok I L n tk tp tv → A ≤ n → d < D → d ≤ 5 → psz (A, f, out, d, sW, gW, aW) ≤ 640 → w7 sW gW aW → mRep I b (A, f, out, d, sW, gW, aW) → mFr I0 I b → ls 0 = some (.ref 0) → Q = mQr I0 L b (rec (A, f, out, d, sW, gW, aW)) → Zf x9_goesOnBehind 0 0 0 ls [] (mh I L) Q) : ∀ (I : Nat → Nat → Int32) (A : Nat) (f : Int32) (out : List (Nat × Int32)) (d : Nat) (sW gW aW : Nat → Nat) (ls : Nat → Option Value), mTok I L n tk tp tv → A ≤ n → f = 0 → d ≤ 5 → d ≤ D → psz (A, f, out, d, sW, gW, aW) ≤ 640 → w7 sW gW aW → mRep I b (A, f, out, d, sW, gW, aW) → mFr I0 I b → ls 0 = some (.ref 0) → Q = mQr I0 L b (q249 tk tp rec (A, f, out, d, sW, gW, aW)) → Zf x9_goesOnBehind 0 0 249 ls [] (mh I L) Q := by
  intro I A f out d sW gW aW ls hT hA hf hd hD hz h7w hR hF hl0 hQ
  subst hf
  have hn := hT.1
  obtain ⟨h7, h8, h16, h17, hc, h18, hw⟩ := id hR
  obtain ⟨w1, w2, w3⟩ := hw d (Nat.le_refl _)
  dsimp only at h7 h8 h16 h17 hc h18 w1 w2 w3
  have hz2 := hz
  unfold psz at hz2
  dsimp only at hz2
  rw [pnd_b] at hz2
  refine z_aload_n (i := 0) dX9_goesOnBehind_249 rfl hl0 ?_
  refine z_gI zf9_209.g dX9_goesOnBehind_250 (by decide) rfl ?_
  rw [h18]
  refine z_if_ne 258 dX9_goesOnBehind_253 (by decide) (fun c_1 => ?_) (fun c_1 => ?_)
  · skip
    have hd0 : ¬ d = 0 := fun e => c_1 (by rw [e]; rfl)
    obtain ⟨q, rfl⟩ : ∃ q, d = q + 1 := ⟨d - 1, by omega⟩
    refine z_aload_n (i := 0) dX9_goesOnBehind_258 rfl hl0 ?_
    refine z_bipush (v := 41) dX9_goesOnBehind_259 (by decide) ?_
    refine z_callV (st := []) (mc2 := 0) (ms2 := 0) zi9_226 zv_yX9_takeSign (c9_takeSign _ _ _ A (by omega) h7) dX9_goesOnBehind_261 (show (0 : Nat) < 35 by decide) rfl rfl rfl rfl (by decide) (by decide) (Nat.le_of_ble_eq_true rfl) (by decide) (by decide) (fun r h2 hq => ?_)
    obtain ⟨rfl, rfl⟩ := hq
    rw [show msg I L A 41 = decide (tk A = 41) from mTok_msg hT hA rfl h8]
    try simp only [Option.toList, List.nil_append]
    have e9 : (if decide (tk A = 41) = true then zu I 0 7 (nI (A + 1)) else mwr I A 1) = zu I 0 7 (nI (A + 1)) ∧ tk A = 41 ∨ (if decide (tk A = 41) = true then zu I 0 7 (nI (A + 1)) else mwr I A 1) = zu I 0 8 (fltp tp 1 A) ∧ ¬ tk A = 41 := by
      by_cases e : tk A = 41
      · exact Or.inl ⟨by rw [decide_eq_true e, if_pos rfl], e⟩
      · refine Or.inr ⟨?_, e⟩
        rw [decide_eq_false e, if_neg (by decide)]
        unfold mwr fltp
        rw [if_pos h8, (hT.2.2.1 A hA).2.1, zl16, zl1, pk_mul, nI_add]
    generalize (if decide (tk A = 41) = true then zu I 0 7 (nI (A + 1)) else mwr I A 1) = K at e9 ⊢
    have k18 : K 0 18 = nI (q + 1) := by rcases e9 with ⟨e, -⟩ | ⟨e, -⟩ <;> rw [e] <;> exact h18
    refine z_aload_n (i := 0) dX9_goesOnBehind_264 rfl hl0 ?_
    refine z_dup dX9_goesOnBehind_265 rfl ?_
    refine z_gI zf9_209.g dX9_goesOnBehind_266 (by decide) rfl ?_
    rw [k18]
    refine z_iconst (v := 1) dX9_goesOnBehind_269 (by decide) ?_
    refine z_isub dX9_goesOnBehind_270 ?_
    refine z_top (y := .int (nI q)) (by rw [zsub1]) ?_
    refine z_putI zf9_209 dX9_goesOnBehind_271 (fun h => by cases h) (by decide) rfl ?_
    refine z_goto 0 dX9_goesOnBehind_274 (by decide) ?_
    have hp : pnd sW gW aW q ≤ pnd sW gW aW (q + 1) := by simp only [pnd]; omega
    have hz3 : psz (A, (0 : Int32), out, q, sW, gW, aW) ≤ 640 := by unfold psz at hz ⊢; dsimp only at hz ⊢; omega
    rcases e9 with ⟨e, et⟩ | ⟨e, et⟩
    · subst e
      have hlt : A < n := by
        rcases Nat.lt_or_ge A n with q1 | q1
        · exact q1
        · have : A = n := by omega
          rw [this, hT.2.1] at et
          omega
      refine hrec _ (A + 1) 0 out q sW gW aW ls (mTok_cong hT rfl rfl) (by omega) (by omega) (by omega) hz3 h7w (mRep_up (mRep_at hR (A + 1))) (hF.tr (mFr_at.tr mFr_d)) hl0 ?_
      rw [hQ]
      rw [q249_e, if_neg (by omega), if_pos et]
      rfl
    · subst e
      refine hrec _ A (fltp tp 1 A) out q sW gW aW ls (mTok_cong hT rfl rfl) hA (by omega) (by omega) hz3 h7w (mRep_up (mRep_f hR (fltp tp 1 A))) (hF.tr (mFr_f.tr mFr_d)) hl0 ?_
      rw [hQ]
      rw [q249_e, if_neg (by omega), if_neg et]
      rfl
  · skip
    refine z_iconst (v := 0) dX9_goesOnBehind_256 (by decide) ?_
    refine z_zret dX9_goesOnBehind_257 rfl (by decide) ?_
    have hd0 : d = 0 := by
      have := c_1
      rw [show (0 : Int32) = nI 0 from rfl, zeq (by omega) (by omega)] at this
      exact this
    rw [hQ]
    rw [q249_e, if_pos hd0]
    exact ⟨rfl, I, rfl, hR, hF⟩
set_option maxHeartbeats 4000000 in
theorem l9_g218 {L : Nat → Nat → Int64} {Q : Option Value → ZH → Prop} {I0 : Nat → Nat → Int32} {n b : Nat} {tk tp tv : Nat → Nat} {rec : MP → MP × Bool} {D : Nat} (hb : b < 2) (hnx : ∀ (I : Nat → Nat → Int32) (A : Nat) (f : Int32) (out : List (Nat × Int32)) (d : Nat) (sW gW aW : Nat → Nat) (ls : Nat → Option Value), mTok I L n tk tp tv → A ≤ n → f = 0 → d ≤ 5 → d ≤ D → psz (A, f, out, d, sW, gW, aW) ≤ 640 → w7 sW gW aW → mRep I b (A, f, out, d, sW, gW, aW) → mFr I0 I b → ls 0 = some (.ref 0) → Q = mQr I0 L b (q249 tk tp rec (A, f, out, d, sW, gW, aW)) → Zf x9_goesOnBehind 0 0 249 ls [] (mh I L) Q) : ∀ (I : Nat → Nat → Int32) (A : Nat) (f : Int32) (out : List (Nat × Int32)) (d : Nat) (sW gW aW : Nat → Nat) (ls : Nat → Option Value), mTok I L n tk tp tv → A ≤ n → f = 0 → d ≤ 5 → d ≤ D → psz (A, f, out, d, sW, gW, aW) ≤ 640 → w7 sW gW aW → mRep I b (A, f, out, d, sW, gW, aW) → mFr I0 I b → ls 0 = some (.ref 0) → Q = mQr I0 L b (q218 tk tp rec (A, f, out, d, sW, gW, aW)) → Zf x9_goesOnBehind 0 0 218 ls [] (mh I L) Q := by
  intro I A f out d sW gW aW ls hT hA hf hd hD hz h7w hR hF hl0 hQ
  subst hf
  have hn := hT.1
  obtain ⟨h7, h8, h16, h17, hc, h18, hw⟩ := id hR
  obtain ⟨w1, w2, w3⟩ := hw d (Nat.le_refl _)
  dsimp only at h7 h8 h16 h17 hc h18 w1 w2 w3
  have hz2 := hz
  unfold psz at hz2
  dsimp only at hz2
  rw [pnd_b] at hz2
  refine z_aload_n (i := 0) dX9_goesOnBehind_218 rfl hl0 ?_
  refine z_iconst (v := 3) dX9_goesOnBehind_219 (by decide) ?_
  refine z_callV (st := []) (mc2 := 0) (ms2 := 0) zi9_183 zv_yX9_isWord (c9_isWord _ _ 3 (by decide) A (by omega) h7) dX9_goesOnBehind_220 (show (0 : Nat) < 35 by decide) rfl rfl rfl rfl (by decide) (by decide) (Nat.le_of_ble_eq_true rfl) (by decide) (by decide) (fun r h2 hq => ?_)
  obtain ⟨rfl, rfl⟩ := hq
  rw [show mwd I L A 3 = decide (tk A = 6) from mTok_mwd hT hA (by decide) h8]
  refine z_if_eq 249 dX9_goesOnBehind_223 (by decide) (fun c_1 => ?_) (fun c_1 => ?_)
  · skip
    have et : ¬ tk A = 6 := (of_decide_eq_false ((zb_0 _).mp c_1))
    exact hnx I A 0 out d sW gW aW ls hT hA rfl hd hD hz h7w hR hF hl0 (by rw [hQ, q218_e, if_neg et])
  · skip
    refine z_aload_n (i := 0) dX9_goesOnBehind_226 rfl hl0 ?_
    refine z_gR zf9_71.g dX9_goesOnBehind_227 (by decide) rfl rfl ?_
    refine z_aload_n (i := 0) dX9_goesOnBehind_230 rfl hl0 ?_
    refine z_gI zf9_209.g dX9_goesOnBehind_231 (by decide) rfl ?_
    rw [h18]
    refine z_bipush (v := 7) dX9_goesOnBehind_234 (by decide) ?_
    refine z_iast dX9_goesOnBehind_236 (by decide) rfl (zvin (by omega) (by omega)) ?_
    simp only [zcl (show d ≤ 100000 by omega)]
    refine z_aload_n (i := 0) dX9_goesOnBehind_237 rfl hl0 ?_
    refine z_dup dX9_goesOnBehind_238 rfl ?_
    refine z_gI zf9_170.g dX9_goesOnBehind_239 (by decide) rfl ?_
    rw [show zu I 13 d 7 0 7 = nI A from h7]
    refine z_iconst (v := 1) dX9_goesOnBehind_242 (by decide) ?_
    refine z_iadd dX9_goesOnBehind_243 ?_
    refine z_top (y := .int (nI (A + 1))) (by rw [zl1, nI_add]) ?_
    refine z_putI zf9_170 dX9_goesOnBehind_244 (fun h => by cases h) (by decide) rfl ?_
    refine z_iconst (v := 1) dX9_goesOnBehind_247 (by decide) ?_
    refine z_zret dX9_goesOnBehind_248 rfl (by decide) ?_
    have et : tk A = 6 := (of_decide_eq_true ((zb_n _).mp c_1))
    rw [hQ, q218_e, if_pos et]
    exact ⟨rfl, _, rfl, mRep_at (mRep_a hR 7) (A + 1), hF.tr ((mFr_w (Or.inr (Or.inr rfl))).tr mFr_at)⟩
set_option maxHeartbeats 4000000 in
theorem l9_g189 {L : Nat → Nat → Int64} {Q : Option Value → ZH → Prop} {I0 : Nat → Nat → Int32} {n b : Nat} {tk tp tv : Nat → Nat} {rec : MP → MP × Bool} {D : Nat} (hb : b < 2) (hnx : ∀ (I : Nat → Nat → Int32) (A : Nat) (f : Int32) (out : List (Nat × Int32)) (d : Nat) (sW gW aW : Nat → Nat) (ls : Nat → Option Value), mTok I L n tk tp tv → A ≤ n → f = 0 → d ≤ 5 → d ≤ D → psz (A, f, out, d, sW, gW, aW) ≤ 640 → w7 sW gW aW → mRep I b (A, f, out, d, sW, gW, aW) → mFr I0 I b → ls 0 = some (.ref 0) → Q = mQr I0 L b (q218 tk tp rec (A, f, out, d, sW, gW, aW)) → Zf x9_goesOnBehind 0 0 218 ls [] (mh I L) Q) : ∀ (I : Nat → Nat → Int32) (A : Nat) (f : Int32) (out : List (Nat × Int32)) (d : Nat) (sW gW aW : Nat → Nat) (ls : Nat → Option Value), mTok I L n tk tp tv → A ≤ n → f = 0 → d ≤ 5 → d ≤ D → psz (A, f, out, d, sW, gW, aW) ≤ 640 → w7 sW gW aW → mRep I b (A, f, out, d, sW, gW, aW) → mFr I0 I b → ls 0 = some (.ref 0) → Q = mQr I0 L b (q189 tk tp rec (A, f, out, d, sW, gW, aW)) → Zf x9_goesOnBehind 0 0 189 ls [] (mh I L) Q := by
  intro I A f out d sW gW aW ls hT hA hf hd hD hz h7w hR hF hl0 hQ
  subst hf
  have hn := hT.1
  obtain ⟨h7, h8, h16, h17, hc, h18, hw⟩ := id hR
  obtain ⟨w1, w2, w3⟩ := hw d (Nat.le_refl _)
  dsimp only at h7 h8 h16 h17 hc h18 w1 w2 w3
  have hz2 := hz
  unfold psz at hz2
  dsimp only at hz2
  rw [pnd_b] at hz2
  refine z_aload_n (i := 0) dX9_goesOnBehind_189 rfl hl0 ?_
  refine z_gR zf9_71.g dX9_goesOnBehind_190 (by decide) rfl rfl ?_
  refine z_aload_n (i := 0) dX9_goesOnBehind_193 rfl hl0 ?_
  refine z_gI zf9_209.g dX9_goesOnBehind_194 (by decide) rfl ?_
  rw [h18]
  refine z_iald dX9_goesOnBehind_197 (by decide) rfl (zvin (by omega) (by omega)) ?_
  rw [zcl (show d ≤ 100000 by omega), w3]
  refine z_if_eq 218 dX9_goesOnBehind_198 (by decide) (fun c_1 => ?_) (fun c_1 => ?_)
  · skip
    have ha0 : aW d = 0 := by
      have := c_1
      exact w0_of this (h7w d).2.2
    exact hnx I A 0 out d sW gW aW ls hT hA rfl hd hD hz h7w hR hF hl0 (by rw [hQ, q189_e, if_pos ha0])
  · skip
    have ha0 : ¬ aW d = 0 := fun e => c_1 (by rw [e]; rfl)
    have nzp := nz_p ha0
    refine z_aload_n (i := 0) dX9_goesOnBehind_201 rfl hl0 ?_
    refine z_bipush (v := 7) dX9_goesOnBehind_202 (by decide) ?_
    refine z_iconst (v := 0) dX9_goesOnBehind_204 (by decide) ?_
    refine z_callV (st := []) (mc2 := 0) (ms2 := 0) zi9_222 zv_yX9_emit (c9_emit I L 7 0 b out.length hb (by omega) h16 h17) dX9_goesOnBehind_205 (show (0 : Nat) < 35 by decide) rfl rfl rfl rfl (by decide) (by decide) (Nat.le_of_ble_eq_true rfl) (by decide) (by decide) (fun r h2 hq => ?_)
    obtain ⟨rfl, rfl⟩ := hq
    try simp only [Option.toList, List.nil_append]
    refine z_aload_n (i := 0) dX9_goesOnBehind_208 rfl hl0 ?_
    refine z_gR zf9_71.g dX9_goesOnBehind_209 (by decide) rfl rfl ?_
    refine z_aload_n (i := 0) dX9_goesOnBehind_212 rfl hl0 ?_
    refine z_gI zf9_209.g dX9_goesOnBehind_213 (by decide) rfl ?_
    rw [show mem I b out.length 7 0 0 18 = nI d from h18]
    refine z_iconst (v := 0) dX9_goesOnBehind_216 (by decide) ?_
    refine z_iast dX9_goesOnBehind_217 (by decide) rfl (zvin (by omega) (by omega)) ?_
    simp only [zcl (show d ≤ 100000 by omega)]
    refine hnx _ A 0 (out ++ [(7, 0)]) d sW gW (va_up aW d 0) ls (mTok_cong hT rfl rfl) hA rfl hd hD ?_ (w7_a h7w d (by decide)) (mRep_a (mRep_emit hR 7 0) 0) (hF.tr ((mFr_emit (by omega)).tr (mFr_w (Or.inr (Or.inr rfl))))) hl0 (by rw [hQ, q189_e, if_neg ha0])
    unfold psz
    dsimp only
    rw [pnd_a, nz_0, List.length_append]
    simp only [List.length_cons, List.length_nil]
    omega
set_option maxHeartbeats 4000000 in
theorem l9_g96 {L : Nat → Nat → Int64} {Q : Option Value → ZH → Prop} {I0 : Nat → Nat → Int32} {n b : Nat} {tk tp tv : Nat → Nat} {rec : MP → MP × Bool} {D : Nat} (hb : b < 2) (hnx : ∀ (I : Nat → Nat → Int32) (A : Nat) (f : Int32) (out : List (Nat × Int32)) (d : Nat) (sW gW aW : Nat → Nat) (ls : Nat → Option Value), mTok I L n tk tp tv → A ≤ n → f = 0 → d ≤ 5 → d ≤ D → psz (A, f, out, d, sW, gW, aW) ≤ 640 → w7 sW gW aW → mRep I b (A, f, out, d, sW, gW, aW) → mFr I0 I b → ls 0 = some (.ref 0) → Q = mQr I0 L b (q189 tk tp rec (A, f, out, d, sW, gW, aW)) → Zf x9_goesOnBehind 0 0 189 ls [] (mh I L) Q) : ∀ (I : Nat → Nat → Int32) (A : Nat) (f : Int32) (out : List (Nat × Int32)) (d : Nat) (sW gW aW : Nat → Nat) (ls : Nat → Option Value), mTok I L n tk tp tv → A ≤ n → f = 0 → d ≤ 5 → d ≤ D → psz (A, f, out, d, sW, gW, aW) ≤ 640 → w7 sW gW aW → mRep I b (A, f, out, d, sW, gW, aW) → mFr I0 I b → ls 0 = some (.ref 0) → Q = mQr I0 L b (q96 tk tp rec (A, f, out, d, sW, gW, aW)) → Zf x9_goesOnBehind 0 0 96 ls [] (mh I L) Q := by
  intro I A f out d sW gW aW ls hT hA hf hd hD hz h7w hR hF hl0 hQ
  subst hf
  have hn := hT.1
  obtain ⟨h7, h8, h16, h17, hc, h18, hw⟩ := id hR
  obtain ⟨w1, w2, w3⟩ := hw d (Nat.le_refl _)
  dsimp only at h7 h8 h16 h17 hc h18 w1 w2 w3
  have hz2 := hz
  unfold psz at hz2
  dsimp only at hz2
  rw [pnd_b] at hz2
  refine z_aload_n (i := 0) dX9_goesOnBehind_96 rfl hl0 ?_
  refine z_gR zf9_68.g dX9_goesOnBehind_97 (by decide) rfl rfl ?_
  refine z_aload_n (i := 0) dX9_goesOnBehind_100 rfl hl0 ?_
  refine z_gI zf9_209.g dX9_goesOnBehind_101 (by decide) rfl ?_
  rw [h18]
  refine z_iald dX9_goesOnBehind_104 (by decide) rfl (zvin (by omega) (by omega)) ?_
  rw [zcl (show d ≤ 100000 by omega), w2]
  refine z_if_eq 135 dX9_goesOnBehind_105 (by decide) (fun c_1 => ?_) (fun c_1 => ?_)
  · skip
    have ha0 : gW d = 0 := w0_of c_1 (h7w d).2.1
    refine z_aload_n (i := 0) dX9_goesOnBehind_135 rfl hl0 ?_
    refine z_bipush (v := 60) dX9_goesOnBehind_136 (by decide) ?_
    refine z_callV (st := []) (mc2 := 0) (ms2 := 0) zi9_176 zv_yX9_isSign (c9_isSign _ _ _ A (by omega) h7) dX9_goesOnBehind_138 (show (0 : Nat) < 35 by decide) rfl rfl rfl rfl (by decide) (by decide) (Nat.le_of_ble_eq_true rfl) (by decide) (by decide) (fun r h2 hq => ?_)
    obtain ⟨rfl, rfl⟩ := hq
    rw [show msg I L A 60 = decide (tk A = 60) from mTok_msg hT hA rfl h8]
    refine z_if_ne 153 dX9_goesOnBehind_141 (by decide) (fun c_2 => ?_) (fun c_2 => ?_)
    · skip
      refine z_aload_n (i := 0) dX9_goesOnBehind_153 rfl hl0 ?_
      refine z_gR zf9_68.g dX9_goesOnBehind_154 (by decide) rfl rfl ?_
      refine z_aload_n (i := 0) dX9_goesOnBehind_157 rfl hl0 ?_
      refine z_gI zf9_209.g dX9_goesOnBehind_158 (by decide) rfl ?_
      rw [h18]
      refine z_aload_n (i := 0) dX9_goesOnBehind_161 rfl hl0 ?_
      refine z_bipush (v := 60) dX9_goesOnBehind_162 (by decide) ?_
      refine z_callV (st := [_, _]) (mc2 := 0) (ms2 := 0) zi9_176 zv_yX9_isSign (c9_isSign _ _ _ A (by omega) h7) dX9_goesOnBehind_164 (show (0 : Nat) < 35 by decide) rfl rfl rfl rfl (by decide) (by decide) (Nat.le_of_ble_eq_true rfl) (by decide) (by decide) (fun r h2 hq => ?_)
      obtain ⟨rfl, rfl⟩ := hq
      rw [show msg I L A 60 = decide (tk A = 60) from mTok_msg hT hA rfl h8]
      refine z_if_eq 174 dX9_goesOnBehind_167 (by decide) (fun c_3 => ?_) (fun c_3 => ?_)
      · skip
        refine z_bipush (v := 6) dX9_goesOnBehind_174 (by decide) ?_
        refine z_iast dX9_goesOnBehind_176 (by decide) rfl (zvin (by omega) (by omega)) ?_
        simp only [zcl (show d ≤ 100000 by omega)]
        refine z_aload_n (i := 0) dX9_goesOnBehind_177 rfl hl0 ?_
        refine z_dup dX9_goesOnBehind_178 rfl ?_
        refine z_gI zf9_170.g dX9_goesOnBehind_179 (by decide) rfl ?_
        rw [show ((zu I 12 d _ : Nat → Nat → Int32)) 0 7 = nI A from h7]
        refine z_iconst (v := 1) dX9_goesOnBehind_182 (by decide) ?_
        refine z_iadd dX9_goesOnBehind_183 ?_
        refine z_top (y := .int (nI (A + 1))) (by rw [zl1, nI_add]) ?_
        refine z_putI zf9_170 dX9_goesOnBehind_184 (fun h => by cases h) (by decide) rfl ?_
        refine z_iconst (v := 1) dX9_goesOnBehind_187 (by decide) ?_
        refine z_zret dX9_goesOnBehind_188 rfl (by decide) ?_
        exact absurd (show zb (decide (tk A = 60)) = 0 by assumption) (show ¬ zb (decide (tk A = 60)) = 0 by assumption)
      · skip
        refine z_iconst (v := 5) dX9_goesOnBehind_170 (by decide) ?_
        refine z_goto 176 dX9_goesOnBehind_171 (by decide) ?_
        refine z_iast dX9_goesOnBehind_176 (by decide) rfl (zvin (by omega) (by omega)) ?_
        simp only [zcl (show d ≤ 100000 by omega)]
        refine z_aload_n (i := 0) dX9_goesOnBehind_177 rfl hl0 ?_
        refine z_dup dX9_goesOnBehind_178 rfl ?_
        refine z_gI zf9_170.g dX9_goesOnBehind_179 (by decide) rfl ?_
        rw [show ((zu I 12 d _ : Nat → Nat → Int32)) 0 7 = nI A from h7]
        refine z_iconst (v := 1) dX9_goesOnBehind_182 (by decide) ?_
        refine z_iadd dX9_goesOnBehind_183 ?_
        refine z_top (y := .int (nI (A + 1))) (by rw [zl1, nI_add]) ?_
        refine z_putI zf9_170 dX9_goesOnBehind_184 (fun h => by cases h) (by decide) rfl ?_
        refine z_iconst (v := 1) dX9_goesOnBehind_187 (by decide) ?_
        refine z_zret dX9_goesOnBehind_188 rfl (by decide) ?_
        have e60 : tk A = 60 := (of_decide_eq_true ((zb_n _).mp (show ¬ zb (decide (tk A = 60)) = 0 by assumption)))
        rw [hQ, q96_e, if_pos ha0, if_pos e60]
        exact ⟨rfl, _, rfl, mRep_at (mRep_g hR 5) (A + 1), hF.tr ((mFr_w (Or.inr (Or.inl rfl))).tr mFr_at)⟩
    · skip
      refine z_aload_n (i := 0) dX9_goesOnBehind_144 rfl hl0 ?_
      refine z_bipush (v := 61) dX9_goesOnBehind_145 (by decide) ?_
      refine z_callV (st := []) (mc2 := 0) (ms2 := 0) zi9_176 zv_yX9_isSign (c9_isSign _ _ _ A (by omega) h7) dX9_goesOnBehind_147 (show (0 : Nat) < 35 by decide) rfl rfl rfl rfl (by decide) (by decide) (Nat.le_of_ble_eq_true rfl) (by decide) (by decide) (fun r h2 hq => ?_)
      obtain ⟨rfl, rfl⟩ := hq
      rw [show msg I L A 61 = decide (tk A = 61) from mTok_msg hT hA rfl h8]
      refine z_if_eq 189 dX9_goesOnBehind_150 (by decide) (fun c_4 => ?_) (fun c_4 => ?_)
      · skip
        have e60 : ¬ tk A = 60 := (of_decide_eq_false ((zb_0 _).mp (by assumption)))
        have e61 : ¬ tk A = 61 := (of_decide_eq_false ((zb_0 _).mp c_4))
        exact hnx I A 0 out d sW gW aW ls hT hA rfl hd hD hz h7w hR hF hl0 (by rw [hQ, q96_e, if_pos ha0, if_neg e60, if_neg e61])
      · skip
        refine z_aload_n (i := 0) dX9_goesOnBehind_153 rfl hl0 ?_
        refine z_gR zf9_68.g dX9_goesOnBehind_154 (by decide) rfl rfl ?_
        refine z_aload_n (i := 0) dX9_goesOnBehind_157 rfl hl0 ?_
        refine z_gI zf9_209.g dX9_goesOnBehind_158 (by decide) rfl ?_
        rw [h18]
        refine z_aload_n (i := 0) dX9_goesOnBehind_161 rfl hl0 ?_
        refine z_bipush (v := 60) dX9_goesOnBehind_162 (by decide) ?_
        refine z_callV (st := [_, _]) (mc2 := 0) (ms2 := 0) zi9_176 zv_yX9_isSign (c9_isSign _ _ _ A (by omega) h7) dX9_goesOnBehind_164 (show (0 : Nat) < 35 by decide) rfl rfl rfl rfl (by decide) (by decide) (Nat.le_of_ble_eq_true rfl) (by decide) (by decide) (fun r h2 hq => ?_)
        obtain ⟨rfl, rfl⟩ := hq
        rw [show msg I L A 60 = decide (tk A = 60) from mTok_msg hT hA rfl h8]
        refine z_if_eq 174 dX9_goesOnBehind_167 (by decide) (fun c_5 => ?_) (fun c_5 => ?_)
        · skip
          refine z_bipush (v := 6) dX9_goesOnBehind_174 (by decide) ?_
          refine z_iast dX9_goesOnBehind_176 (by decide) rfl (zvin (by omega) (by omega)) ?_
          simp only [zcl (show d ≤ 100000 by omega)]
          refine z_aload_n (i := 0) dX9_goesOnBehind_177 rfl hl0 ?_
          refine z_dup dX9_goesOnBehind_178 rfl ?_
          refine z_gI zf9_170.g dX9_goesOnBehind_179 (by decide) rfl ?_
          rw [show ((zu I 12 d _ : Nat → Nat → Int32)) 0 7 = nI A from h7]
          refine z_iconst (v := 1) dX9_goesOnBehind_182 (by decide) ?_
          refine z_iadd dX9_goesOnBehind_183 ?_
          refine z_top (y := .int (nI (A + 1))) (by rw [zl1, nI_add]) ?_
          refine z_putI zf9_170 dX9_goesOnBehind_184 (fun h => by cases h) (by decide) rfl ?_
          refine z_iconst (v := 1) dX9_goesOnBehind_187 (by decide) ?_
          refine z_zret dX9_goesOnBehind_188 rfl (by decide) ?_
          have e60 : ¬ tk A = 60 := (of_decide_eq_false ((zb_0 _).mp (show zb (decide (tk A = 60)) = 0 by assumption)))
          have e61 : tk A = 61 := (of_decide_eq_true ((zb_n _).mp (show ¬ zb (decide (tk A = 61)) = 0 by assumption)))
          rw [hQ, q96_e, if_pos ha0, if_neg e60, if_pos e61]
          exact ⟨rfl, _, rfl, mRep_at (mRep_g hR 6) (A + 1), hF.tr ((mFr_w (Or.inr (Or.inl rfl))).tr mFr_at)⟩
        · skip
          refine z_iconst (v := 5) dX9_goesOnBehind_170 (by decide) ?_
          refine z_goto 176 dX9_goesOnBehind_171 (by decide) ?_
          refine z_iast dX9_goesOnBehind_176 (by decide) rfl (zvin (by omega) (by omega)) ?_
          simp only [zcl (show d ≤ 100000 by omega)]
          refine z_aload_n (i := 0) dX9_goesOnBehind_177 rfl hl0 ?_
          refine z_dup dX9_goesOnBehind_178 rfl ?_
          refine z_gI zf9_170.g dX9_goesOnBehind_179 (by decide) rfl ?_
          rw [show ((zu I 12 d _ : Nat → Nat → Int32)) 0 7 = nI A from h7]
          refine z_iconst (v := 1) dX9_goesOnBehind_182 (by decide) ?_
          refine z_iadd dX9_goesOnBehind_183 ?_
          refine z_top (y := .int (nI (A + 1))) (by rw [zl1, nI_add]) ?_
          refine z_putI zf9_170 dX9_goesOnBehind_184 (fun h => by cases h) (by decide) rfl ?_
          refine z_iconst (v := 1) dX9_goesOnBehind_187 (by decide) ?_
          refine z_zret dX9_goesOnBehind_188 rfl (by decide) ?_
          exact absurd (show zb (decide (tk A = 60)) = 0 by assumption) (show ¬ zb (decide (tk A = 60)) = 0 by assumption)
  · skip
    have ha0 : ¬ gW d = 0 := fun e => c_1 (by rw [e]; rfl)
    have nzp := nz_p ha0
    refine z_aload_n (i := 0) dX9_goesOnBehind_108 rfl hl0 ?_
    refine z_aload_n (i := 0) dX9_goesOnBehind_109 rfl hl0 ?_
    refine z_gR zf9_68.g dX9_goesOnBehind_110 (by decide) rfl rfl ?_
    refine z_aload_n (i := 0) dX9_goesOnBehind_113 rfl hl0 ?_
    refine z_gI zf9_209.g dX9_goesOnBehind_114 (by decide) rfl ?_
    rw [h18]
    refine z_iald dX9_goesOnBehind_117 (by decide) rfl (zvin (by omega) (by omega)) ?_
    rw [zcl (show d ≤ 100000 by omega), w2]
    refine z_iconst (v := 0) dX9_goesOnBehind_118 (by decide) ?_
    refine z_callV (st := []) (mc2 := 0) (ms2 := 0) zi9_222 zv_yX9_emit (c9_emit I L (nI (gW d)) 0 b out.length hb (by omega) h16 h17) dX9_goesOnBehind_119 (show (0 : Nat) < 35 by decide) rfl rfl rfl rfl (by decide) (by decide) (Nat.le_of_ble_eq_true rfl) (by decide) (by decide) (fun r h2 hq => ?_)
    obtain ⟨rfl, rfl⟩ := hq
    try simp only [Option.toList, List.nil_append]
    refine z_aload_n (i := 0) dX9_goesOnBehind_122 rfl hl0 ?_
    refine z_gR zf9_68.g dX9_goesOnBehind_123 (by decide) rfl rfl ?_
    refine z_aload_n (i := 0) dX9_goesOnBehind_126 rfl hl0 ?_
    refine z_gI zf9_209.g dX9_goesOnBehind_127 (by decide) rfl ?_
    rw [show mem I b out.length (nI (gW d)) 0 0 18 = nI d from h18]
    refine z_iconst (v := 0) dX9_goesOnBehind_130 (by decide) ?_
    refine z_iast dX9_goesOnBehind_131 (by decide) rfl (zvin (by omega) (by omega)) ?_
    simp only [zcl (show d ≤ 100000 by omega)]
    refine z_goto 189 dX9_goesOnBehind_132 (by decide) ?_
    refine hnx _ A 0 (out ++ [(gW d, 0)]) d sW (va_up gW d 0) aW ls (mTok_cong hT rfl rfl) hA rfl hd hD ?_ (w7_g h7w d (by decide)) (mRep_g (mRep_emit hR (gW d) 0) 0) (hF.tr ((mFr_emit (by omega)).tr (mFr_w (Or.inr (Or.inl rfl))))) hl0 (by rw [hQ, q96_e, if_neg ha0])
    unfold psz
    dsimp only
    rw [pnd_g, nz_0, List.length_append]
    simp only [List.length_cons, List.length_nil]
    omega
set_option maxHeartbeats 4000000 in
theorem l9_g43 {L : Nat → Nat → Int64} {Q : Option Value → ZH → Prop} {I0 : Nat → Nat → Int32} {n b : Nat} {tk tp tv : Nat → Nat} {rec : MP → MP × Bool} {D : Nat} (hb : b < 2) (hnx : ∀ (I : Nat → Nat → Int32) (A : Nat) (f : Int32) (out : List (Nat × Int32)) (d : Nat) (sW gW aW : Nat → Nat) (ls : Nat → Option Value), mTok I L n tk tp tv → A ≤ n → f = 0 → d ≤ 5 → d ≤ D → psz (A, f, out, d, sW, gW, aW) ≤ 640 → w7 sW gW aW → mRep I b (A, f, out, d, sW, gW, aW) → mFr I0 I b → ls 0 = some (.ref 0) → Q = mQr I0 L b (q96 tk tp rec (A, f, out, d, sW, gW, aW)) → Zf x9_goesOnBehind 0 0 96 ls [] (mh I L) Q) : ∀ (I : Nat → Nat → Int32) (A : Nat) (f : Int32) (out : List (Nat × Int32)) (d : Nat) (sW gW aW : Nat → Nat) (ls : Nat → Option Value), mTok I L n tk tp tv → A ≤ n → f = 0 → d ≤ 5 → d ≤ D → psz (A, f, out, d, sW, gW, aW) ≤ 640 → w7 sW gW aW → mRep I b (A, f, out, d, sW, gW, aW) → mFr I0 I b → ls 0 = some (.ref 0) → Q = mQr I0 L b (q43 tk tp rec (A, f, out, d, sW, gW, aW)) → Zf x9_goesOnBehind 0 0 43 ls [] (mh I L) Q := by
  intro I A f out d sW gW aW ls hT hA hf hd hD hz h7w hR hF hl0 hQ
  subst hf
  have hn := hT.1
  obtain ⟨h7, h8, h16, h17, hc, h18, hw⟩ := id hR
  obtain ⟨w1, w2, w3⟩ := hw d (Nat.le_refl _)
  dsimp only at h7 h8 h16 h17 hc h18 w1 w2 w3
  have hz2 := hz
  unfold psz at hz2
  dsimp only at hz2
  rw [pnd_b] at hz2
  refine z_aload_n (i := 0) dX9_goesOnBehind_43 rfl hl0 ?_
  refine z_bipush (v := 43) dX9_goesOnBehind_44 (by decide) ?_
  refine z_callV (st := []) (mc2 := 0) (ms2 := 0) zi9_176 zv_yX9_isSign (c9_isSign _ _ _ A (by omega) h7) dX9_goesOnBehind_46 (show (0 : Nat) < 35 by decide) rfl rfl rfl rfl (by decide) (by decide) (Nat.le_of_ble_eq_true rfl) (by decide) (by decide) (fun r h2 hq => ?_)
  obtain ⟨rfl, rfl⟩ := hq
  rw [show msg I L A 43 = decide (tk A = 43) from mTok_msg hT hA rfl h8]
  refine z_if_ne 61 dX9_goesOnBehind_49 (by decide) (fun c_1 => ?_) (fun c_1 => ?_)
  · skip
    refine z_aload_n (i := 0) dX9_goesOnBehind_61 rfl hl0 ?_
    refine z_gR zf9_65.g dX9_goesOnBehind_62 (by decide) rfl rfl ?_
    refine z_aload_n (i := 0) dX9_goesOnBehind_65 rfl hl0 ?_
    refine z_gI zf9_209.g dX9_goesOnBehind_66 (by decide) rfl ?_
    rw [h18]
    refine z_aload_n (i := 0) dX9_goesOnBehind_69 rfl hl0 ?_
    refine z_bipush (v := 43) dX9_goesOnBehind_70 (by decide) ?_
    refine z_callV (st := [_, _]) (mc2 := 0) (ms2 := 0) zi9_176 zv_yX9_isSign (c9_isSign _ _ _ A (by omega) h7) dX9_goesOnBehind_72 (show (0 : Nat) < 35 by decide) rfl rfl rfl rfl (by decide) (by decide) (Nat.le_of_ble_eq_true rfl) (by decide) (by decide) (fun r h2 hq => ?_)
    obtain ⟨rfl, rfl⟩ := hq
    rw [show msg I L A 43 = decide (tk A = 43) from mTok_msg hT hA rfl h8]
    refine z_if_eq 82 dX9_goesOnBehind_75 (by decide) (fun c_2 => ?_) (fun c_2 => ?_)
    · skip
      refine z_iconst (v := 4) dX9_goesOnBehind_82 (by decide) ?_
      refine z_iast dX9_goesOnBehind_83 (by decide) rfl (zvin (by omega) (by omega)) ?_
      simp only [zcl (show d ≤ 100000 by omega)]
      refine z_aload_n (i := 0) dX9_goesOnBehind_84 rfl hl0 ?_
      refine z_dup dX9_goesOnBehind_85 rfl ?_
      refine z_gI zf9_170.g dX9_goesOnBehind_86 (by decide) rfl ?_
      rw [show ((zu I 11 d _ : Nat → Nat → Int32)) 0 7 = nI A from h7]
      refine z_iconst (v := 1) dX9_goesOnBehind_89 (by decide) ?_
      refine z_iadd dX9_goesOnBehind_90 ?_
      refine z_top (y := .int (nI (A + 1))) (by rw [zl1, nI_add]) ?_
      refine z_putI zf9_170 dX9_goesOnBehind_91 (fun h => by cases h) (by decide) rfl ?_
      refine z_iconst (v := 1) dX9_goesOnBehind_94 (by decide) ?_
      refine z_zret dX9_goesOnBehind_95 rfl (by decide) ?_
      exact absurd (show zb (decide (tk A = 43)) = 0 by assumption) (show ¬ zb (decide (tk A = 43)) = 0 by assumption)
    · skip
      refine z_iconst (v := 3) dX9_goesOnBehind_78 (by decide) ?_
      refine z_goto 83 dX9_goesOnBehind_79 (by decide) ?_
      refine z_iast dX9_goesOnBehind_83 (by decide) rfl (zvin (by omega) (by omega)) ?_
      simp only [zcl (show d ≤ 100000 by omega)]
      refine z_aload_n (i := 0) dX9_goesOnBehind_84 rfl hl0 ?_
      refine z_dup dX9_goesOnBehind_85 rfl ?_
      refine z_gI zf9_170.g dX9_goesOnBehind_86 (by decide) rfl ?_
      rw [show ((zu I 11 d _ : Nat → Nat → Int32)) 0 7 = nI A from h7]
      refine z_iconst (v := 1) dX9_goesOnBehind_89 (by decide) ?_
      refine z_iadd dX9_goesOnBehind_90 ?_
      refine z_top (y := .int (nI (A + 1))) (by rw [zl1, nI_add]) ?_
      refine z_putI zf9_170 dX9_goesOnBehind_91 (fun h => by cases h) (by decide) rfl ?_
      refine z_iconst (v := 1) dX9_goesOnBehind_94 (by decide) ?_
      refine z_zret dX9_goesOnBehind_95 rfl (by decide) ?_
      have e43 : tk A = 43 := (of_decide_eq_true ((zb_n _).mp (show ¬ zb (decide (tk A = 43)) = 0 by assumption)))
      rw [hQ, q43_e, if_pos e43]
      exact ⟨rfl, _, rfl, mRep_at (mRep_s hR 3) (A + 1), hF.tr ((mFr_w (Or.inl rfl)).tr mFr_at)⟩
  · skip
    refine z_aload_n (i := 0) dX9_goesOnBehind_52 rfl hl0 ?_
    refine z_bipush (v := 45) dX9_goesOnBehind_53 (by decide) ?_
    refine z_callV (st := []) (mc2 := 0) (ms2 := 0) zi9_176 zv_yX9_isSign (c9_isSign _ _ _ A (by omega) h7) dX9_goesOnBehind_55 (show (0 : Nat) < 35 by decide) rfl rfl rfl rfl (by decide) (by decide) (Nat.le_of_ble_eq_true rfl) (by decide) (by decide) (fun r h2 hq => ?_)
    obtain ⟨rfl, rfl⟩ := hq
    rw [show msg I L A 45 = decide (tk A = 45) from mTok_msg hT hA rfl h8]
    refine z_if_eq 96 dX9_goesOnBehind_58 (by decide) (fun c_3 => ?_) (fun c_3 => ?_)
    · skip
      have e43 : ¬ tk A = 43 := (of_decide_eq_false ((zb_0 _).mp (show zb (decide (tk A = 43)) = 0 by assumption)))
      have e45 : ¬ tk A = 45 := (of_decide_eq_false ((zb_0 _).mp (show zb (decide (tk A = 45)) = 0 by assumption)))
      exact hnx I A 0 out d sW gW aW ls hT hA rfl hd hD hz h7w hR hF hl0 (by rw [hQ, q43_e, if_neg e43, if_neg e45])
    · skip
      refine z_aload_n (i := 0) dX9_goesOnBehind_61 rfl hl0 ?_
      refine z_gR zf9_65.g dX9_goesOnBehind_62 (by decide) rfl rfl ?_
      refine z_aload_n (i := 0) dX9_goesOnBehind_65 rfl hl0 ?_
      refine z_gI zf9_209.g dX9_goesOnBehind_66 (by decide) rfl ?_
      rw [h18]
      refine z_aload_n (i := 0) dX9_goesOnBehind_69 rfl hl0 ?_
      refine z_bipush (v := 43) dX9_goesOnBehind_70 (by decide) ?_
      refine z_callV (st := [_, _]) (mc2 := 0) (ms2 := 0) zi9_176 zv_yX9_isSign (c9_isSign _ _ _ A (by omega) h7) dX9_goesOnBehind_72 (show (0 : Nat) < 35 by decide) rfl rfl rfl rfl (by decide) (by decide) (Nat.le_of_ble_eq_true rfl) (by decide) (by decide) (fun r h2 hq => ?_)
      obtain ⟨rfl, rfl⟩ := hq
      rw [show msg I L A 43 = decide (tk A = 43) from mTok_msg hT hA rfl h8]
      refine z_if_eq 82 dX9_goesOnBehind_75 (by decide) (fun c_4 => ?_) (fun c_4 => ?_)
      · skip
        refine z_iconst (v := 4) dX9_goesOnBehind_82 (by decide) ?_
        refine z_iast dX9_goesOnBehind_83 (by decide) rfl (zvin (by omega) (by omega)) ?_
        simp only [zcl (show d ≤ 100000 by omega)]
        refine z_aload_n (i := 0) dX9_goesOnBehind_84 rfl hl0 ?_
        refine z_dup dX9_goesOnBehind_85 rfl ?_
        refine z_gI zf9_170.g dX9_goesOnBehind_86 (by decide) rfl ?_
        rw [show ((zu I 11 d _ : Nat → Nat → Int32)) 0 7 = nI A from h7]
        refine z_iconst (v := 1) dX9_goesOnBehind_89 (by decide) ?_
        refine z_iadd dX9_goesOnBehind_90 ?_
        refine z_top (y := .int (nI (A + 1))) (by rw [zl1, nI_add]) ?_
        refine z_putI zf9_170 dX9_goesOnBehind_91 (fun h => by cases h) (by decide) rfl ?_
        refine z_iconst (v := 1) dX9_goesOnBehind_94 (by decide) ?_
        refine z_zret dX9_goesOnBehind_95 rfl (by decide) ?_
        have e43 : ¬ tk A = 43 := (of_decide_eq_false ((zb_0 _).mp (show zb (decide (tk A = 43)) = 0 by assumption)))
        have e45 : tk A = 45 := (of_decide_eq_true ((zb_n _).mp (show ¬ zb (decide (tk A = 45)) = 0 by assumption)))
        rw [hQ, q43_e, if_neg e43, if_pos e45]
        exact ⟨rfl, _, rfl, mRep_at (mRep_s hR 4) (A + 1), hF.tr ((mFr_w (Or.inl rfl)).tr mFr_at)⟩
      · skip
        refine z_iconst (v := 3) dX9_goesOnBehind_78 (by decide) ?_
        refine z_goto 83 dX9_goesOnBehind_79 (by decide) ?_
        refine z_iast dX9_goesOnBehind_83 (by decide) rfl (zvin (by omega) (by omega)) ?_
        simp only [zcl (show d ≤ 100000 by omega)]
        refine z_aload_n (i := 0) dX9_goesOnBehind_84 rfl hl0 ?_
        refine z_dup dX9_goesOnBehind_85 rfl ?_
        refine z_gI zf9_170.g dX9_goesOnBehind_86 (by decide) rfl ?_
        rw [show ((zu I 11 d _ : Nat → Nat → Int32)) 0 7 = nI A from h7]
        refine z_iconst (v := 1) dX9_goesOnBehind_89 (by decide) ?_
        refine z_iadd dX9_goesOnBehind_90 ?_
        refine z_top (y := .int (nI (A + 1))) (by rw [zl1, nI_add]) ?_
        refine z_putI zf9_170 dX9_goesOnBehind_91 (fun h => by cases h) (by decide) rfl ?_
        refine z_iconst (v := 1) dX9_goesOnBehind_94 (by decide) ?_
        refine z_zret dX9_goesOnBehind_95 rfl (by decide) ?_
        exact absurd (show zb (decide (tk A = 43)) = 0 by assumption) (show ¬ zb (decide (tk A = 43)) = 0 by assumption)
set_option maxHeartbeats 4000000 in
theorem l9_g0 {L : Nat → Nat → Int64} {Q : Option Value → ZH → Prop} {I0 : Nat → Nat → Int32} {n b : Nat} {tk tp tv : Nat → Nat} {rec : MP → MP × Bool} {D : Nat} (hb : b < 2) (hnx : ∀ (I : Nat → Nat → Int32) (A : Nat) (f : Int32) (out : List (Nat × Int32)) (d : Nat) (sW gW aW : Nat → Nat) (ls : Nat → Option Value), mTok I L n tk tp tv → A ≤ n → f = 0 → d ≤ 5 → d ≤ D → psz (A, f, out, d, sW, gW, aW) ≤ 640 → w7 sW gW aW → mRep I b (A, f, out, d, sW, gW, aW) → mFr I0 I b → ls 0 = some (.ref 0) → Q = mQr I0 L b (q43 tk tp rec (A, f, out, d, sW, gW, aW)) → Zf x9_goesOnBehind 0 0 43 ls [] (mh I L) Q) : ∀ (I : Nat → Nat → Int32) (A : Nat) (f : Int32) (out : List (Nat × Int32)) (d : Nat) (sW gW aW : Nat → Nat) (ls : Nat → Option Value), mTok I L n tk tp tv → A ≤ n → d ≤ 5 → d ≤ D → psz (A, f, out, d, sW, gW, aW) ≤ 640 → w7 sW gW aW → mRep I b (A, f, out, d, sW, gW, aW) → mFr I0 I b → ls 0 = some (.ref 0) → Q = mQr I0 L b (q0 tk tp rec (A, f, out, d, sW, gW, aW)) → Zf x9_goesOnBehind 0 0 0 ls [] (mh I L) Q := by
  intro I A f out d sW gW aW ls hT hA hd hD hz h7w hR hF hl0 hQ
  have hn := hT.1
  obtain ⟨h7, h8, h16, h17, hc, h18, hw⟩ := id hR
  obtain ⟨w1, w2, w3⟩ := hw d (Nat.le_refl _)
  dsimp only at h7 h8 h16 h17 hc h18 w1 w2 w3
  have hz2 := hz
  unfold psz at hz2
  dsimp only at hz2
  rw [pnd_b] at hz2
  refine z_aload_n (i := 0) dX9_goesOnBehind_0 rfl hl0 ?_
  refine z_gI zf9_173.g dX9_goesOnBehind_1 (by decide) rfl ?_
  rw [h8]
  refine z_if_ne 277 dX9_goesOnBehind_4 (by decide) (fun c_1 => ?_) (fun c_1 => ?_)
  · skip
    refine z_iconst (v := 0) dX9_goesOnBehind_277 (by decide) ?_
    refine z_zret dX9_goesOnBehind_278 rfl (by decide) ?_
    rw [hQ, q0_e, if_neg c_1]
    exact ⟨rfl, I, rfl, hR, hF⟩
  · skip
    have hf := c_1
    subst hf
    refine z_aload_n (i := 0) dX9_goesOnBehind_7 rfl hl0 ?_
    refine z_gR zf9_65.g dX9_goesOnBehind_8 (by decide) rfl rfl ?_
    refine z_aload_n (i := 0) dX9_goesOnBehind_11 rfl hl0 ?_
    refine z_gI zf9_209.g dX9_goesOnBehind_12 (by decide) rfl ?_
    rw [h18]
    refine z_iald dX9_goesOnBehind_15 (by decide) rfl (zvin (by omega) (by omega)) ?_
    rw [zcl (show d ≤ 100000 by omega), w1]
    refine z_if_eq 43 dX9_goesOnBehind_16 (by decide) (fun c_2 => ?_) (fun c_2 => ?_)
    · skip
      have ha0 : sW d = 0 := w0_of c_2 (h7w d).1
      exact hnx I A 0 out d sW gW aW ls hT hA rfl hd hD hz h7w hR hF hl0 (by rw [hQ, q0_e, if_pos rfl, if_pos ha0])
    · skip
      have ha0 : ¬ sW d = 0 := fun e => c_2 (by rw [e]; rfl)
      have nzp := nz_p ha0
      refine z_aload_n (i := 0) dX9_goesOnBehind_19 rfl hl0 ?_
      refine z_aload_n (i := 0) dX9_goesOnBehind_20 rfl hl0 ?_
      refine z_gR zf9_65.g dX9_goesOnBehind_21 (by decide) rfl rfl ?_
      refine z_aload_n (i := 0) dX9_goesOnBehind_24 rfl hl0 ?_
      refine z_gI zf9_209.g dX9_goesOnBehind_25 (by decide) rfl ?_
      rw [h18]
      refine z_iald dX9_goesOnBehind_28 (by decide) rfl (zvin (by omega) (by omega)) ?_
      rw [zcl (show d ≤ 100000 by omega), w1]
      refine z_iconst (v := 0) dX9_goesOnBehind_29 (by decide) ?_
      refine z_callV (st := []) (mc2 := 0) (ms2 := 0) zi9_222 zv_yX9_emit (c9_emit I L (nI (sW d)) 0 b out.length hb (by omega) h16 h17) dX9_goesOnBehind_30 (show (0 : Nat) < 35 by decide) rfl rfl rfl rfl (by decide) (by decide) (Nat.le_of_ble_eq_true rfl) (by decide) (by decide) (fun r h2 hq => ?_)
      obtain ⟨rfl, rfl⟩ := hq
      try simp only [Option.toList, List.nil_append]
      refine z_aload_n (i := 0) dX9_goesOnBehind_33 rfl hl0 ?_
      refine z_gR zf9_65.g dX9_goesOnBehind_34 (by decide) rfl rfl ?_
      refine z_aload_n (i := 0) dX9_goesOnBehind_37 rfl hl0 ?_
      refine z_gI zf9_209.g dX9_goesOnBehind_38 (by decide) rfl ?_
      rw [show mem I b out.length (nI (sW d)) 0 0 18 = nI d from h18]
      refine z_iconst (v := 0) dX9_goesOnBehind_41 (by decide) ?_
      refine z_iast dX9_goesOnBehind_42 (by decide) rfl (zvin (by omega) (by omega)) ?_
      simp only [zcl (show d ≤ 100000 by omega)]
      refine hnx _ A 0 (out ++ [(sW d, 0)]) d (va_up sW d 0) gW aW ls (mTok_cong hT rfl rfl) hA rfl hd hD ?_ (w7_s h7w d (by decide)) (mRep_s (mRep_emit hR (sW d) 0) 0) (hF.tr ((mFr_emit (by omega)).tr (mFr_w (Or.inl rfl)))) hl0 (by rw [hQ, q0_e, if_pos rfl, if_neg ha0])
      unfold psz
      dsimp only
      rw [pnd_s, nz_0, List.length_append]
      simp only [List.length_cons, List.length_nil]
      omega
set_option maxHeartbeats 4000000 in
theorem l9_gob {L : Nat → Nat → Int64} {Q : Option Value → ZH → Prop} {I0 : Nat → Nat → Int32} {n b : Nat} {tk tp tv : Nat → Nat} (hb : b < 2) : ∀ (m : Nat), ∀ (I : Nat → Nat → Int32) (A : Nat) (f : Int32) (out : List (Nat × Int32)) (d : Nat) (sW gW aW : Nat → Nat) (ls : Nat → Option Value), mTok I L n tk tp tv → A ≤ n → d ≤ 5 → d < m → psz (A, f, out, d, sW, gW, aW) ≤ 640 → w7 sW gW aW → mRep I b (A, f, out, d, sW, gW, aW) → mFr I0 I b → ls 0 = some (.ref 0) → Q = mQr I0 L b (pGob tk tp m (A, f, out, d, sW, gW, aW)) → Zf x9_goesOnBehind 0 0 0 ls [] (mh I L) Q := by
  intro m
  induction m with
  | zero => intro I A f out d sW gW aW ls hT hA hd hm; omega
  | succ m ih =>
  intro I A f out d sW gW aW ls hT hA hd hm hz h7w hR hF hl0 hQ
  exact l9_g0 (D := m) hb (l9_g43 (D := m) hb (l9_g96 (D := m) hb (l9_g189 (D := m) hb (l9_g218 (D := m) hb (l9_g249 (D := m) hb (fun I A f out d sW gW aW ls a1 a2 a3 a4 a5 a6 a7 a8 a9 a10 => ih I A f out d sW gW aW ls a1 a2 a4 a3 a5 a6 a7 a8 a9 a10)))))) I A f out d sW gW aW ls hT hA hd (by omega) hz h7w hR hF hl0 hQ
set_option maxHeartbeats 4000000 in
theorem c9_goesOnBehind (I : Nat → Nat → Int32) (L : Nat → Nat → Int64) (n b : Nat) (tk tp tv : Nat → Nat) (hb : b < 2) (A : Nat) (f : Int32) (out : List (Nat × Int32)) (d : Nat) (sW gW aW : Nat → Nat) (hT : mTok I L n tk tp tv) (hA : A ≤ n) (hd : d ≤ 5) (hz : psz (A, f, out, d, sW, gW, aW) ≤ 640) (h7w : w7 sW gW aW) (hR : mRep I b (A, f, out, d, sW, gW, aW)) : Zm yX9_goesOnBehind cX9_goesOnBehind 1 (some .boolean) 2 80 0 0 [.ref 0] (mh I L) (mQr I L b (pGob tk tp 6 (A, f, out, d, sW, gW, aW))) := by
  refine Zm_of (lg := false) (by decide) (fun _ => by simp [Value.category]) (fun _ => Nat.le_of_ble_eq_true rfl) ?_
  show Zf x9_goesOnBehind 0 0 0 (zargs [.ref 0]) [] (mh I L) _
  exact l9_gob hb 6 I A f out d sW gW aW _ hT hA hd (by omega) hz h7w hR (mFr.rf I b) rfl rfl
