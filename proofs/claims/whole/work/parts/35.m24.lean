theorem zp_ref {ls : Nat → Option Value} {i a : Nat} (h : ls i = some (.ref a)) : ∀ (j : Nat) (w : Value), j + 1 = i + 1 → ls j = some w → w.category = 1 := by
  intro j w hj hw
  have e : j = i := by omega
  rw [e, h] at hw
  cases hw
  rfl
set_option maxHeartbeats 4000000 in
theorem l9_c129 {I : Nat → Nat → Int32} {L : Nat → Nat → Int64} {Q : Option Value → ZH → Prop} {N a e : Nat} {v : Int64} (hN : N ≤ 600) (hae : a ≤ e) (he : e ≤ 600) (ls : Nat → Option Value) (hl0 : ls 0 = some (.ref 0)) (hl1 : ls 1 = some (.int (nI N))) (hl2 : ls 2 = some (.int (nI e))) (hl4 : ls 4 = some (.int (nI a))) (hl5 : ls 5 = some (.long v)) (hl6 : ls 6 = none) (hk : ∀ l2 : Nat → Option Value, l2 0 = some (.ref 0) → l2 1 = some (.int (nI (N + 1))) → l2 2 = some (.int (nI e)) → l2 6 = none → Zf x9_cutAll 0 0 17 l2 [] (mh (zu I 2 N (if 8 < e - a then 4 else 1)) (zu L 4 N (v))) Q) : Zf x9_cutAll 0 0 129 ls [] (mh I L) Q := by
  refine z_aload_n (i := 0) dX9_cutAll_129 rfl hl0 ?_
  refine z_gR zf9_13.g dX9_cutAll_130 (by decide) rfl rfl ?_
  refine z_iload_n (i := 1) dX9_cutAll_133 rfl hl1 ?_
  refine z_iload_n (i := 2) dX9_cutAll_134 rfl hl2 ?_
  refine z_iload dX9_cutAll_135 hl4 ?_
  refine z_isub dX9_cutAll_137 ?_
  refine z_top (y := .int (nI (e - a))) (by rw [pk_sub hae]) ?_
  refine z_bipush (v := 8) dX9_cutAll_138 (by decide) ?_
  refine z_icmp_le 147 dX9_cutAll_140 (by decide) (fun c_1 => ?_) (fun c_1 => ?_)
  · skip
    refine z_iconst (v := 1) dX9_cutAll_147 (by decide) ?_
    refine z_iast dX9_cutAll_148 (by decide) rfl (zvin (by omega) (by omega)) ?_
    refine z_goto 265 dX9_cutAll_149 (by decide) ?_
    simp only [zcl (show N ≤ 100000 by omega)]
    refine z_aload_n (i := 0) dX9_cutAll_265 rfl hl0 ?_
    refine z_gR zf9_19.g dX9_cutAll_266 (by decide) rfl rfl ?_
    refine z_iload_n (i := 1) dX9_cutAll_269 rfl hl1 ?_
    refine z_lload dX9_cutAll_270 hl5 ?_
    refine z_last dX9_cutAll_272 (by decide) rfl (zvin (by omega) (by omega)) ?_
    simp only [zcl (show N ≤ 100000 by omega)]
    refine z_iincL dX9_cutAll_273 hl1 (zp_ref hl0) ?_
    refine z_goto 17 dX9_cutAll_276 (by decide) ?_
    have h9 : ¬ 8 < e - a := fun q => absurd ((zle (b := 8) (by omega) (by omega)).mp c_1) (by omega)
    rw [if_neg h9] at hk
    rw [zinc]
    exact hk _ hl0 rfl hl2 hl6
  · skip
    refine z_iconst (v := 4) dX9_cutAll_143 (by decide) ?_
    refine z_goto 148 dX9_cutAll_144 (by decide) ?_
    refine z_iast dX9_cutAll_148 (by decide) rfl (zvin (by omega) (by omega)) ?_
    refine z_goto 265 dX9_cutAll_149 (by decide) ?_
    simp only [zcl (show N ≤ 100000 by omega)]
    refine z_aload_n (i := 0) dX9_cutAll_265 rfl hl0 ?_
    refine z_gR zf9_19.g dX9_cutAll_266 (by decide) rfl rfl ?_
    refine z_iload_n (i := 1) dX9_cutAll_269 rfl hl1 ?_
    refine z_lload dX9_cutAll_270 hl5 ?_
    refine z_last dX9_cutAll_272 (by decide) rfl (zvin (by omega) (by omega)) ?_
    simp only [zcl (show N ≤ 100000 by omega)]
    refine z_iincL dX9_cutAll_273 hl1 (zp_ref hl0) ?_
    refine z_goto 17 dX9_cutAll_276 (by decide) ?_
    have h9 : 8 < e - a := Nat.lt_of_not_le (fun q => c_1 ((zle (b := 8) (by omega) (by omega)).mpr q))
    rw [if_pos h9] at hk
    rw [zinc]
    exact hk _ hl0 rfl hl2 hl6
set_option maxHeartbeats 4000000 in
theorem l9_c218 {I : Nat → Nat → Int32} {L : Nat → Nat → Int64} {Q : Option Value → ZH → Prop} {N a e : Nat} {v : Int64} (hN : N ≤ 600) (hae : a ≤ e) (he : e ≤ 600) (ls : Nat → Option Value) (hl0 : ls 0 = some (.ref 0)) (hl1 : ls 1 = some (.int (nI N))) (hl2 : ls 2 = some (.int (nI e))) (hl4 : ls 4 = some (.int (nI a))) (hl5 : ls 5 = some (.long v)) (hl6 : ls 6 = none) (hk : ∀ l2 : Nat → Option Value, l2 0 = some (.ref 0) → l2 1 = some (.int (nI (N + 1))) → l2 2 = some (.int (nI e)) → l2 6 = none → Zf x9_cutAll 0 0 17 l2 [] (mh (zu I 2 N (if 4 < e - a then 4 else 2)) (zu L 4 N (v))) Q) : Zf x9_cutAll 0 0 218 ls [] (mh I L) Q := by
  refine z_aload_n (i := 0) dX9_cutAll_218 rfl hl0 ?_
  refine z_gR zf9_13.g dX9_cutAll_219 (by decide) rfl rfl ?_
  refine z_iload_n (i := 1) dX9_cutAll_222 rfl hl1 ?_
  refine z_iload_n (i := 2) dX9_cutAll_223 rfl hl2 ?_
  refine z_iload dX9_cutAll_224 hl4 ?_
  refine z_isub dX9_cutAll_226 ?_
  refine z_top (y := .int (nI (e - a))) (by rw [pk_sub hae]) ?_
  refine z_iconst (v := 4) dX9_cutAll_227 (by decide) ?_
  refine z_icmp_le 235 dX9_cutAll_228 (by decide) (fun c_1 => ?_) (fun c_1 => ?_)
  · skip
    refine z_iconst (v := 2) dX9_cutAll_235 (by decide) ?_
    refine z_iast dX9_cutAll_236 (by decide) rfl (zvin (by omega) (by omega)) ?_
    refine z_goto 265 dX9_cutAll_237 (by decide) ?_
    simp only [zcl (show N ≤ 100000 by omega)]
    refine z_aload_n (i := 0) dX9_cutAll_265 rfl hl0 ?_
    refine z_gR zf9_19.g dX9_cutAll_266 (by decide) rfl rfl ?_
    refine z_iload_n (i := 1) dX9_cutAll_269 rfl hl1 ?_
    refine z_lload dX9_cutAll_270 hl5 ?_
    refine z_last dX9_cutAll_272 (by decide) rfl (zvin (by omega) (by omega)) ?_
    simp only [zcl (show N ≤ 100000 by omega)]
    refine z_iincL dX9_cutAll_273 hl1 (zp_ref hl0) ?_
    refine z_goto 17 dX9_cutAll_276 (by decide) ?_
    have h9 : ¬ 4 < e - a := fun q => absurd ((zle (b := 4) (by omega) (by omega)).mp c_1) (by omega)
    rw [if_neg h9] at hk
    rw [zinc]
    exact hk _ hl0 rfl hl2 hl6
  · skip
    refine z_iconst (v := 4) dX9_cutAll_231 (by decide) ?_
    refine z_goto 236 dX9_cutAll_232 (by decide) ?_
    refine z_iast dX9_cutAll_236 (by decide) rfl (zvin (by omega) (by omega)) ?_
    refine z_goto 265 dX9_cutAll_237 (by decide) ?_
    simp only [zcl (show N ≤ 100000 by omega)]
    refine z_aload_n (i := 0) dX9_cutAll_265 rfl hl0 ?_
    refine z_gR zf9_19.g dX9_cutAll_266 (by decide) rfl rfl ?_
    refine z_iload_n (i := 1) dX9_cutAll_269 rfl hl1 ?_
    refine z_lload dX9_cutAll_270 hl5 ?_
    refine z_last dX9_cutAll_272 (by decide) rfl (zvin (by omega) (by omega)) ?_
    simp only [zcl (show N ≤ 100000 by omega)]
    refine z_iincL dX9_cutAll_273 hl1 (zp_ref hl0) ?_
    refine z_goto 17 dX9_cutAll_276 (by decide) ?_
    have h9 : 4 < e - a := Nat.lt_of_not_le (fun q => c_1 ((zle (b := 4) (by omega) (by omega)).mpr q))
    rw [if_pos h9] at hk
    rw [zinc]
    exact hk _ hl0 rfl hl2 hl6
set_option maxHeartbeats 4000000 in
theorem l9_c240 {I : Nat → Nat → Int32} {L : Nat → Nat → Int64} {Q : Option Value → ZH → Prop} {N k c : Nat} (hN : N ≤ 600) (hk6 : k ≤ 600) (hc : c ≤ 126) (ls : Nat → Option Value) (hl0 : ls 0 = some (.ref 0)) (hl1 : ls 1 = some (.int (nI N))) (hl2 : ls 2 = some (.int (nI k))) (hl3 : ls 3 = some (.int (nI c))) (hl4 : ls 4 = some (.int (nI k))) (hl6 : ls 6 = none) (hk : ∀ l2 : Nat → Option Value, l2 0 = some (.ref 0) → l2 1 = some (.int (nI (N + 1))) → l2 2 = some (.int (nI (k + 1))) → l2 6 = none → Zf x9_cutAll 0 0 17 l2 [] (mh (zu I 2 N (if isMark c = true then 3 else 4)) (zu L 4 N (lN c))) Q) : Zf x9_cutAll 0 0 240 ls [] (mh I L) Q := by
  refine z_iload_n (i := 3) dX9_cutAll_240 rfl hl3 ?_
  refine z_i2l dX9_cutAll_241 rfl ?_
  rw [nI_l (by omega)]
  refine z_lstoreL dX9_cutAll_242 rfl (by decide) (zp_int hl4) hl6 ?_
  refine z_aload_n (i := 0) dX9_cutAll_244 rfl hl0 ?_
  refine z_gR zf9_13.g dX9_cutAll_245 (by decide) rfl rfl ?_
  refine z_iload_n (i := 1) dX9_cutAll_248 rfl hl1 ?_
  refine z_iload_n (i := 3) dX9_cutAll_249 rfl hl3 ?_
  refine z_callS (st := [_, _]) (mc2 := 0) (ms2 := 0) zi9_167 zs_yX9_isSignOf (c9_isSignOf I L (nI c)) dX9_cutAll_250 rfl rfl (by decide) (by decide) (Nat.le_of_ble_eq_true rfl) (by decide) (by decide) (fun r h2 hq => ?_)
  obtain ⟨rfl, rfl⟩ := hq
  rw [isM_e c (by omega)]
  refine z_if_eq 260 dX9_cutAll_253 (by decide) (fun c_1 => ?_) (fun c_1 => ?_)
  · skip
    refine z_iconst (v := 4) dX9_cutAll_260 (by decide) ?_
    refine z_iast dX9_cutAll_261 (by decide) rfl (zvin (by omega) (by omega)) ?_
    simp only [zcl (show N ≤ 100000 by omega)]
    refine z_iincL dX9_cutAll_262 hl2 (zp_int hl1) ?_
    refine z_aload_n (i := 0) dX9_cutAll_265 rfl hl0 ?_
    refine z_gR zf9_19.g dX9_cutAll_266 (by decide) rfl rfl ?_
    refine z_iload_n (i := 1) dX9_cutAll_269 rfl hl1 ?_
    refine z_lload dX9_cutAll_270 rfl ?_
    refine z_last dX9_cutAll_272 (by decide) rfl (zvin (by omega) (by omega)) ?_
    simp only [zcl (show N ≤ 100000 by omega)]
    refine z_iincL dX9_cutAll_273 hl1 (zp_ref hl0) ?_
    refine z_goto 17 dX9_cutAll_276 (by decide) ?_
    rw [if_neg (by rw [(zb_0 _).mp c_1]; decide)] at hk
    rw [zinc, zinc]
    exact hk _ hl0 rfl rfl hl6
  · skip
    refine z_iconst (v := 3) dX9_cutAll_256 (by decide) ?_
    refine z_goto 261 dX9_cutAll_257 (by decide) ?_
    refine z_iast dX9_cutAll_261 (by decide) rfl (zvin (by omega) (by omega)) ?_
    simp only [zcl (show N ≤ 100000 by omega)]
    refine z_iincL dX9_cutAll_262 hl2 (zp_int hl1) ?_
    refine z_aload_n (i := 0) dX9_cutAll_265 rfl hl0 ?_
    refine z_gR zf9_19.g dX9_cutAll_266 (by decide) rfl rfl ?_
    refine z_iload_n (i := 1) dX9_cutAll_269 rfl hl1 ?_
    refine z_lload dX9_cutAll_270 rfl ?_
    refine z_last dX9_cutAll_272 (by decide) rfl (zvin (by omega) (by omega)) ?_
    simp only [zcl (show N ≤ 100000 by omega)]
    refine z_iincL dX9_cutAll_273 hl1 (zp_ref hl0) ?_
    refine z_goto 17 dX9_cutAll_276 (by decide) ?_
    rw [if_pos ((zb_n _).mp c_1)] at hk
    rw [zinc, zinc]
    exact hk _ hl0 rfl rfl hl6
/-- the tokens cut so far -/
def mAcc (J : Nat → Nat → Int32) (M : Nat → Nat → Int64) (acc : List (Nat × Nat × Nat)) : Prop := ∀ (i : Nat) (t : Nat × Nat × Nat), acc[i]? = some t → mtt (J 2 i) (M 4 i) (J 3 i) t
theorem mAcc_add {J : Nat → Nat → Int32} {M : Nat → Nat → Int64} {acc : List (Nat × Nat × Nat)} (h : mAcc J M acc) {s : Int32} {v : Int64} {p : Int32} {t : Nat × Nat × Nat} (ht : mtt s v p t) : mAcc (zu (zu J 3 acc.length p) 2 acc.length s) (zu M 4 acc.length v) (acc ++ [t]) := by
  intro i x hi
  have e1 : zu (zu J 3 acc.length p) 2 acc.length s 2 i = if i = acc.length then s else J 2 i := by simp [zu_apply]
  have e2 : zu (zu J 3 acc.length p) 2 acc.length s 3 i = if i = acc.length then p else J 3 i := by simp [zu_apply]
  have e3 : zu M 4 acc.length v 4 i = if i = acc.length then v else M 4 i := by simp [zu_apply]
  rw [e1, e2, e3]
  by_cases e : i < acc.length
  · rw [List.getElem?_append_left e] at hi
    rw [if_neg (by omega), if_neg (by omega), if_neg (by omega)]
    exact h i x hi
  · rw [List.getElem?_append_right (by omega)] at hi
    have hz : i - acc.length < 1 := (List.getElem?_eq_some_iff.mp hi).1
    have hj2 : i = acc.length := by omega
    rw [hj2, Nat.sub_self] at hi
    cases hi
    rw [hj2, if_pos rfl, if_pos rfl, if_pos rfl]
    exact ht
def tkF (W : List (Nat × Nat × Nat)) (i : Nat) : Nat := ((W[i]?).map (fun t => t.1)).getD 0
def tpF (W : List (Nat × Nat × Nat)) (T i : Nat) : Nat := ((W[i]?).map (fun t => t.2.1)).getD T
def tvF (W : List (Nat × Nat × Nat)) (i : Nat) : Nat := ((W[i]?).map (fun t => t.2.2)).getD 0
theorem mAcc_tok {J : Nat → Nat → Int32} {M : Nat → Nat → Int64} {W : List (Nat × Nat × Nat)} {T : Nat} (h : mAcc J M W) (hW : W.length ≤ 600) (hT : T ≤ 600) (h2 : J 2 W.length = 0) (h3 : J 3 W.length = nI T) (h5 : ∀ w, w < 12 → M 5 w = mwords w) : mTok J M W.length (tkF W) (tpF W T) (tvF W) := by
  refine ⟨hW, by simp [tkF], fun i hi => ?_, fun i hi => ?_, h5⟩
  · by_cases e : i = W.length
    · subst e
      refine ⟨Or.inl ⟨by simp [tkF], h2⟩, by rw [h3]; simp [tpF], by simp [tpF]; exact hT⟩
    · have hi2 : i < W.length := by omega
      obtain ⟨g1, g2, g3, g4⟩ := h i W[i] (List.getElem?_eq_getElem hi2)
      have e1 : tkF W i = W[i].1 := by simp [tkF, hi2]
      have e2 : tpF W T i = W[i].2.1 := by simp [tpF, hi2]
      have e3 : tvF W i = W[i].2.2 := by simp [tvF, hi2]
      rw [e1, e2, e3]
      exact ⟨g1, g2, g3⟩
  · obtain ⟨g1, g2, g3, g4⟩ := h i W[i] (List.getElem?_eq_getElem hi)
    have e1 : tkF W i = W[i].1 := by simp [tkF, hi]
    rw [e1]; exact g4
theorem tok1_lt {ch : Nat → Nat} {T k : Nat} (h : k < T) : k < (tok1 ch T k).2 ∧ (tok1 ch T k).2 ≤ T := by
  unfold tok1
  by_cases h1 : isLn (ch k) = true
  · rw [if_pos h1]
    exact ⟨rl_lt (m := 600) h h1, (rl_spec isLn ch T 601 k (by omega)).2.1⟩
  · rw [if_neg h1]
    by_cases h2 : isDn (ch k) = true
    · rw [if_pos h2]
      exact ⟨rl_lt (m := 600) h h2, (rl_spec isDn ch T 601 k (by omega)).2.1⟩
    · rw [if_neg h2]
      dsimp only
      omega
/-- what the cutting leaves alone -/
def cFr (I J : Nat → Nat → Int32) (L M : Nat → Nat → Int64) : Prop := (∀ a, a ≠ 2 → a ≠ 3 → J a = I a) ∧ ∀ a, a ≠ 4 → M a = L a
theorem cFr_add {I J : Nat → Nat → Int32} {L M : Nat → Nat → Int64} (h : cFr I J L M) {N : Nat} {s p : Int32} {v : Int64} : cFr I (zu (zu J 3 N p) 2 N s) L (zu M 4 N v) :=
  ⟨fun a h2 h3 => by rw [zu_ne _ _ _ h2, zu_ne _ _ _ h3]; exact h.1 a h2 h3, fun a h4 => by rw [zu_ne _ _ _ h4]; exact h.2 a h4⟩
set_option maxHeartbeats 4000000 in
theorem l9_c17 {L : Nat → Nat → Int64} {Q : Option Value → ZH → Prop} {I0 : Nat → Nat → Int32} {L0 : Nat → Nat → Int64} {ch : Nat → Nat} {T : Nat} {W : List (Nat × Nat × Nat)} (hch : ∀ i, i < T → I0 1 i = nI (ch i) ∧ ch i ≤ 126) (hT : T ≤ 600) (h3 : I0 0 3 = nI T) : ∀ (m k : Nat) (acc : List (Nat × Nat × Nat)) (I : Nat → Nat → Int32) (L : Nat → Nat → Int64) (ls : Nat → Option Value), T - k < m → k ≤ T → acc.length ≤ k → acc ++ toks ch T m k = W → mAcc I L acc → cFr I0 I L0 L → ls 0 = some (.ref 0) → ls 1 = some (.int (nI acc.length)) → ls 2 = some (.int (nI k)) → ls 6 = none → (∀ (J : Nat → Nat → Int32) (M : Nat → Nat → Int64) (l2 : Nat → Option Value), W.length ≤ T → mAcc J M W → cFr I0 J L0 M → l2 0 = some (.ref 0) → l2 1 = some (.int (nI W.length)) → Zf x9_cutAll 0 0 279 l2 [] (mh J M) Q) → Zf x9_cutAll 0 0 17 ls [] (mh I L) Q := by
  intro m
  induction m with
  | zero => intro k acc I L ls h; omega
  | succ m ih =>
  intro k acc I L ls hm hkT hacc hW hAcc hF hl0 hl1 hl2 hl6 hk
  have hr := toks_e ch T m k
  have hI1 : I 1 = I0 1 := hF.1 1 (by decide) (by decide)
  have hI3 : I 0 3 = nI T := by rw [hF.1 0 (by decide) (by decide)]; exact h3
  rw [← hI1] at hch
  refine z_iload_n (i := 2) dX9_cutAll_17 rfl hl2 ?_
  refine z_aload_n (i := 0) dX9_cutAll_18 rfl hl0 ?_
  refine z_gI zf9_152.g dX9_cutAll_19 (by decide) rfl ?_
  rw [hI3]
  refine z_icmp_ge 279 dX9_cutAll_22 (by decide) (fun c_1 => ?_) (fun c_1 => ?_)
  · skip
    have h9 := (zle (by omega) (by omega)).mp c_1
    rw [if_neg (by omega)] at hr
    rw [hr, List.append_nil] at hW
    subst hW
    exact hk I L ls (by omega) hAcc hF hl0 hl1
  · skip
    have hkT2 : k < T := Nat.lt_of_not_le (fun q => c_1 ((zle (by omega) (by omega)).mpr q))
    obtain ⟨hc1, hc2⟩ := hch k hkT2
    rw [if_pos hkT2] at hr
    refine z_aload_n (i := 0) dX9_cutAll_25 rfl hl0 ?_
    refine z_gR zf9_7.g dX9_cutAll_26 (by decide) rfl rfl ?_
    refine z_iload_n (i := 2) dX9_cutAll_29 rfl hl2 ?_
    refine z_iald dX9_cutAll_30 (by decide) rfl (zvin (by omega) (by omega)) ?_
    rw [zcl (by omega), hc1]
    refine z_istore_nL (i := 3) dX9_cutAll_31 rfl (by decide) (zp_int hl2) ?_
    refine z_iload_n (i := 3) dX9_cutAll_32 rfl rfl ?_
    refine z_bipush (v := 10) dX9_cutAll_33 (by decide) ?_
    refine z_icmp_eq 44 dX9_cutAll_35 (by decide) (fun c_2 => ?_) (fun c_2 => ?_)
    · skip
      refine z_iincL dX9_cutAll_44 hl2 (zp_int hl1) ?_
      refine z_goto 17 dX9_cutAll_47 (by decide) ?_
      have h10 : ch k = 10 := (zeq (b := 10) (by omega) (by omega)).mp c_2
      rw [if_pos (Or.inl h10)] at hr
      rw [zinc]
      exact ih (k + 1) acc I L _ (by omega) (by omega) (by omega) (by rw [← hr]; exact hW) hAcc hF hl0 hl1 rfl hl6 hk
    · skip
      refine z_iload_n (i := 3) dX9_cutAll_38 rfl rfl ?_
      refine z_bipush (v := 32) dX9_cutAll_39 (by decide) ?_
      refine z_icmp_ne 50 dX9_cutAll_41 (by decide) (fun c_3 => ?_) (fun c_3 => ?_)
      · skip
        have h10 : ¬ ch k = 10 := fun q => c_2 (by rw [q]; rfl)
        have h32 : ¬ ch k = 32 := fun q => c_3 (by rw [q]; rfl)
        rw [if_neg (by omega)] at hr
        refine z_iload_n (i := 2) dX9_cutAll_50 rfl hl2 ?_
        refine z_istoreL (i := 4) dX9_cutAll_51 (by decide) (zp_int (i := 3) rfl) ?_
        refine z_lconst (v := 0) dX9_cutAll_53 (by decide) ?_
        refine z_lstoreL dX9_cutAll_54 rfl (by decide) (zp_int (i := 4) rfl) hl6 ?_
        refine z_aload_n (i := 0) dX9_cutAll_56 rfl hl0 ?_
        refine z_gR zf9_16.g dX9_cutAll_57 (by decide) rfl rfl ?_
        refine z_iload_n (i := 1) dX9_cutAll_60 rfl hl1 ?_
        refine z_iload_n (i := 2) dX9_cutAll_61 rfl hl2 ?_
        refine z_iast dX9_cutAll_62 (by decide) rfl (zvin (by omega) (by omega)) ?_
        simp only [zcl (show acc.length ≤ 100000 by omega)]
        refine z_iload_n (i := 3) dX9_cutAll_63 rfl rfl ?_
        refine z_callS (st := []) (mc2 := 0) (ms2 := 0) zi9_148 zs_yX9_isLetter (c9_isLetter _ L (nI (ch k))) dX9_cutAll_64 rfl rfl (by decide) (by decide) (Nat.le_of_ble_eq_true rfl) (by decide) (by decide) (fun r h2 hq => ?_)
        obtain ⟨rfl, rfl⟩ := hq
        rw [isL_e (by omega)]
        refine z_if_eq 152 dX9_cutAll_67 (by decide) (fun c_4 => ?_) (fun c_4 => ?_)
        · skip
          refine z_iload_n (i := 3) dX9_cutAll_152 rfl rfl ?_
          refine z_callS (st := []) (mc2 := 0) (ms2 := 0) zi9_160 zs_yX9_isDigit (c9_isDigit _ L (nI (ch k))) dX9_cutAll_153 rfl rfl (by decide) (by decide) (Nat.le_of_ble_eq_true rfl) (by decide) (by decide) (fun r h2 hq => ?_)
          obtain ⟨rfl, rfl⟩ := hq
          rw [isD_e (by omega)]
          refine z_if_eq 240 dX9_cutAll_156 (by decide) (fun c_5 => ?_) (fun c_5 => ?_)
          · skip
            have hnL : ¬ isLn (ch k) = true := by rw [(zb_0 _).mp c_4]; decide
            have hnD : ¬ isDn (ch k) = true := by rw [(zb_0 _).mp c_5]; decide
            have htk : tok1 ch T k = ((if isMark (ch k) = true then ch k else 1, k, 0), k + 1) := by unfold tok1; rw [if_neg hnL, if_neg hnD]
            have hlt := tok1_lt (ch := ch) hkT2
            rw [htk] at hr hlt
            dsimp only at hlt
            refine l9_c240 (N := acc.length) (k := k) (c := ch k) (by omega) (by omega) hc2 _ (by exact hl0) (by exact hl1) (by exact hl2) (by rfl) (by rfl) (by exact hl6) ?_
            intro l2 m0 m1 m2 m6
            refine ih (k + 1) (acc ++ [(if isMark (ch k) = true then ch k else 1, k, 0)]) _ _ l2 (by omega) (by omega) (by rw [List.length_append]; simp only [List.length_cons, List.length_nil]; omega) (by rw [List.append_assoc]; rw [← hW, hr]; rfl) (mAcc_add hAcc (mtt_mark (by omega))) (cFr_add hF) m0 (by rw [List.length_append]; exact m1) m2 m6 hk
          · skip
            have hnL : ¬ isLn (ch k) = true := by rw [(zb_0 _).mp c_4]; decide
            have hnD : isDn (ch k) = true := (zb_n _).mp c_5
            have hsp := rl_spec isDn ch T 601 k hkT
            have htk : tok1 ch T k = ((if 4 < rl isDn ch T 601 k - k then 1 else 2, k, dcm ch k (rl isDn ch T 601 k - k)), rl isDn ch T 601 k) := by unfold tok1; rw [if_neg hnL, if_pos hnD]
            have hlt := tok1_lt (ch := ch) hkT2
            rw [htk] at hr hlt
            dsimp only at hlt
            refine l9_cutD (I := zu I 3 acc.length (nI k)) (ch := ch) (T := T) (a := k) (e := rl isDn ch T 601 k) (X1 := nI acc.length) hch hT hI3 601 k _ (by omega) (by omega) hkT rfl (by exact hl0) (by exact hl1) (by exact hl2) (by rfl) (by rw [Nat.sub_self]; rfl) (by exact hl6) ?_
            intro l3 n0 n1 n2 n4 n5 n6
            refine l9_c218 (N := acc.length) (a := k) (by omega) hsp.1 (by omega) l3 n0 n1 n2 n4 n5 n6 ?_
            intro l2 m0 m1 m2 m6
            refine ih (rl isDn ch T 601 k) (acc ++ [(if 4 < rl isDn ch T 601 k - k then 1 else 2, k, dcm ch k (rl isDn ch T 601 k - k))]) _ _ l2 (by omega) (by omega) (by rw [List.length_append]; simp only [List.length_cons, List.length_nil]; omega) (by rw [List.append_assoc]; rw [← hW, hr]; rfl) (mAcc_add hAcc (mtt_num hsp.1 (by omega) hsp.2.2)) (cFr_add hF) m0 (by rw [List.length_append]; exact m1) m2 m6 hk
        · skip
          have hnL : isLn (ch k) = true := (zb_n _).mp c_4
          have hsp := rl_spec isLn ch T 601 k hkT
          have htk : tok1 ch T k = ((if 8 < rl isLn ch T 601 k - k then 1 else wk (hsh ch k (rl isLn ch T 601 k - k)) 12, k, 0), rl isLn ch T 601 k) := by unfold tok1; rw [if_pos hnL]
          have hlt := tok1_lt (ch := ch) hkT2
          rw [htk] at hr hlt
          dsimp only at hlt
          refine l9_cutL (I := zu I 3 acc.length (nI k)) (ch := ch) (T := T) (a := k) (e := rl isLn ch T 601 k) (X1 := nI acc.length) hch hT hI3 601 k _ (by omega) (by omega) hkT rfl (by exact hl0) (by exact hl1) (by exact hl2) (by rfl) (by rw [Nat.sub_self]; rfl) (by exact hl6) ?_
          intro l3 n0 n1 n2 n4 n5 n6
          refine l9_c129 (N := acc.length) (a := k) (by omega) hsp.1 (by omega) l3 n0 n1 n2 n4 n5 n6 ?_
          intro l2 m0 m1 m2 m6
          refine ih (rl isLn ch T 601 k) (acc ++ [(if 8 < rl isLn ch T 601 k - k then 1 else wk (hsh ch k (rl isLn ch T 601 k - k)) 12, k, 0)]) _ _ l2 (by omega) (by omega) (by rw [List.length_append]; simp only [List.length_cons, List.length_nil]; omega) (by rw [List.append_assoc]; rw [← hW, hr]; rfl) (mAcc_add hAcc (mtt_word hsp.1 (by omega) hsp.2.2)) (cFr_add hF) m0 (by rw [List.length_append]; exact m1) m2 m6 hk
      · skip
        refine z_iincL dX9_cutAll_44 hl2 (zp_int hl1) ?_
        refine z_goto 17 dX9_cutAll_47 (by decide) ?_
        have h32 : ch k = 32 := (zeq (b := 32) (by omega) (by omega)).mp c_3
        rw [if_pos (Or.inr h32)] at hr
        rw [zinc]
        exact ih (k + 1) acc I L _ (by omega) (by omega) (by omega) (by rw [← hr]; exact hW) hAcc hF hl0 hl1 rfl hl6 hk
/-- behind the cutting: the tokens, and the rest as it was -/
abbrev mQc (I : Nat → Nat → Int32) (L : Nat → Nat → Int64) (ch : Nat → Nat) (T : Nat) : Option Value → ZH → Prop := fun r h => r = none ∧ ∃ J M, h = mh J M ∧ mTok J M (toks ch T 601 0).length (tkF (toks ch T 601 0)) (tpF (toks ch T 601 0) T) (tvF (toks ch T 601 0)) ∧ (∀ a, a ≠ 0 → a ≠ 2 → a ≠ 3 → J a = I a) ∧ (∀ k, k ≠ 2 → k ≠ 3 → k ≠ 7 → k ≠ 8 → J 0 k = I 0 k) ∧ J 0 2 = 0 ∧ J 0 7 = 0 ∧ J 0 8 = 0 ∧ ∀ a, a ≠ 4 → M a = L a
set_option maxHeartbeats 4000000 in
theorem l9_c279 {I : Nat → Nat → Int32} {L : Nat → Nat → Int64} {Q : Option Value → ZH → Prop} {N T : Nat} (hN : N ≤ 600) (h3 : I 0 3 = nI T) (hQ : Q none (mh (zu (zu (zu (zu I 2 N 0) 3 N (nI T)) 0 7 0) 0 8 0) L)) (ls : Nat → Option Value) (hl0 : ls 0 = some (.ref 0)) (hl1 : ls 1 = some (.int (nI N))) : Zf x9_cutAll 0 0 279 ls [] (mh I L) Q := by
  refine z_aload_n (i := 0) dX9_cutAll_279 rfl hl0 ?_
  refine z_gR zf9_13.g dX9_cutAll_280 (by decide) rfl rfl ?_
  refine z_iload_n (i := 1) dX9_cutAll_283 rfl hl1 ?_
  refine z_iconst (v := 0) dX9_cutAll_284 (by decide) ?_
  refine z_iast dX9_cutAll_285 (by decide) rfl (zvin (by omega) (by omega)) ?_
  simp only [zcl (show N ≤ 100000 by omega)]
  refine z_aload_n (i := 0) dX9_cutAll_286 rfl hl0 ?_
  refine z_gR zf9_16.g dX9_cutAll_287 (by decide) rfl rfl ?_
  refine z_iload_n (i := 1) dX9_cutAll_290 rfl hl1 ?_
  refine z_aload_n (i := 0) dX9_cutAll_291 rfl hl0 ?_
  refine z_gI zf9_152.g dX9_cutAll_292 (by decide) rfl ?_
  rw [show zu I 2 N 0 0 3 = nI T from h3]
  refine z_iast dX9_cutAll_295 (by decide) rfl (zvin (by omega) (by omega)) ?_
  simp only [zcl (show N ≤ 100000 by omega)]
  refine z_aload_n (i := 0) dX9_cutAll_296 rfl hl0 ?_
  refine z_iconst (v := 0) dX9_cutAll_297 (by decide) ?_
  refine z_putI zf9_170 dX9_cutAll_298 (fun h => by cases h) (by decide) rfl ?_
  refine z_aload_n (i := 0) dX9_cutAll_301 rfl hl0 ?_
  refine z_iconst (v := 0) dX9_cutAll_302 (by decide) ?_
  refine z_putI zf9_173 dX9_cutAll_303 (fun h => by cases h) (by decide) rfl ?_
  refine z_vret dX9_cutAll_306 rfl ?_
  exact hQ
set_option maxHeartbeats 4000000 in
theorem c9_cutAll (I : Nat → Nat → Int32) (L : Nat → Nat → Int64) (ch : Nat → Nat) (T : Nat) (hT : T ≤ 600) (h2 : I 0 2 = nI T) (hch : ∀ i, i < T → I 1 i = nI (ch i) ∧ ch i ≤ 126) (h5 : ∀ w, w < 12 → L 5 w = mwords w) : Zm yX9_cutAll cX9_cutAll 7 none 2 80 0 0 [.ref 0] (mh I L) (mQc I L ch T) := by
  refine Zm_of (lg := true) (by decide) (fun h => by cases h) (fun _ => Nat.le_of_ble_eq_true rfl) ?_
  show Zf x9_cutAll 0 0 0 (zargs [.ref 0]) [] (mh I L) _
  generalize hQ0 : (mQc I L ch T : Option Value → ZH → Prop) = Q0
  refine z_aload_n (i := 0) dX9_cutAll_0 rfl rfl ?_
  refine z_aload_n (i := 0) dX9_cutAll_1 rfl rfl ?_
  refine z_gI zf9_145.g dX9_cutAll_2 (by decide) rfl ?_
  rw [h2]
  refine z_putI zf9_152 dX9_cutAll_5 (fun h => by cases h) (by decide) rfl ?_
  refine z_aload_n (i := 0) dX9_cutAll_8 rfl rfl ?_
  refine z_iconst (v := 0) dX9_cutAll_9 (by decide) ?_
  refine z_putI zf9_145 dX9_cutAll_10 (fun h => by cases h) (by decide) rfl ?_
  refine z_iconst (v := 0) dX9_cutAll_13 (by decide) ?_
  refine z_istore_nL (i := 1) dX9_cutAll_14 rfl (by decide) (zp_ref (i := 0) rfl) ?_
  refine z_iconst (v := 0) dX9_cutAll_15 (by decide) ?_
  refine z_istore_nL (i := 2) dX9_cutAll_16 rfl (by decide) (zp_int (i := 1) rfl) ?_
  subst hQ0
  refine l9_c17 (L := L) (I0 := zu (zu I 0 3 (nI T)) 0 2 0) (L0 := L) (ch := ch) (T := T) (W := toks ch T 601 0) hch hT rfl 601 0 [] _ L _ (by omega) (by omega) (by simp) rfl (fun i t hi => by cases hi) ⟨fun _ _ _ => rfl, fun _ _ => rfl⟩ rfl rfl rfl rfl ?_
  intro J M l2 hWT hA hF hm0 hm1
  refine l9_c279 (N := (toks ch T 601 0).length) (T := T) (by omega) (by rw [hF.1 0 (by decide) (by decide)]; rfl) ?_ l2 hm0 hm1
  refine ⟨rfl, _, M, rfl, mTok_cong (mAcc_tok (J := zu (zu J 2 (toks ch T 601 0).length 0) 3 (toks ch T 601 0).length (nI T)) ?_ (by omega) hT ?_ ?_ ?_) rfl rfl, ?_, ?_, ?_, rfl, rfl, hF.2⟩
  · intro i t hi
    have hi2 : i < (toks ch T 601 0).length := (List.getElem?_eq_some_iff.mp hi).1
    have := hA i t hi
    have e1 : zu (zu J 2 (toks ch T 601 0).length 0) 3 (toks ch T 601 0).length (nI T) 2 i = J 2 i := by rw [zu_ne _ _ _ (show (2 : Nat) ≠ 3 by decide), zu_apply, if_neg (by omega)]
    have e2 : zu (zu J 2 (toks ch T 601 0).length 0) 3 (toks ch T 601 0).length (nI T) 3 i = J 3 i := by rw [zu_apply, if_neg (by omega), zu_ne _ _ _ (show (3 : Nat) ≠ 2 by decide)]
    rw [e1, e2]
    exact this
  · rw [zu_ne _ _ _ (show (2 : Nat) ≠ 3 by decide), zu_apply, if_pos ⟨rfl, rfl⟩]
  · rw [zu_apply, if_pos ⟨rfl, rfl⟩]
  · intro w hw
    rw [hF.2 5 (by decide)]; exact h5 w hw
  · intro a h0 h2' h3'
    rw [zu_ne _ _ _ h0, zu_ne _ _ _ h0, zu_ne _ _ _ h3', zu_ne _ _ _ h2', hF.1 a h2' h3', zu_ne _ _ _ h0, zu_ne _ _ _ h0]
  · intro k h2' h3' h7' h8'
    rw [zu_apply, if_neg (by omega), zu_apply, if_neg (by omega), zu_ne _ _ _ (show (0 : Nat) ≠ 3 by decide), zu_ne _ _ _ (show (0 : Nat) ≠ 2 by decide), hF.1 0 (by decide) (by decide), zu_apply, if_neg (by omega), zu_apply, if_neg (by omega)]
  · rw [zu_apply, if_neg (by omega), zu_apply, if_neg (by omega), zu_ne _ _ _ (show (0 : Nat) ≠ 3 by decide), zu_ne _ _ _ (show (0 : Nat) ≠ 2 by decide), hF.1 0 (by decide) (by decide), zu_apply, if_pos ⟨rfl, rfl⟩]
/-- the text of a tape: its fault, or 0 and its lines -/
def mTxt (ch : Nat → Nat) (T : Nat) : Int32 × List MLn := pText (tkF (toks ch T 601 0)) (tpF (toks ch T 601 0) T) (tvF (toks ch T 601 0)) 18 0 [] []
abbrev mQt (I : Nat → Nat → Int32) (L : Nat → Nat → Int64) (ch : Nat → Nat) (T hd : Nat) (ts : List MLn) : Option Value → ZH → Prop := fun r h => r = some (.int (mTxt ch T).1) ∧ ∃ J M, h = mh J M ∧ mtq J (if (mTxt ch T).1 = 0 then 1 - hd else hd) (if (mTxt ch T).1 = 0 then (mTxt ch T).2 else ts) ∧ (∀ a, a ≠ 0 → a ≠ 2 → a ≠ 3 → a ≠ 6 → a ≠ 7 → a ≠ 8 → a ≠ 9 → a ≠ 10 → a ≠ 11 → a ≠ 12 → a ≠ 13 → J a = I a) ∧ (∀ k, k ≠ 0 → k ≠ 2 → k ≠ 3 → k ≠ 7 → k ≠ 8 → k ≠ 15 → k ≠ 16 → k ≠ 17 → k ≠ 18 → J 0 k = I 0 k) ∧ J 0 0 = 0 ∧ J 0 2 = 0 ∧ ∀ a, a ≠ 4 → M a = L a
set_option maxHeartbeats 4000000 in
theorem c9_text (I : Nat → Nat → Int32) (L : Nat → Nat → Int64) (ch : Nat → Nat) (T : Nat) (hT : T ≤ 600) (h2 : I 0 2 = nI T) (hch : ∀ i, i < T → I 1 i = nI (ch i) ∧ ch i ≤ 126) (h5 : ∀ w, w < 12 → L 5 w = mwords w) (hd : Nat) (ts : List MLn) (htx : mtq I hd ts) : Zm yX9_text cX9_text 1 (some .int) 4 160 0 0 [.ref 0] (mh I L) (mQt I L ch T hd ts) := by
  refine Zm_of (lg := false) (by decide) (fun _ => by simp [Value.category]) (fun _ => Nat.le_of_ble_eq_true rfl) ?_
  show Zf x9_text 0 0 0 (zargs [.ref 0]) [] (mh I L) _
  generalize hQ0 : (mQt I L ch T hd ts : Option Value → ZH → Prop) = Q0
  obtain ⟨g1, g2, g3, g4, g5⟩ := id htx.1
  refine z_aload_n (i := 0) dX9_text_0 rfl rfl ?_
  refine z_iconst (v := 0) dX9_text_1 (by decide) ?_
  refine z_putI zf9_137 dX9_text_2 (fun h => by cases h) (by decide) rfl ?_
  refine z_aload_n (i := 0) dX9_text_5 rfl rfl ?_
  refine z_callV (st := []) (mc2 := 0) (ms2 := 0) zi9_195 zv_yX9_cutAll (c9_cutAll (zu I 0 0 0) L ch T hT h2 hch h5) dX9_text_6 (show (0 : Nat) < 35 by decide) rfl rfl rfl rfl (by decide) (by decide) (Nat.le_of_ble_eq_true rfl) (by decide) (by decide) (fun r h2 hq => ?_)
  obtain ⟨rfl, J, M, rfl, hTk, hJ1, hJ0, hJ2, hJ7, hJ8, hM⟩ := hq
  have j15 : J 0 15 = nI hd := (hJ0 15 (by decide) (by decide) (by decide) (by decide)).trans g2
  try simp only [Option.toList, List.nil_append]
  refine z_aload_n (i := 0) dX9_text_9 rfl rfl ?_
  refine z_iconst (v := 1) dX9_text_10 (by decide) ?_
  refine z_aload_n (i := 0) dX9_text_11 rfl rfl ?_
  refine z_gI zf9_198.g dX9_text_12 (by decide) rfl ?_
  rw [j15]
  refine z_isub dX9_text_15 ?_
  refine z_top (y := .int (nI (1 - hd))) (by rw [zl1, pk_sub (by omega)]) ?_
  refine z_putI zf9_189 dX9_text_16 (fun h => by cases h) (by decide) rfl ?_
  refine z_aload_n (i := 0) dX9_text_19 rfl rfl ?_
  refine z_gR zf9_50.g dX9_text_20 (by decide) rfl rfl ?_
  refine z_aload_n (i := 0) dX9_text_23 rfl rfl ?_
  refine z_gI zf9_189.g dX9_text_24 (by decide) rfl ?_
  rw [show zu J 0 16 (nI (1 - hd)) 0 16 = nI (1 - hd) from rfl]
  refine z_iconst (v := 0) dX9_text_27 (by decide) ?_
  refine z_iast dX9_text_28 (by decide) rfl (zvin (by omega) (by omega)) ?_
  simp only [zcl (show 1 - hd ≤ 100000 by omega)]
  refine z_aload_n (i := 0) dX9_text_29 rfl rfl ?_
  refine z_iconst (v := 0) dX9_text_30 (by decide) ?_
  refine z_putI zf9_192 dX9_text_31 (fun h => by cases h) (by decide) rfl ?_
  subst hQ0
  refine l9_t34 (I0 := zu (zu (zu J 0 16 (nI (1 - hd))) 6 (1 - hd) 0) 0 17 0) (b := 1 - hd) (by omega) 18 _ 0 [] [] _ (by decide) (mTok_cong hTk rfl rfl) (by omega) (by decide) (by decide) ⟨⟨hJ7, hJ8, rfl, rfl, fun j c hj => by cases hj⟩, ?_, fun q l hq => by cases hq⟩ (lFr.rf _ _) rfl ?_
  · show zu (zu J 0 16 (nI (1 - hd))) 6 (1 - hd) 0 6 (1 - hd) = nI 0
    rw [zu_apply, if_pos ⟨rfl, rfl⟩]; rfl
  · intro K hF hq
    refine ⟨rfl, _, M, rfl, ?_, ?_, ?_, ?_, ?_, hM⟩
    · by_cases e : (mTxt ch T).1 = 0
      · rw [if_pos e, if_pos e]
        have := hq e
        unfold mTxt at e ⊢
        rw [if_pos e]
        exact this
      · rw [if_neg e, if_neg e]
        unfold mTxt at e
        rw [if_neg e]
        have hF4 := hF.2.2.2.1
        have hF3 := hF.2.2.1
        refine mtq_keep htx ?_ ?_ (fun j h1 h2 => ?_) (fun j h1 h2 => ?_)
        · rw [hF.2.1 15 (by decide) (by decide) (by decide) (by decide)]
          exact hJ0 15 (by decide) (by decide) (by decide) (by decide)
        · rw [hF.2.2.2.2 hd (by omega), zu_ne _ _ _ (by decide), zu_apply, if_neg (by omega), zu_ne _ _ _ (by decide), hJ1 6 (by decide) (by decide) (by decide)]
          rfl
        · obtain ⟨x1, x2⟩ := hF4 j (by omega)
          exact ⟨x1.trans (congrFun (hJ1 7 (by decide) (by decide) (by decide)) j), x2.trans (congrFun (hJ1 8 (by decide) (by decide) (by decide)) j)⟩
        · obtain ⟨x1, x2⟩ := hF3 j (by omega)
          exact ⟨x1.trans (congrFun (hJ1 9 (by decide) (by decide) (by decide)) j), x2.trans (congrFun (hJ1 10 (by decide) (by decide) (by decide)) j)⟩
    · intro a h0 h2' h3' h6 h7 h8 h9 h10 h11 h12 h13
      have hK : K a = I a := by
        rw [hF.1 a h0 h6 h7 h8 h9 h10 h11 h12 h13, zu_ne _ _ _ h0, zu_ne _ _ _ h6, zu_ne _ _ _ h0, hJ1 a h0 h2' h3', zu_ne _ _ _ h0]
      split
      · rw [zu_ne _ _ _ h0]; exact hK
      · exact hK
    · intro k h0 h2' h3' h7 h8 h15 h16 h17 h18
      have hK : K 0 k = I 0 k := by
        rw [hF.2.1 k h7 h8 h17 h18, zu_apply, if_neg (by omega), zu_ne _ _ _ (by decide), zu_apply, if_neg (by omega), hJ0 k h2' h3' h7 h8, zu_apply, if_neg (by omega)]
      split
      · rw [zu_apply, if_neg (by omega)]; exact hK
      · exact hK
    · have hK : K 0 0 = 0 := by
        rw [hF.2.1 0 (by decide) (by decide) (by decide) (by decide)]
        exact hJ0 0 (by decide) (by decide) (by decide) (by decide)
      split
      · exact hK
      · exact hK
    · have hK : K 0 2 = 0 := by
        rw [hF.2.1 2 (by decide) (by decide) (by decide) (by decide)]
        exact hJ2
      split
      · exact hK
      · exact hK
