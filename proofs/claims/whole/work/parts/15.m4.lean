theorem mfP_S {I : Nat → Nat → Int32} {P G g : Nat} {wished : Bool} {but : Int32} {d h p : Nat} (hh : h < 4) (hp : p < 6) : mfP I P G g wished but (24 * d + 6 * h + p) = (decide (p < P) && (!wished || decide ((I 30 g >>> ((4 * nI (d % 7) + nI h) &&& 31)) &&& 1 = 1)) && decide (¬ nI (24 * d + 6 * h + p) = but) && msu I G g (24 * d + 6 * h + p)) := by
  unfold mfP
  rw [show (24 * d + 6 * h + p) % 6 = p by omega, show (24 * d + 6 * h + p) / 24 = d by omega, show (24 * d + 6 * h + p) / 6 % 4 = h by omega]
/-- from one hour to the next -/
theorem mfind_hour {I : Nat → Nat → Int32} {P G g W : Nat} {wished : Bool} {but V : Int32} {d h p : Nat} (hd : d < 7 * W + 7) (hh : h < 4) (hp : p ≤ 6) (hno : ∀ q, p ≤ q → q < 6 → mfP I P G g wished but (24 * d + 6 * h + q) = false) (hV : mfind (mfP I P G g wished but) (24 * d + 6 * h + p) (24 * (7 * W + 7) - (24 * d + 6 * h + p)) = V) : mfind (mfP I P G g wished but) (24 * d + 6 * (h + 1)) (24 * (7 * W + 7) - (24 * d + 6 * (h + 1))) = V := by
  rw [← hV, mfind_skip (6 - p) (24 * d + 6 * h + p) _ (fun S h1 h2 => by
    have := hno (S - (24 * d + 6 * h)) (by omega) (by omega)
    rwa [show 24 * d + 6 * h + (S - (24 * d + 6 * h)) = S by omega] at this) (by omega)]
  rw [show 24 * d + 6 * h + p + (6 - p) = 24 * d + 6 * (h + 1) by omega, show 24 * (7 * W + 7) - (24 * d + 6 * h + p) - (6 - p) = 24 * (7 * W + 7) - (24 * d + 6 * (h + 1)) by omega]
abbrev x9_firstSlot : ZX := (RX9, cX9_firstSlot, 11, (some .int), "firstSlot", 3, 120, false)
set_option maxHeartbeats 4000000 in
theorem l9_fsP {I : Nat → Nat → Int32} {L : Nat → Nat → Int64} {Q : Option Value → ZH → Prop} {P G g W d h : Nat} {wished : Bool} {but V : Int32} {ok : Bool} (hP : P ≤ 6) (hG : G ≤ 60) (hg : g < G) (hW : W ≤ 50) (h24 : I 0 24 = nI P) (h35 : I 0 35 = nI G) (h29 : I 29 g = nI W) (hQ : Q (some (.int V)) (mh I L)) (hd : d < 7 * W + 7) (hh : h < 4) (hok : ok = (!wished || decide ((I 30 g >>> ((4 * nI (d % 7) + nI h) &&& 31)) &&& 1 = 1))) (hx : mfind (mfP I P G g wished but) (24 * d + 6 * (h + 1)) (24 * (7 * W + 7) - (24 * d + 6 * (h + 1))) = V → ∀ ls : Nat → Option Value, ls 0 = some (.ref 0) → ls 1 = some (.int (nI g)) → ls 3 = some (.int (zb wished)) → ls 4 = some (.int but) → ls 6 = some (.int (nI d)) → ls 7 = some (.int (nI h)) → Zf x9_firstSlot 0 0 151 ls [] (mh I L) Q) : ∀ (m j : Nat), 6 - j < m → j ≤ P → mfind (mfP I P G g wished but) (24 * d + 6 * h + j) (24 * (7 * W + 7) - (24 * d + 6 * h + j)) = V → ∀ ls : Nat → Option Value, ls 0 = some (.ref 0) → ls 1 = some (.int (nI g)) → ls 3 = some (.int (zb wished)) → ls 4 = some (.int but) → ls 6 = some (.int (nI d)) → ls 7 = some (.int (nI h)) → ls 8 = some (.int (zb ok)) → ls 9 = some (.int (nI j)) → Zf x9_firstSlot 0 0 95 ls [] (mh I L) Q := by
  intro m
  induction m with
  | zero => intro j h; omega
  | succ m ih =>
  intro j hm hj hV ls hl0 hl1 hl3 hl4 hl6 hl7 hl8 hl9
  refine z_iload dX9_firstSlot_95 hl9 ?_
  refine z_aload_n (i := 0) dX9_firstSlot_97 rfl hl0 ?_
  refine z_gI zf9_236.g dX9_firstSlot_98 (by decide) rfl ?_
  rw [h24]
  refine z_icmp_ge 151 dX9_firstSlot_101 (by decide) (fun c_1 => ?_) (fun c_1 => ?_)
  · skip
    have h1 := (zle (by omega) (by omega)).mp c_1
    exact hx (mfind_hour hd hh (by omega) (fun q h2 h3 => by rw [mfP_S hh (by omega), decide_eq_false (show ¬ q < P by omega)]; simp) hV) _ hl0 hl1 hl3 hl4 hl6 hl7
  · skip
    have h1 : ¬ P ≤ j := fun q => c_1 ((zle (by omega) (by omega)).mpr q)
    have hS := mfP_S (I := I) (P := P) (G := G) (g := g) (wished := wished) (but := but) (d := d) (h := h) (p := j) hh (by omega)
    refine z_iload dX9_firstSlot_104 hl8 ?_
    refine z_if_eq 151 dX9_firstSlot_106 (by decide) (fun c_2 => ?_) (fun c_2 => ?_)
    · skip
      have hf := (zb_0 _).mp c_2
      exact hx (mfind_hour hd hh (by omega) (fun q h2 h3 => by rw [mfP_S hh (by omega), ← hok, hf]; simp) hV) _ hl0 hl1 hl3 hl4 hl6 hl7
    · skip
      refine z_bipush (v := 24) dX9_firstSlot_109 (by decide) ?_
      refine z_iload dX9_firstSlot_111 hl6 ?_
      refine z_imul dX9_firstSlot_113 ?_
      refine z_bipush (v := 6) dX9_firstSlot_114 (by decide) ?_
      refine z_iload dX9_firstSlot_116 hl7 ?_
      refine z_imul dX9_firstSlot_118 ?_
      refine z_iadd dX9_firstSlot_119 ?_
      refine z_iload dX9_firstSlot_120 hl9 ?_
      refine z_iadd dX9_firstSlot_122 ?_
      simp only [zl24, zl6, pk_mul, nI_add]
      refine z_istore (i := 10) dX9_firstSlot_123 (by decide) rfl ?_
      refine z_iload dX9_firstSlot_125 rfl ?_
      refine z_iload dX9_firstSlot_127 hl4 ?_
      refine z_icmp_eq 145 dX9_firstSlot_129 (by decide) (fun c_3 => ?_) (fun c_3 => ?_)
      · skip
        refine z_iinc dX9_firstSlot_145 hl9 rfl ?_
        refine z_goto 95 dX9_firstSlot_148 (by decide) ?_
        have hF : mfP I P G g wished but (24 * d + 6 * h + j) = false := by rw [hS]; simp [c_3]
        rw [mfind_miss hF (by omega)] at hV
        rw [zinc]
        exact ih (j + 1) (by omega) (by omega) (by rw [← hV]; congr 1) _ hl0 hl1 hl3 hl4 hl6 hl7 hl8 rfl
      · skip
        refine z_aload_n (i := 0) dX9_firstSlot_132 rfl hl0 ?_
        refine z_iload_n (i := 1) dX9_firstSlot_133 rfl hl1 ?_
        refine z_iload dX9_firstSlot_134 rfl ?_
        refine z_callV (st := []) (mc2 := 0) (ms2 := 0) zi9_266 zv_yX9_suits (c9_suits _ _ G g _ hG hg (by omega) h35) dX9_firstSlot_136 (show (0 : Nat) < 35 by decide) rfl rfl rfl rfl (by decide) (by decide) (Nat.le_of_ble_eq_true rfl) (by decide) (by decide) (fun r h2 hq => ?_)
        obtain ⟨rfl, rfl⟩ := hq
        refine z_if_eq 145 dX9_firstSlot_139 (by decide) (fun c_4 => ?_) (fun c_4 => ?_)
        · skip
          refine z_iinc dX9_firstSlot_145 hl9 rfl ?_
          refine z_goto 95 dX9_firstSlot_148 (by decide) ?_
          have hf := (zb_0 _).mp c_4
          have hF : mfP I P G g wished but (24 * d + 6 * h + j) = false := by rw [hS, hf]; simp
          rw [mfind_miss hF (by omega)] at hV
          rw [zinc]
          exact ih (j + 1) (by omega) (by omega) (by rw [← hV]; congr 1) _ hl0 hl1 hl3 hl4 hl6 hl7 hl8 rfl
        · skip
          refine z_iload dX9_firstSlot_142 rfl ?_
          refine z_iret dX9_firstSlot_144 rfl ?_
          have hb : msu I G g (24 * d + 6 * h + j) = true := (zb_n _).mp c_4
          have hS2 : mfP I P G g wished but (24 * d + 6 * h + j) = true := by
            have h2 : ok = true := (zb_n _).mp (by assumption)
            rw [hS, ← hok, hb, h2, decide_eq_true (show j < P by omega), decide_eq_true (show ¬ nI (24 * d + 6 * h + j) = but by assumption)]
            rfl
          rw [← mfind_hit hS2 (show 0 < 24 * (7 * W + 7) - (24 * d + 6 * h + j) by omega), hV]
          exact hQ
set_option maxHeartbeats 4000000 in
theorem l9_fsH {I : Nat → Nat → Int32} {L : Nat → Nat → Int64} {Q : Option Value → ZH → Prop} {P G g W d : Nat} {wished : Bool} {but V : Int32} (hP : P ≤ 6) (hG : G ≤ 60) (hg : g < G) (hW : W ≤ 50) (h24 : I 0 24 = nI P) (h35 : I 0 35 = nI G) (h29 : I 29 g = nI W) (hQ : Q (some (.int V)) (mh I L)) (hd : d < 7 * W + 7) (hx : mfind (mfP I P G g wished but) (24 * (d + 1)) (24 * (7 * W + 7) - (24 * (d + 1))) = V → ∀ ls : Nat → Option Value, ls 0 = some (.ref 0) → ls 1 = some (.int (nI g)) → ls 3 = some (.int (zb wished)) → ls 4 = some (.int but) → ls 6 = some (.int (nI d)) → Zf x9_firstSlot 0 0 157 ls [] (mh I L) Q) : ∀ (m j : Nat), 4 - j < m → j ≤ 4 → mfind (mfP I P G g wished but) (24 * d + 6 * j) (24 * (7 * W + 7) - (24 * d + 6 * j)) = V → ∀ ls : Nat → Option Value, ls 0 = some (.ref 0) → ls 1 = some (.int (nI g)) → ls 3 = some (.int (zb wished)) → ls 4 = some (.int but) → ls 6 = some (.int (nI d)) → ls 7 = some (.int (nI j)) → Zf x9_firstSlot 0 0 52 ls [] (mh I L) Q := by
  intro m
  induction m with
  | zero => intro j h; omega
  | succ m ih =>
  intro j hm hj hV ls hl0 hl1 hl3 hl4 hl6 hl7
  refine z_iload dX9_firstSlot_52 hl7 ?_
  refine z_iconst (v := 4) dX9_firstSlot_54 (by decide) ?_
  simp only [zl4]
  refine z_icmp_ge 157 dX9_firstSlot_55 (by decide) (fun c_1 => ?_) (fun c_1 => ?_)
  · skip
    have h1 := (zle (by omega) (by omega)).mp c_1
    have h2 : j = 4 := by omega
    subst h2
    exact hx hV _ hl0 hl1 hl3 hl4 hl6
  · skip
    have h1 : ¬ 4 ≤ j := fun q => c_1 ((zle (by omega) (by omega)).mpr q)
    refine z_iload_n (i := 3) dX9_firstSlot_58 rfl hl3 ?_
    refine z_if_eq 85 dX9_firstSlot_59 (by decide) (fun c_2 => ?_) (fun c_2 => ?_)
    · skip
      refine z_iconst (v := 1) dX9_firstSlot_85 (by decide) ?_
      refine z_goto 90 dX9_firstSlot_86 (by decide) ?_
      refine z_istore (i := 8) dX9_firstSlot_90 (by decide) rfl ?_
      refine z_iconst (v := 0) dX9_firstSlot_92 (by decide) ?_
      refine z_istore (i := 9) dX9_firstSlot_93 (by decide) rfl ?_
      have hw := (zb_0 _).mp c_2
      refine l9_fsP (wished := wished) (ok := true) hP hG hg hW h24 h35 h29 hQ hd (by omega) (by rw [hw]; simp) (fun hV2 ls2 a0 a1 a3 a4 a6 a7 => ?_) 7 0 (by omega) (by omega) hV _ hl0 hl1 hl3 hl4 hl6 hl7 rfl rfl
      refine z_iinc dX9_firstSlot_151 a7 rfl ?_
      refine z_goto 52 dX9_firstSlot_154 (by decide) ?_
      rw [zinc]
      exact ih (j + 1) (by omega) (by omega) hV2 _ a0 a1 a3 a4 a6 rfl
    · skip
      refine z_aload_n (i := 0) dX9_firstSlot_62 rfl hl0 ?_
      refine z_gR zf9_122.g dX9_firstSlot_63 (by decide) rfl rfl ?_
      refine z_iload_n (i := 1) dX9_firstSlot_66 rfl hl1 ?_
      refine z_iald dX9_firstSlot_67 (by decide) rfl (zvin (by omega) (by omega)) ?_
      rw [zcl (by omega)]
      refine z_iconst (v := 4) dX9_firstSlot_68 (by decide) ?_
      refine z_iload dX9_firstSlot_69 hl6 ?_
      refine z_bipush (v := 7) dX9_firstSlot_71 (by decide) ?_
      refine z_irem dX9_firstSlot_73 (by decide) ?_
      rw [zl7, zrem (by omega) (by omega) (by omega)]
      refine z_imul dX9_firstSlot_74 ?_
      refine z_iload dX9_firstSlot_75 hl7 ?_
      refine z_iadd dX9_firstSlot_77 ?_
      refine z_ishr dX9_firstSlot_78 ?_
      refine z_iconst (v := 1) dX9_firstSlot_79 (by decide) ?_
      refine z_iand dX9_firstSlot_80 ?_
      refine z_iconst (v := 1) dX9_firstSlot_81 (by decide) ?_
      refine z_icmp_ne 89 dX9_firstSlot_82 (by decide) (fun c_3 => ?_) (fun c_3 => ?_)
      · skip
        refine z_iconst (v := 0) dX9_firstSlot_89 (by decide) ?_
        refine z_istore (i := 8) dX9_firstSlot_90 (by decide) rfl ?_
        refine z_iconst (v := 0) dX9_firstSlot_92 (by decide) ?_
        refine z_istore (i := 9) dX9_firstSlot_93 (by decide) rfl ?_
        refine l9_fsP (wished := wished) (ok := false) hP hG hg hW h24 h35 h29 hQ hd (by omega) (by have hw := (zb_n wished).mp (by assumption); rw [hw, decide_eq_false c_3]; simp) (fun hV2 ls2 a0 a1 a3 a4 a6 a7 => ?_) 7 0 (by omega) (by omega) hV _ hl0 hl1 hl3 hl4 hl6 hl7 rfl rfl
        refine z_iinc dX9_firstSlot_151 a7 rfl ?_
        refine z_goto 52 dX9_firstSlot_154 (by decide) ?_
        rw [zinc]
        exact ih (j + 1) (by omega) (by omega) hV2 _ a0 a1 a3 a4 a6 rfl
      · skip
        refine z_iconst (v := 1) dX9_firstSlot_85 (by decide) ?_
        refine z_goto 90 dX9_firstSlot_86 (by decide) ?_
        refine z_istore (i := 8) dX9_firstSlot_90 (by decide) rfl ?_
        refine z_iconst (v := 0) dX9_firstSlot_92 (by decide) ?_
        refine z_istore (i := 9) dX9_firstSlot_93 (by decide) rfl ?_
        refine l9_fsP (wished := wished) (ok := true) hP hG hg hW h24 h35 h29 hQ hd (by omega) (by rw [c_3]; simp) (fun hV2 ls2 a0 a1 a3 a4 a6 a7 => ?_) 7 0 (by omega) (by omega) hV _ hl0 hl1 hl3 hl4 hl6 hl7 rfl rfl
        refine z_iinc dX9_firstSlot_151 a7 rfl ?_
        refine z_goto 52 dX9_firstSlot_154 (by decide) ?_
        rw [zinc]
        exact ih (j + 1) (by omega) (by omega) hV2 _ a0 a1 a3 a4 a6 rfl
set_option maxHeartbeats 4000000 in
theorem l9_fsD {I : Nat → Nat → Int32} {L : Nat → Nat → Int64} {Q : Option Value → ZH → Prop} {P G g W : Nat} {wished : Bool} {but V : Int32} (hP : P ≤ 6) (hG : G ≤ 60) (hg : g < G) (hW : W ≤ 50) (h24 : I 0 24 = nI P) (h35 : I 0 35 = nI G) (h29 : I 29 g = nI W) (hQ : Q (some (.int V)) (mh I L)) : ∀ (m j : Nat), 7 * W + 7 - j < m → j ≤ 1000 → mfind (mfP I P G g wished but) (24 * j) (24 * (7 * W + 7) - (24 * j)) = V → ∀ ls : Nat → Option Value, ls 0 = some (.ref 0) → ls 1 = some (.int (nI g)) → ls 3 = some (.int (zb wished)) → ls 4 = some (.int but) → ls 6 = some (.int (nI j)) → Zf x9_firstSlot 0 0 32 ls [] (mh I L) Q := by
  intro m
  induction m with
  | zero => intro j h; omega
  | succ m ih =>
  intro j hm hj hV ls hl0 hl1 hl3 hl4 hl6
  refine z_iload dX9_firstSlot_32 hl6 ?_
  refine z_bipush (v := 7) dX9_firstSlot_34 (by decide) ?_
  refine z_aload_n (i := 0) dX9_firstSlot_36 rfl hl0 ?_
  refine z_gR zf9_119.g dX9_firstSlot_37 (by decide) rfl rfl ?_
  refine z_iload_n (i := 1) dX9_firstSlot_40 rfl hl1 ?_
  refine z_iald dX9_firstSlot_41 (by decide) rfl (zvin (by omega) (by omega)) ?_
  rw [zcl (by omega), h29]
  refine z_imul dX9_firstSlot_42 ?_
  refine z_bipush (v := 7) dX9_firstSlot_43 (by decide) ?_
  refine z_iadd dX9_firstSlot_45 ?_
  simp only [zl7, pk_mul, nI_add]
  refine z_icmp_ge 163 dX9_firstSlot_46 (by decide) (fun c_1 => ?_) (fun c_1 => ?_)
  · skip
    refine z_iconst (v := (-1)) dX9_firstSlot_163 (by decide) ?_
    refine z_iret dX9_firstSlot_164 rfl ?_
    have h1 := (zle (by omega) (by omega)).mp c_1
    rw [show 24 * (7 * W + 7) - 24 * j = 0 by omega] at hV
    rw [show (-1 : Int32) = V from hV]
    exact hQ
  · skip
    have h1 : ¬ 7 * W + 7 ≤ j := fun q => c_1 ((zle (by omega) (by omega)).mpr q)
    refine z_iconst (v := 0) dX9_firstSlot_49 (by decide) ?_
    refine z_istore (i := 7) dX9_firstSlot_50 (by decide) rfl ?_
    refine l9_fsH (d := j) hP hG hg hW h24 h35 h29 hQ (by omega) (fun hV2 ls2 a0 a1 a3 a4 a6 => ?_) 5 0 (by omega) (by omega) hV _ hl0 hl1 hl3 hl4 hl6 rfl
    refine z_iinc dX9_firstSlot_157 a6 rfl ?_
    refine z_goto 32 dX9_firstSlot_160 (by decide) ?_
    rw [zinc]
    exact ih (j + 1) (by omega) (by omega) hV2 _ a0 a1 a3 a4 rfl
/-- the reference's firstSlot: week W, from day F on -/
def mfs (I : Nat → Nat → Int32) (P G g W F : Nat) (wished : Bool) (but : Int32) : Int32 := mfind (mfP I P G g wished but) (24 * (if 7 * W ≤ F then F else 7 * W)) (24 * (7 * W + 7) - 24 * (if 7 * W ≤ F then F else 7 * W))
set_option maxHeartbeats 4000000 in
theorem c9_firstSlot (I : Nat → Nat → Int32) (L : Nat → Nat → Int64) (P G g W F : Nat) (wished : Bool) (but : Int32) (hP : P ≤ 6) (hG : G ≤ 60) (hg : g < G) (hW : W ≤ 50) (hF : F ≤ 400) (h24 : I 0 24 = nI P) (h35 : I 0 35 = nI G) (h29 : I 29 g = nI W) : Zm yX9_firstSlot cX9_firstSlot 11 (some .int) 3 120 0 0 [.ref 0, .int (nI g), .int (nI F), .int (zb wished), .int but] (mh I L) (mQ (some (.int (mfs I P G g W F wished but))) I L) := by
  refine Zm_of (lg := false) (by decide) (fun _ => by simp [Value.category]) (fun _ => Nat.le_of_ble_eq_true rfl) ?_
  show Zf x9_firstSlot 0 0 0 (zargs [.ref 0, .int (nI g), .int (nI F), .int (zb wished), .int but]) [] (mh I L) _
  refine z_bipush (v := 7) dX9_firstSlot_0 (by decide) ?_
  refine z_aload_n (i := 0) dX9_firstSlot_2 rfl rfl ?_
  refine z_gR zf9_119.g dX9_firstSlot_3 (by decide) rfl rfl ?_
  refine z_iload_n (i := 1) dX9_firstSlot_6 rfl rfl ?_
  refine z_iald dX9_firstSlot_7 (by decide) rfl (zvin (by omega) (by omega)) ?_
  rw [zcl (by omega), h29]
  refine z_imul dX9_firstSlot_8 ?_
  refine z_iload_n (i := 2) dX9_firstSlot_9 rfl rfl ?_
  simp only [zl7, pk_mul]
  refine z_icmp_le 25 dX9_firstSlot_10 (by decide) (fun c_1 => ?_) (fun c_1 => ?_)
  · skip
    refine z_iload_n (i := 2) dX9_firstSlot_25 rfl rfl ?_
    refine z_topi (fun w hw => ?_)
    have e2 : w = nI (if 7 * W ≤ F then F else 7 * W) := by
      rw [hw]
      rw [zle (by omega) (by omega)] at c_1
      simp [*]
    subst e2
    refine z_istore (i := 5) dX9_firstSlot_26 (by decide) rfl ?_
    refine z_iload dX9_firstSlot_28 rfl ?_
    refine z_istore (i := 6) dX9_firstSlot_30 (by decide) rfl ?_
    exact l9_fsD (wished := wished) (but := but) hP hG hg hW h24 h35 h29 (V := mfs I P G g W F wished but) ⟨rfl, rfl⟩ 1000 _ (by split <;> omega) (by split <;> omega) rfl _ rfl rfl rfl rfl rfl
  · skip
    refine z_bipush (v := 7) dX9_firstSlot_13 (by decide) ?_
    refine z_aload_n (i := 0) dX9_firstSlot_15 rfl rfl ?_
    refine z_gR zf9_119.g dX9_firstSlot_16 (by decide) rfl rfl ?_
    refine z_iload_n (i := 1) dX9_firstSlot_19 rfl rfl ?_
    refine z_iald dX9_firstSlot_20 (by decide) rfl (zvin (by omega) (by omega)) ?_
    rw [zcl (by omega), h29]
    refine z_imul dX9_firstSlot_21 ?_
    simp only [zl7, pk_mul]
    refine z_goto 26 dX9_firstSlot_22 (by decide) ?_
    refine z_topi (fun w hw => ?_)
    have e2 : w = nI (if 7 * W ≤ F then F else 7 * W) := by
      rw [hw]
      rw [zle (by omega) (by omega)] at c_1
      simp [*]
    subst e2
    refine z_istore (i := 5) dX9_firstSlot_26 (by decide) rfl ?_
    refine z_iload dX9_firstSlot_28 rfl ?_
    refine z_istore (i := 6) dX9_firstSlot_30 (by decide) rfl ?_
    exact l9_fsD (wished := wished) (but := but) hP hG hg hW h24 h35 h29 (V := mfs I P G g W F wished but) ⟨rfl, rfl⟩ 1000 _ (by split <;> omega) (by split <;> omega) rfl _ rfl rfl rfl rfl rfl
