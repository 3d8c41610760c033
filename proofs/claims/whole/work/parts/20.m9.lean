theorem zt0 : (0 : Int32).toNatClampNeg = 0 := by decide
theorem zt1 : (1 : Int32).toNatClampNeg = 1 := by decide
theorem zt2 : (2 : Int32).toNatClampNeg = 2 := by decide
theorem zt3 : (3 : Int32).toNatClampNeg = 3 := by decide
theorem zt4 : (4 : Int32).toNatClampNeg = 4 := by decide
theorem zt5 : (5 : Int32).toNatClampNeg = 5 := by decide
theorem zt6 : (6 : Int32).toNatClampNeg = 6 := by decide
theorem zt7 : (7 : Int32).toNatClampNeg = 7 := by decide
theorem mga_or (I : Nat → Nat → Int32) (s : Int32) : ∀ k, mga I s k = -1 ∨ ∃ j, j < k ∧ mga I s k = nI j
  | 0 => Or.inl rfl
  | k + 1 => by
    unfold mga
    split
    · exact Or.inr ⟨k, by omega, rfl⟩
    · rcases mga_or I s k with h | ⟨j, h1, h2⟩
      · exact Or.inl h
      · exact Or.inr ⟨j, by omega, h2⟩
theorem mga_in {I : Nat → Nat → Int32} {s : Int32} {G : Nat} (hG : G ≤ 60) (h : 0 ≤ mga I s G) : vp_in (mga I s G) 60 := by
  rcases mga_or I s G with e | ⟨j, hj, e⟩
  · rw [e] at h; exact absurd h (by decide)
  · rw [e]; exact zvin (by omega) (by omega)
theorem mga_j {I : Nat → Nat → Int32} {s : Int32} {G : Nat} (h : ¬ mga I s G < 0) : ∃ j, j < G ∧ mga I s G = nI j := by
  rcases mga_or I s G with e | h2
  · rw [e] at h; exact absurd (by decide) h
  · exact h2
/-- what a text's names tell, in hour h of pitch p; g: the game that lies there, or -1 -/
def mkn (I : Nat → Nat → Int32) (D h p : Nat) (warm wet g : Int32) : Nat → Nat → Int32 :=
  zu (zu (zu (zu (zu (zu (zu (zu I 14 0 wet) 14 1 warm) 14 2 (mleast (fun k => I 18 (24 * p + k)) 24)) 14 3 (msum (fun k => I 18 (24 * p + k)) 24 / 24)) 14 4 (I 23 p)) 14 5 (nI (D % 7))) 14 6 (nI h)) 14 7 (if 0 ≤ g then I 27 g.toNatClampNeg else -1)
def mmv (I : Nat → Nat → Int32) (P G D g : Nat) : Nat → Nat → Int32 := if mfs I P G g (mWk I g) (D + 1) false (-1) < 0 then zu (zu I 31 g 3) 32 g (-1) else zu (mlays I g (mfs I P G g (mWk I g) (D + 1) false (-1))) 33 g (I 33 g + 1)
def mlost (I : Nat → Nat → Int32) (c : Nat) : Nat → Nat → Int32 := zu I 34 c (I 34 c + 1)
def mplay (I : Nat → Nat → Int32) (p g : Nat) (wet : Int32) : Nat → Nat → Int32 :=
  zu (mwI (zu (zu (zu I 31 g 2) 22 p (I 22 p + 1)) 23 p (I 23 p + 1)) 18 p (I 17 p) (I 27 g) wet 24) 20 p (I 20 p + msum (mww (zu (zu (zu I 31 g 2) 22 p (I 22 p + 1)) 23 p (I 23 p + 1)) 18 p (I 17 p) (I 27 g) wet) 24)
def mplay2 (I : Nat → Nat → Int32) (p g : Nat) (wet : Int32) : Nat → Nat → Int32 :=
  zu (mwI I 19 p (1 - I 17 p) (I 27 g) wet 24) 21 p (I 21 p + msum (mww I 19 p (1 - I 17 p) (I 27 g) wet) 24)
def mhour (I : Nat → Nat → Int32) (P G D : Nat) (ts : List MLn) (h p : Nat) (warm wet : Int32) : Nat → Nat → Int32 :=
  let g := mga I (nI (24 * D + 6 * h + p)) G
  let x := mshut ts (mkn I D h p warm wet g) (nI p)
  let n := g.toNatClampNeg
  if x.2 = true then
    let J := zu x.1 24 p (x.1 24 p + 1)
    if g < 0 then J else
      mmv (mlost (mlost J (J 25 n).toNatClampNeg) (J 26 n).toNatClampNeg) P G D n
  else if g < 0 then x.1 else mplay2 (mplay x.1 p n wet) p n wet
abbrev x9_hour : ZX := (RX9, cX9_hour, 6, none, "hour", 5, 200, false)
set_option maxHeartbeats 4000000 in
theorem c9_hour (I : Nat → Nat → Int32) (L : Nat → Nat → Int64) (P G D : Nat) (ok : mok I P G D) (hd : Nat) (ts : List MLn) (ht : mtx I hd ts) (hcl : ∀ g, g < G → ∃ a b, a < 16 ∧ b < 16 ∧ I 25 g = nI a ∧ I 26 g = nI b) (h p : Nat) (hh : h < 4) (hp : p < P) (warm wet : Int32) : Zm yX9_hour cX9_hour 6 none 5 200 0 0 [.ref 0, .int (nI h), .int (nI p), .int warm, .int wet] (mh I L) (mQ none (mhour I P G D ts h p warm wet) L) := by
  refine Zm_of (lg := false) (by decide) (fun _ => by simp [Value.category]) (fun _ => Nat.le_of_ble_eq_true rfl) ?_
  show Zf x9_hour 0 0 0 (zargs [.ref 0, .int (nI h), .int (nI p), .int warm, .int wet]) [] (mh I L) _
  generalize hQ0 : (mQ none (mhour I P G D ts h p warm wet) L : Option Value → ZH → Prop) = Q0
  obtain ⟨hP, hG, hD, h24, h35, h34, hw, hn⟩ := id ok
  refine z_aload_n (i := 0) dX9_hour_0 rfl rfl ?_
  refine z_bipush (v := 24) dX9_hour_1 (by decide) ?_
  refine z_aload_n (i := 0) dX9_hour_3 rfl rfl ?_
  refine z_gI zf9_239.g dX9_hour_4 (by decide) rfl ?_
  rw [h34]
  refine z_imul dX9_hour_7 ?_
  refine z_bipush (v := 6) dX9_hour_8 (by decide) ?_
  refine z_iload_n (i := 1) dX9_hour_10 rfl rfl ?_
  refine z_imul dX9_hour_11 ?_
  refine z_iadd dX9_hour_12 ?_
  refine z_iload_n (i := 2) dX9_hour_13 rfl rfl ?_
  refine z_iadd dX9_hour_14 ?_
  refine z_top (y := .int (nI (24 * D + 6 * h + p))) (by simp only [zl24, zl6, pk_mul, nI_add]) ?_
  refine z_callV (st := []) (mc2 := 0) (ms2 := 0) zi9_259 zv_yX9_gameAt (c9_gameAt I L G _ hG h35) dX9_hour_15 (show (0 : Nat) < 35 by decide) rfl rfl rfl rfl (by decide) (by decide) (Nat.le_of_ble_eq_true rfl) (by decide) (by decide) (fun r h2 hq => ?_)
  obtain ⟨rfl, rfl⟩ := hq
  have hgo := mga_or I (nI (24 * D + 6 * h + p)) G
  refine z_istore (i := 5) dX9_hour_18 (by decide) rfl ?_
  refine z_aload_n (i := 0) dX9_hour_20 rfl rfl ?_
  refine z_gR zf9_74.g dX9_hour_21 (by decide) rfl rfl ?_
  refine z_iconst (v := 0) dX9_hour_24 (by decide) ?_
  refine z_iload dX9_hour_25 rfl ?_
  refine z_iast dX9_hour_27 (by decide) rfl (zvin (n := 0) (by omega) (by omega)) ?_
  refine z_aload_n (i := 0) dX9_hour_28 rfl rfl ?_
  refine z_gR zf9_74.g dX9_hour_29 (by decide) rfl rfl ?_
  refine z_iconst (v := 1) dX9_hour_32 (by decide) ?_
  refine z_iload_n (i := 3) dX9_hour_33 rfl rfl ?_
  refine z_iast dX9_hour_34 (by decide) rfl (zvin (n := 1) (by omega) (by omega)) ?_
  refine z_aload_n (i := 0) dX9_hour_35 rfl rfl ?_
  refine z_gR zf9_74.g dX9_hour_36 (by decide) rfl rfl ?_
  refine z_iconst (v := 2) dX9_hour_39 (by decide) ?_
  refine z_aload_n (i := 0) dX9_hour_40 rfl rfl ?_
  refine z_gR zf9_86.g dX9_hour_41 (by decide) rfl rfl ?_
  refine z_iload_n (i := 2) dX9_hour_44 rfl rfl ?_
  refine z_callS (st := [_, _]) (mc2 := 0) (ms2 := 0) zi9_285 zs_yX9_leastOf (c9_leastOf _ L 18 p (by decide) rfl (by omega)) dX9_hour_45 rfl rfl (by decide) (by decide) (Nat.le_of_ble_eq_true rfl) (by decide) (by decide) (fun r h2 hq => ?_)
  obtain ⟨rfl, rfl⟩ := hq
  refine z_iast dX9_hour_48 (by decide) rfl (zvin (n := 2) (by omega) (by omega)) ?_
  simp only [zt0, zt1, zt2]
  refine z_aload_n (i := 0) dX9_hour_49 rfl rfl ?_
  refine z_gR zf9_74.g dX9_hour_50 (by decide) rfl rfl ?_
  refine z_iconst (v := 3) dX9_hour_53 (by decide) ?_
  refine z_aload_n (i := 0) dX9_hour_54 rfl rfl ?_
  refine z_gR zf9_86.g dX9_hour_55 (by decide) rfl rfl ?_
  refine z_iload_n (i := 2) dX9_hour_58 rfl rfl ?_
  refine z_callS (st := [_, _]) (mc2 := 0) (ms2 := 0) zi9_289 zs_yX9_meanOf (c9_meanOf _ L 18 p (by decide) rfl (by omega)) dX9_hour_59 rfl rfl (by decide) (by decide) (Nat.le_of_ble_eq_true rfl) (by decide) (by decide) (fun r h2 hq => ?_)
  obtain ⟨rfl, rfl⟩ := hq
  refine z_iast dX9_hour_62 (by decide) rfl (zvin (n := 3) (by omega) (by omega)) ?_
  refine z_aload_n (i := 0) dX9_hour_63 rfl rfl ?_
  refine z_gR zf9_74.g dX9_hour_64 (by decide) rfl rfl ?_
  refine z_iconst (v := 4) dX9_hour_67 (by decide) ?_
  refine z_aload_n (i := 0) dX9_hour_68 rfl rfl ?_
  refine z_gR zf9_101.g dX9_hour_69 (by decide) rfl rfl ?_
  refine z_iload_n (i := 2) dX9_hour_72 rfl rfl ?_
  refine z_iald dX9_hour_73 (by decide) rfl (zvin (by omega) (by omega)) ?_
  simp only [zt3, zcl (show p ≤ 100000 by omega)]
  refine z_iast dX9_hour_74 (by decide) rfl (zvin (n := 4) (by omega) (by omega)) ?_
  simp only [zt4]
  refine z_aload_n (i := 0) dX9_hour_75 rfl rfl ?_
  refine z_gR zf9_74.g dX9_hour_76 (by decide) rfl rfl ?_
  refine z_iconst (v := 5) dX9_hour_79 (by decide) ?_
  refine z_aload_n (i := 0) dX9_hour_80 rfl rfl ?_
  refine z_gI zf9_239.g dX9_hour_81 (by decide) rfl ?_
  refine z_bipush (v := 7) dX9_hour_84 (by decide) ?_
  refine z_irem dX9_hour_86 (by decide) ?_
  refine z_top (y := .int (nI (D % 7))) (by show Value.int (I 0 34 - I 0 34 / 7 * 7) = _; rw [h34, zl7, zrem (by omega) (by omega) (by omega)]) ?_
  refine z_iast dX9_hour_87 (by decide) rfl (zvin (n := 5) (by omega) (by omega)) ?_
  simp only [zt5]
  refine z_aload_n (i := 0) dX9_hour_88 rfl rfl ?_
  refine z_gR zf9_74.g dX9_hour_89 (by decide) rfl rfl ?_
  refine z_bipush (v := 6) dX9_hour_92 (by decide) ?_
  refine z_iload_n (i := 1) dX9_hour_94 rfl rfl ?_
  refine z_iast dX9_hour_95 (by decide) rfl (zvin (n := 6) (by omega) (by omega)) ?_
  simp only [zt6]
  refine z_aload_n (i := 0) dX9_hour_96 rfl rfl ?_
  refine z_gR zf9_74.g dX9_hour_97 (by decide) rfl rfl ?_
  refine z_bipush (v := 7) dX9_hour_100 (by decide) ?_
  refine z_iload dX9_hour_102 rfl ?_
  refine z_if_ge 111 dX9_hour_104 (by decide) (fun c_1 => ?_) (fun c_1 => ?_)
  · skip
    refine z_aload_n (i := 0) dX9_hour_111 rfl rfl ?_
    refine z_gR zf9_113.g dX9_hour_112 (by decide) rfl rfl ?_
    refine z_iload dX9_hour_115 rfl ?_
    refine z_iald dX9_hour_117 (by decide) rfl (mga_in hG c_1) ?_
    refine z_topi (fun w hw0 => ?_)
    have e2 : w = (if 0 ≤ mga I (nI (24 * D + 6 * h + p)) G then I 27 (mga I (nI (24 * D + 6 * h + p)) G).toNatClampNeg else -1) := by
      rw [hw0]
      first | exact (if_pos c_1).symm | exact (if_neg (Int32.not_le.mpr c_1)).symm | exact (if_neg c_1).symm
    subst e2
    refine z_iast dX9_hour_118 (by decide) rfl (zvin (n := 7) (by omega) (by omega)) ?_
    simp only [zt7]
    refine z_hp (h2 := mh (mkn I D h p warm wet (mga I (nI (24 * D + 6 * h + p)) G)) L) rfl ?_
    refine z_aload_n (i := 0) dX9_hour_119 rfl rfl ?_
    refine z_iload_n (i := 2) dX9_hour_120 rfl rfl ?_
    refine z_callV (st := []) (mc2 := 0) (ms2 := 0) zi9_292 zv_yX9_isShut (c9_isShut (mkn I D h p warm wet (mga I (nI (24 * D + 6 * h + p)) G)) L hd p ts (by omega) (mtx_cong ht rfl rfl rfl rfl rfl rfl)) dX9_hour_121 (show (0 : Nat) < 35 by decide) rfl rfl rfl rfl (by decide) (by decide) (Nat.le_of_ble_eq_true rfl) (by decide) (by decide) (fun r h2 hq => ?_)
    obtain ⟨rfl, rfl⟩ := hq
    have hJ := fun a => mshut_ne ts (mkn I D h p warm wet (mga I (nI (24 * D + 6 * h + p)) G)) (nI p) a
    have he : mhour I P G D ts h p warm wet = (if (mshut ts (mkn I D h p warm wet (mga I (nI (24 * D + 6 * h + p)) G)) (nI p)).2 = true then (if mga I (nI (24 * D + 6 * h + p)) G < 0 then zu (mshut ts (mkn I D h p warm wet (mga I (nI (24 * D + 6 * h + p)) G)) (nI p)).1 24 p ((mshut ts (mkn I D h p warm wet (mga I (nI (24 * D + 6 * h + p)) G)) (nI p)).1 24 p + 1) else mmv (mlost (mlost (zu (mshut ts (mkn I D h p warm wet (mga I (nI (24 * D + 6 * h + p)) G)) (nI p)).1 24 p ((mshut ts (mkn I D h p warm wet (mga I (nI (24 * D + 6 * h + p)) G)) (nI p)).1 24 p + 1)) ((mshut ts (mkn I D h p warm wet (mga I (nI (24 * D + 6 * h + p)) G)) (nI p)).1 25 (mga I (nI (24 * D + 6 * h + p)) G).toNatClampNeg).toNatClampNeg) ((mshut ts (mkn I D h p warm wet (mga I (nI (24 * D + 6 * h + p)) G)) (nI p)).1 26 (mga I (nI (24 * D + 6 * h + p)) G).toNatClampNeg).toNatClampNeg) P G D (mga I (nI (24 * D + 6 * h + p)) G).toNatClampNeg) else (if mga I (nI (24 * D + 6 * h + p)) G < 0 then (mshut ts (mkn I D h p warm wet (mga I (nI (24 * D + 6 * h + p)) G)) (nI p)).1 else mplay2 (mplay (mshut ts (mkn I D h p warm wet (mga I (nI (24 * D + 6 * h + p)) G)) (nI p)).1 p (mga I (nI (24 * D + 6 * h + p)) G).toNatClampNeg wet) p (mga I (nI (24 * D + 6 * h + p)) G).toNatClampNeg wet)) := rfl
    generalize mshut ts (mkn I D h p warm wet (mga I (nI (24 * D + 6 * h + p)) G)) (nI p) = x at hJ he ⊢
    obtain ⟨J, sh⟩ := x
    dsimp only at hJ he ⊢
    refine z_if_eq 183 dX9_hour_124 (by decide) (fun c_2 => ?_) (fun c_2 => ?_)
    · skip
      refine z_iload dX9_hour_183 rfl ?_
      refine z_if_lt 282 dX9_hour_185 (by decide) (fun c_3 => ?_) (fun c_3 => ?_)
      · skip
        try simp only [zcl (show p ≤ 100000 by omega)]
        refine z_vret dX9_hour_282 rfl ?_
        subst hQ0
        have hs := (zb_0 sh).mp (by assumption)
        rw [hs, if_neg (by decide), if_pos (show mga I (nI (24 * D + 6 * h + p)) G < 0 by assumption)] at he
        exact ⟨rfl, by rw [he]⟩
      · skip
        obtain ⟨j, hj, ej⟩ := mga_j c_3
        obtain ⟨a, b, ha, hb, e25, e26⟩ := hcl j hj
        obtain ⟨W, hW, e29⟩ := hw j hj
        rw [ej]
        refine z_aload_n (i := 0) dX9_hour_188 rfl rfl ?_
        refine z_gR zf9_125.g dX9_hour_189 (by decide) rfl rfl ?_
        refine z_iload dX9_hour_192 rfl ?_
        refine z_iconst (v := 2) dX9_hour_194 (by decide) ?_
        refine z_iast dX9_hour_195 (by decide) rfl (zvin (by omega) (by omega)) ?_
        simp only [zcl (show j ≤ 100000 by omega)]
        refine z_aload_n (i := 0) dX9_hour_196 rfl rfl ?_
        refine z_gR zf9_98.g dX9_hour_197 (by decide) rfl rfl ?_
        refine z_iload_n (i := 2) dX9_hour_200 rfl rfl ?_
        refine z_dup2 dX9_hour_201 rfl rfl ?_
        refine z_iald dX9_hour_202 (by decide) rfl (zvin (by omega) (by omega)) ?_
        simp only [zcl (show p ≤ 100000 by omega)]
        refine z_iconst (v := 1) dX9_hour_203 (by decide) ?_
        refine z_iadd dX9_hour_204 ?_
        refine z_iast dX9_hour_205 (by decide) rfl (zvin (by omega) (by omega)) ?_
        simp only [zcl (show p ≤ 100000 by omega)]
        refine z_aload_n (i := 0) dX9_hour_206 rfl rfl ?_
        refine z_gR zf9_101.g dX9_hour_207 (by decide) rfl rfl ?_
        refine z_iload_n (i := 2) dX9_hour_210 rfl rfl ?_
        refine z_dup2 dX9_hour_211 rfl rfl ?_
        refine z_iald dX9_hour_212 (by decide) rfl (zvin (by omega) (by omega)) ?_
        simp only [zcl (show p ≤ 100000 by omega)]
        refine z_iconst (v := 1) dX9_hour_213 (by decide) ?_
        refine z_iadd dX9_hour_214 ?_
        refine z_iast dX9_hour_215 (by decide) rfl (zvin (by omega) (by omega)) ?_
        simp only [zcl (show p ≤ 100000 by omega)]
        refine z_aload_n (i := 0) dX9_hour_216 rfl rfl ?_
        refine z_gR zf9_92.g dX9_hour_217 (by decide) rfl rfl ?_
        refine z_iload_n (i := 2) dX9_hour_220 rfl rfl ?_
        refine z_dup2 dX9_hour_221 rfl rfl ?_
        refine z_iald dX9_hour_222 (by decide) rfl (zvin (by omega) (by omega)) ?_
        simp only [zcl (show p ≤ 100000 by omega)]
        refine z_aload_n (i := 0) dX9_hour_223 rfl rfl ?_
        refine z_gR zf9_86.g dX9_hour_224 (by decide) rfl rfl ?_
        refine z_iload_n (i := 2) dX9_hour_227 rfl rfl ?_
        refine z_aload_n (i := 0) dX9_hour_228 rfl rfl ?_
        refine z_gR zf9_83.g dX9_hour_229 (by decide) rfl rfl ?_
        refine z_iload_n (i := 2) dX9_hour_232 rfl rfl ?_
        refine z_iald dX9_hour_233 (by decide) rfl (zvin (by omega) (by omega)) ?_
        simp only [zcl (show p ≤ 100000 by omega)]
        refine z_aload_n (i := 0) dX9_hour_234 rfl rfl ?_
        refine z_gR zf9_113.g dX9_hour_235 (by decide) rfl rfl ?_
        refine z_iload dX9_hour_238 rfl ?_
        refine z_iald dX9_hour_240 (by decide) rfl (zvin (by omega) (by omega)) ?_
        simp only [zcl (show j ≤ 100000 by omega)]
        refine z_iload dX9_hour_241 rfl ?_
        refine z_callS (st := [_, _, _]) (mc2 := 0) (ms2 := 0) zi9_298 zs_yX9_wears (c9_wears _ L 18 p _ _ _ (by decide) rfl (by omega)) dX9_hour_243 rfl rfl (by decide) (by decide) (Nat.le_of_ble_eq_true rfl) (by decide) (by decide) (fun r h2 hq => ?_)
        obtain ⟨rfl, rfl⟩ := hq
        refine z_iadd dX9_hour_246 ?_
        refine z_iast dX9_hour_247 (by decide) rfl (zvin (by omega) (by omega)) ?_
        simp only [zcl (show p ≤ 100000 by omega)]
        refine z_aload_n (i := 0) dX9_hour_248 rfl rfl ?_
        refine z_gR zf9_95.g dX9_hour_249 (by decide) rfl rfl ?_
        refine z_iload_n (i := 2) dX9_hour_252 rfl rfl ?_
        refine z_dup2 dX9_hour_253 rfl rfl ?_
        refine z_iald dX9_hour_254 (by decide) rfl (zvin (by omega) (by omega)) ?_
        simp only [zcl (show p ≤ 100000 by omega)]
        refine z_aload_n (i := 0) dX9_hour_255 rfl rfl ?_
        refine z_gR zf9_89.g dX9_hour_256 (by decide) rfl rfl ?_
        refine z_iload_n (i := 2) dX9_hour_259 rfl rfl ?_
        refine z_iconst (v := 1) dX9_hour_260 (by decide) ?_
        refine z_aload_n (i := 0) dX9_hour_261 rfl rfl ?_
        refine z_gR zf9_83.g dX9_hour_262 (by decide) rfl rfl ?_
        refine z_iload_n (i := 2) dX9_hour_265 rfl rfl ?_
        refine z_iald dX9_hour_266 (by decide) rfl (zvin (by omega) (by omega)) ?_
        simp only [zcl (show p ≤ 100000 by omega)]
        refine z_isub dX9_hour_267 ?_
        refine z_aload_n (i := 0) dX9_hour_268 rfl rfl ?_
        refine z_gR zf9_113.g dX9_hour_269 (by decide) rfl rfl ?_
        refine z_iload dX9_hour_272 rfl ?_
        refine z_iald dX9_hour_274 (by decide) rfl (zvin (by omega) (by omega)) ?_
        simp only [zcl (show j ≤ 100000 by omega)]
        refine z_iload dX9_hour_275 rfl ?_
        refine z_callS (st := [_, _, _]) (mc2 := 0) (ms2 := 0) zi9_298 zs_yX9_wears (c9_wears _ L 19 p _ _ _ (by decide) rfl (by omega)) dX9_hour_277 rfl rfl (by decide) (by decide) (Nat.le_of_ble_eq_true rfl) (by decide) (by decide) (fun r h2 hq => ?_)
        obtain ⟨rfl, rfl⟩ := hq
        refine z_iadd dX9_hour_280 ?_
        refine z_iast dX9_hour_281 (by decide) rfl (zvin (by omega) (by omega)) ?_
        try simp only [zcl (show p ≤ 100000 by omega)]
        refine z_vret dX9_hour_282 rfl ?_
        subst hQ0
        have hs := (zb_0 sh).mp (by assumption)
        rw [hs, if_neg (by decide), if_neg (show ¬ mga I (nI (24 * D + 6 * h + p)) G < 0 by assumption), ej, zcl (show j ≤ 100000 by omega)] at he
        exact ⟨rfl, by rw [he]; rfl⟩
    · skip
      refine z_aload_n (i := 0) dX9_hour_127 rfl rfl ?_
      refine z_gR zf9_104.g dX9_hour_128 (by decide) rfl rfl ?_
      refine z_iload_n (i := 2) dX9_hour_131 rfl rfl ?_
      refine z_dup2 dX9_hour_132 rfl rfl ?_
      refine z_iald dX9_hour_133 (by decide) rfl (zvin (by omega) (by omega)) ?_
      simp only [zcl (show p ≤ 100000 by omega)]
      refine z_iconst (v := 1) dX9_hour_134 (by decide) ?_
      refine z_iadd dX9_hour_135 ?_
      refine z_iast dX9_hour_136 (by decide) rfl (zvin (by omega) (by omega)) ?_
      simp only [zcl (show p ≤ 100000 by omega)]
      refine z_iload dX9_hour_137 rfl ?_
      refine z_if_lt 282 dX9_hour_139 (by decide) (fun c_4 => ?_) (fun c_4 => ?_)
      · skip
        try simp only [zcl (show p ≤ 100000 by omega)]
        refine z_vret dX9_hour_282 rfl ?_
        subst hQ0
        have hs := (zb_n sh).mp (by assumption)
        rw [hs, if_pos rfl, if_pos (show mga I (nI (24 * D + 6 * h + p)) G < 0 by assumption)] at he
        exact ⟨rfl, by rw [he]⟩
      · skip
        obtain ⟨j, hj, ej⟩ := mga_j c_4
        obtain ⟨a, b, ha, hb, e25, e26⟩ := hcl j hj
        obtain ⟨W, hW, e29⟩ := hw j hj
        rw [ej]
        refine z_aload_n (i := 0) dX9_hour_142 rfl rfl ?_
        refine z_gR zf9_134.g dX9_hour_143 (by decide) rfl rfl ?_
        refine z_aload_n (i := 0) dX9_hour_146 rfl rfl ?_
        refine z_gR zf9_107.g dX9_hour_147 (by decide) rfl rfl ?_
        refine z_iload dX9_hour_150 rfl ?_
        refine z_iald dX9_hour_152 (by decide) rfl (zvin (by omega) (by omega)) ?_
        rw [zcl (show j ≤ 100000 by omega), show (zu J 24 p (J 24 p + 1)) 25 j = nI a from (congrFun (hJ 25 (by decide)) j).trans e25]
        refine z_dup2 dX9_hour_153 rfl rfl ?_
        refine z_iald dX9_hour_154 (by decide) rfl (zvin (by omega) (by omega)) ?_
        rw [zcl (show a ≤ 100000 by omega)]
        refine z_iconst (v := 1) dX9_hour_155 (by decide) ?_
        refine z_iadd dX9_hour_156 ?_
        refine z_iast dX9_hour_157 (by decide) rfl (zvin (by omega) (by omega)) ?_
        simp only [zcl (show a ≤ 100000 by omega)]
        refine z_aload_n (i := 0) dX9_hour_158 rfl rfl ?_
        refine z_gR zf9_134.g dX9_hour_159 (by decide) rfl rfl ?_
        refine z_aload_n (i := 0) dX9_hour_162 rfl rfl ?_
        refine z_gR zf9_110.g dX9_hour_163 (by decide) rfl rfl ?_
        refine z_iload dX9_hour_166 rfl ?_
        refine z_iald dX9_hour_168 (by decide) rfl (zvin (by omega) (by omega)) ?_
        rw [zcl (show j ≤ 100000 by omega), show (zu (zu J 24 p (J 24 p + 1)) 34 a (zu J 24 p (J 24 p + 1) 34 a + 1)) 26 j = nI b from (congrFun (hJ 26 (by decide)) j).trans e26]
        refine z_dup2 dX9_hour_169 rfl rfl ?_
        refine z_iald dX9_hour_170 (by decide) rfl (zvin (by omega) (by omega)) ?_
        rw [zcl (show b ≤ 100000 by omega)]
        refine z_iconst (v := 1) dX9_hour_171 (by decide) ?_
        refine z_iadd dX9_hour_172 ?_
        refine z_iast dX9_hour_173 (by decide) rfl (zvin (by omega) (by omega)) ?_
        simp only [zcl (show b ≤ 100000 by omega)]
        refine z_aload_n (i := 0) dX9_hour_174 rfl rfl ?_
        refine z_iload dX9_hour_175 rfl ?_
        refine z_callV (st := []) (mc2 := 0) (ms2 := 0) zi9_295 zv_yX9_movesOn (c9_movesOn (mlost (mlost (zu J 24 p (J 24 p + 1)) a) b) L P G D hP hG hD ((congrFun (hJ 0 (by decide)) 24).trans h24) ((congrFun (hJ 0 (by decide)) 35).trans h35) ((congrFun (hJ 0 (by decide)) 34).trans h34) j W hW hj ((congrFun (hJ 29 (by decide)) j).trans e29)) dX9_hour_177 (show (0 : Nat) < 35 by decide) rfl rfl rfl rfl (by decide) (by decide) (Nat.le_of_ble_eq_true rfl) (by decide) (by decide) (fun r h2 hq => ?_)
        obtain ⟨rfl, rfl⟩ := hq
        try simp only [Option.toList, List.nil_append]
        refine z_goto 282 dX9_hour_180 (by decide) ?_
        try simp only [zcl (show p ≤ 100000 by omega)]
        refine z_vret dX9_hour_282 rfl ?_
        subst hQ0
        have hs := (zb_n sh).mp (by assumption)
        rw [hs, if_pos rfl, if_neg (show ¬ mga I (nI (24 * D + 6 * h + p)) G < 0 by assumption), ej, zcl (show j ≤ 100000 by omega), show J 25 j = nI a from (congrFun (hJ 25 (by decide)) j).trans e25, show J 26 j = nI b from (congrFun (hJ 26 (by decide)) j).trans e26, zcl (show a ≤ 100000 by omega), zcl (show b ≤ 100000 by omega)] at he
        unfold mmv at he
        rw [mWk_of (I := mlost (mlost (zu J 24 p (J 24 p + 1)) a) b) ((congrFun (hJ 29 (by decide)) j).trans e29) hW] at he
        exact ⟨rfl, by rw [he]⟩
  · skip
    refine z_iconst (v := (-1)) dX9_hour_107 (by decide) ?_
    refine z_goto 118 dX9_hour_108 (by decide) ?_
    refine z_topi (fun w hw0 => ?_)
    have e2 : w = (if 0 ≤ mga I (nI (24 * D + 6 * h + p)) G then I 27 (mga I (nI (24 * D + 6 * h + p)) G).toNatClampNeg else -1) := by
      rw [hw0]
      first | exact (if_pos c_1).symm | exact (if_neg (Int32.not_le.mpr c_1)).symm | exact (if_neg c_1).symm
    subst e2
    refine z_iast dX9_hour_118 (by decide) rfl (zvin (n := 7) (by omega) (by omega)) ?_
    simp only [zt7]
    refine z_hp (h2 := mh (mkn I D h p warm wet (mga I (nI (24 * D + 6 * h + p)) G)) L) rfl ?_
    refine z_aload_n (i := 0) dX9_hour_119 rfl rfl ?_
    refine z_iload_n (i := 2) dX9_hour_120 rfl rfl ?_
    refine z_callV (st := []) (mc2 := 0) (ms2 := 0) zi9_292 zv_yX9_isShut (c9_isShut (mkn I D h p warm wet (mga I (nI (24 * D + 6 * h + p)) G)) L hd p ts (by omega) (mtx_cong ht rfl rfl rfl rfl rfl rfl)) dX9_hour_121 (show (0 : Nat) < 35 by decide) rfl rfl rfl rfl (by decide) (by decide) (Nat.le_of_ble_eq_true rfl) (by decide) (by decide) (fun r h2 hq => ?_)
    obtain ⟨rfl, rfl⟩ := hq
    have hJ := fun a => mshut_ne ts (mkn I D h p warm wet (mga I (nI (24 * D + 6 * h + p)) G)) (nI p) a
    have he : mhour I P G D ts h p warm wet = (if (mshut ts (mkn I D h p warm wet (mga I (nI (24 * D + 6 * h + p)) G)) (nI p)).2 = true then (if mga I (nI (24 * D + 6 * h + p)) G < 0 then zu (mshut ts (mkn I D h p warm wet (mga I (nI (24 * D + 6 * h + p)) G)) (nI p)).1 24 p ((mshut ts (mkn I D h p warm wet (mga I (nI (24 * D + 6 * h + p)) G)) (nI p)).1 24 p + 1) else mmv (mlost (mlost (zu (mshut ts (mkn I D h p warm wet (mga I (nI (24 * D + 6 * h + p)) G)) (nI p)).1 24 p ((mshut ts (mkn I D h p warm wet (mga I (nI (24 * D + 6 * h + p)) G)) (nI p)).1 24 p + 1)) ((mshut ts (mkn I D h p warm wet (mga I (nI (24 * D + 6 * h + p)) G)) (nI p)).1 25 (mga I (nI (24 * D + 6 * h + p)) G).toNatClampNeg).toNatClampNeg) ((mshut ts (mkn I D h p warm wet (mga I (nI (24 * D + 6 * h + p)) G)) (nI p)).1 26 (mga I (nI (24 * D + 6 * h + p)) G).toNatClampNeg).toNatClampNeg) P G D (mga I (nI (24 * D + 6 * h + p)) G).toNatClampNeg) else (if mga I (nI (24 * D + 6 * h + p)) G < 0 then (mshut ts (mkn I D h p warm wet (mga I (nI (24 * D + 6 * h + p)) G)) (nI p)).1 else mplay2 (mplay (mshut ts (mkn I D h p warm wet (mga I (nI (24 * D + 6 * h + p)) G)) (nI p)).1 p (mga I (nI (24 * D + 6 * h + p)) G).toNatClampNeg wet) p (mga I (nI (24 * D + 6 * h + p)) G).toNatClampNeg wet)) := rfl
    generalize mshut ts (mkn I D h p warm wet (mga I (nI (24 * D + 6 * h + p)) G)) (nI p) = x at hJ he ⊢
    obtain ⟨J, sh⟩ := x
    dsimp only at hJ he ⊢
    refine z_if_eq 183 dX9_hour_124 (by decide) (fun c_5 => ?_) (fun c_5 => ?_)
    · skip
      refine z_iload dX9_hour_183 rfl ?_
      refine z_if_lt 282 dX9_hour_185 (by decide) (fun c_6 => ?_) (fun c_6 => ?_)
      · skip
        try simp only [zcl (show p ≤ 100000 by omega)]
        refine z_vret dX9_hour_282 rfl ?_
        subst hQ0
        have hs := (zb_0 sh).mp (by assumption)
        rw [hs, if_neg (by decide), if_pos (show mga I (nI (24 * D + 6 * h + p)) G < 0 by assumption)] at he
        exact ⟨rfl, by rw [he]⟩
      · skip
        obtain ⟨j, hj, ej⟩ := mga_j c_6
        obtain ⟨a, b, ha, hb, e25, e26⟩ := hcl j hj
        obtain ⟨W, hW, e29⟩ := hw j hj
        rw [ej]
        refine z_aload_n (i := 0) dX9_hour_188 rfl rfl ?_
        refine z_gR zf9_125.g dX9_hour_189 (by decide) rfl rfl ?_
        refine z_iload dX9_hour_192 rfl ?_
        refine z_iconst (v := 2) dX9_hour_194 (by decide) ?_
        refine z_iast dX9_hour_195 (by decide) rfl (zvin (by omega) (by omega)) ?_
        simp only [zcl (show j ≤ 100000 by omega)]
        refine z_aload_n (i := 0) dX9_hour_196 rfl rfl ?_
        refine z_gR zf9_98.g dX9_hour_197 (by decide) rfl rfl ?_
        refine z_iload_n (i := 2) dX9_hour_200 rfl rfl ?_
        refine z_dup2 dX9_hour_201 rfl rfl ?_
        refine z_iald dX9_hour_202 (by decide) rfl (zvin (by omega) (by omega)) ?_
        simp only [zcl (show p ≤ 100000 by omega)]
        refine z_iconst (v := 1) dX9_hour_203 (by decide) ?_
        refine z_iadd dX9_hour_204 ?_
        refine z_iast dX9_hour_205 (by decide) rfl (zvin (by omega) (by omega)) ?_
        simp only [zcl (show p ≤ 100000 by omega)]
        refine z_aload_n (i := 0) dX9_hour_206 rfl rfl ?_
        refine z_gR zf9_101.g dX9_hour_207 (by decide) rfl rfl ?_
        refine z_iload_n (i := 2) dX9_hour_210 rfl rfl ?_
        refine z_dup2 dX9_hour_211 rfl rfl ?_
        refine z_iald dX9_hour_212 (by decide) rfl (zvin (by omega) (by omega)) ?_
        simp only [zcl (show p ≤ 100000 by omega)]
        refine z_iconst (v := 1) dX9_hour_213 (by decide) ?_
        refine z_iadd dX9_hour_214 ?_
        refine z_iast dX9_hour_215 (by decide) rfl (zvin (by omega) (by omega)) ?_
        simp only [zcl (show p ≤ 100000 by omega)]
        refine z_aload_n (i := 0) dX9_hour_216 rfl rfl ?_
        refine z_gR zf9_92.g dX9_hour_217 (by decide) rfl rfl ?_
        refine z_iload_n (i := 2) dX9_hour_220 rfl rfl ?_
        refine z_dup2 dX9_hour_221 rfl rfl ?_
        refine z_iald dX9_hour_222 (by decide) rfl (zvin (by omega) (by omega)) ?_
        simp only [zcl (show p ≤ 100000 by omega)]
        refine z_aload_n (i := 0) dX9_hour_223 rfl rfl ?_
        refine z_gR zf9_86.g dX9_hour_224 (by decide) rfl rfl ?_
        refine z_iload_n (i := 2) dX9_hour_227 rfl rfl ?_
        refine z_aload_n (i := 0) dX9_hour_228 rfl rfl ?_
        refine z_gR zf9_83.g dX9_hour_229 (by decide) rfl rfl ?_
        refine z_iload_n (i := 2) dX9_hour_232 rfl rfl ?_
        refine z_iald dX9_hour_233 (by decide) rfl (zvin (by omega) (by omega)) ?_
        simp only [zcl (show p ≤ 100000 by omega)]
        refine z_aload_n (i := 0) dX9_hour_234 rfl rfl ?_
        refine z_gR zf9_113.g dX9_hour_235 (by decide) rfl rfl ?_
        refine z_iload dX9_hour_238 rfl ?_
        refine z_iald dX9_hour_240 (by decide) rfl (zvin (by omega) (by omega)) ?_
        simp only [zcl (show j ≤ 100000 by omega)]
        refine z_iload dX9_hour_241 rfl ?_
        refine z_callS (st := [_, _, _]) (mc2 := 0) (ms2 := 0) zi9_298 zs_yX9_wears (c9_wears _ L 18 p _ _ _ (by decide) rfl (by omega)) dX9_hour_243 rfl rfl (by decide) (by decide) (Nat.le_of_ble_eq_true rfl) (by decide) (by decide) (fun r h2 hq => ?_)
        obtain ⟨rfl, rfl⟩ := hq
        refine z_iadd dX9_hour_246 ?_
        refine z_iast dX9_hour_247 (by decide) rfl (zvin (by omega) (by omega)) ?_
        simp only [zcl (show p ≤ 100000 by omega)]
        refine z_aload_n (i := 0) dX9_hour_248 rfl rfl ?_
        refine z_gR zf9_95.g dX9_hour_249 (by decide) rfl rfl ?_
        refine z_iload_n (i := 2) dX9_hour_252 rfl rfl ?_
        refine z_dup2 dX9_hour_253 rfl rfl ?_
        refine z_iald dX9_hour_254 (by decide) rfl (zvin (by omega) (by omega)) ?_
        simp only [zcl (show p ≤ 100000 by omega)]
        refine z_aload_n (i := 0) dX9_hour_255 rfl rfl ?_
        refine z_gR zf9_89.g dX9_hour_256 (by decide) rfl rfl ?_
        refine z_iload_n (i := 2) dX9_hour_259 rfl rfl ?_
        refine z_iconst (v := 1) dX9_hour_260 (by decide) ?_
        refine z_aload_n (i := 0) dX9_hour_261 rfl rfl ?_
        refine z_gR zf9_83.g dX9_hour_262 (by decide) rfl rfl ?_
        refine z_iload_n (i := 2) dX9_hour_265 rfl rfl ?_
        refine z_iald dX9_hour_266 (by decide) rfl (zvin (by omega) (by omega)) ?_
        simp only [zcl (show p ≤ 100000 by omega)]
        refine z_isub dX9_hour_267 ?_
        refine z_aload_n (i := 0) dX9_hour_268 rfl rfl ?_
        refine z_gR zf9_113.g dX9_hour_269 (by decide) rfl rfl ?_
        refine z_iload dX9_hour_272 rfl ?_
        refine z_iald dX9_hour_274 (by decide) rfl (zvin (by omega) (by omega)) ?_
        simp only [zcl (show j ≤ 100000 by omega)]
        refine z_iload dX9_hour_275 rfl ?_
        refine z_callS (st := [_, _, _]) (mc2 := 0) (ms2 := 0) zi9_298 zs_yX9_wears (c9_wears _ L 19 p _ _ _ (by decide) rfl (by omega)) dX9_hour_277 rfl rfl (by decide) (by decide) (Nat.le_of_ble_eq_true rfl) (by decide) (by decide) (fun r h2 hq => ?_)
        obtain ⟨rfl, rfl⟩ := hq
        refine z_iadd dX9_hour_280 ?_
        refine z_iast dX9_hour_281 (by decide) rfl (zvin (by omega) (by omega)) ?_
        try simp only [zcl (show p ≤ 100000 by omega)]
        refine z_vret dX9_hour_282 rfl ?_
        subst hQ0
        have hs := (zb_0 sh).mp (by assumption)
        rw [hs, if_neg (by decide), if_neg (show ¬ mga I (nI (24 * D + 6 * h + p)) G < 0 by assumption), ej, zcl (show j ≤ 100000 by omega)] at he
        exact ⟨rfl, by rw [he]; rfl⟩
    · skip
      refine z_aload_n (i := 0) dX9_hour_127 rfl rfl ?_
      refine z_gR zf9_104.g dX9_hour_128 (by decide) rfl rfl ?_
      refine z_iload_n (i := 2) dX9_hour_131 rfl rfl ?_
      refine z_dup2 dX9_hour_132 rfl rfl ?_
      refine z_iald dX9_hour_133 (by decide) rfl (zvin (by omega) (by omega)) ?_
      simp only [zcl (show p ≤ 100000 by omega)]
      refine z_iconst (v := 1) dX9_hour_134 (by decide) ?_
      refine z_iadd dX9_hour_135 ?_
      refine z_iast dX9_hour_136 (by decide) rfl (zvin (by omega) (by omega)) ?_
      simp only [zcl (show p ≤ 100000 by omega)]
      refine z_iload dX9_hour_137 rfl ?_
      refine z_if_lt 282 dX9_hour_139 (by decide) (fun c_7 => ?_) (fun c_7 => ?_)
      · skip
        try simp only [zcl (show p ≤ 100000 by omega)]
        refine z_vret dX9_hour_282 rfl ?_
        subst hQ0
        have hs := (zb_n sh).mp (by assumption)
        rw [hs, if_pos rfl, if_pos (show mga I (nI (24 * D + 6 * h + p)) G < 0 by assumption)] at he
        exact ⟨rfl, by rw [he]⟩
      · skip
        obtain ⟨j, hj, ej⟩ := mga_j c_7
        obtain ⟨a, b, ha, hb, e25, e26⟩ := hcl j hj
        obtain ⟨W, hW, e29⟩ := hw j hj
        rw [ej]
        refine z_aload_n (i := 0) dX9_hour_142 rfl rfl ?_
        refine z_gR zf9_134.g dX9_hour_143 (by decide) rfl rfl ?_
        refine z_aload_n (i := 0) dX9_hour_146 rfl rfl ?_
        refine z_gR zf9_107.g dX9_hour_147 (by decide) rfl rfl ?_
        refine z_iload dX9_hour_150 rfl ?_
        refine z_iald dX9_hour_152 (by decide) rfl (zvin (by omega) (by omega)) ?_
        rw [zcl (show j ≤ 100000 by omega), show (zu J 24 p (J 24 p + 1)) 25 j = nI a from (congrFun (hJ 25 (by decide)) j).trans e25]
        refine z_dup2 dX9_hour_153 rfl rfl ?_
        refine z_iald dX9_hour_154 (by decide) rfl (zvin (by omega) (by omega)) ?_
        rw [zcl (show a ≤ 100000 by omega)]
        refine z_iconst (v := 1) dX9_hour_155 (by decide) ?_
        refine z_iadd dX9_hour_156 ?_
        refine z_iast dX9_hour_157 (by decide) rfl (zvin (by omega) (by omega)) ?_
        simp only [zcl (show a ≤ 100000 by omega)]
        refine z_aload_n (i := 0) dX9_hour_158 rfl rfl ?_
        refine z_gR zf9_134.g dX9_hour_159 (by decide) rfl rfl ?_
        refine z_aload_n (i := 0) dX9_hour_162 rfl rfl ?_
        refine z_gR zf9_110.g dX9_hour_163 (by decide) rfl rfl ?_
        refine z_iload dX9_hour_166 rfl ?_
        refine z_iald dX9_hour_168 (by decide) rfl (zvin (by omega) (by omega)) ?_
        rw [zcl (show j ≤ 100000 by omega), show (zu (zu J 24 p (J 24 p + 1)) 34 a (zu J 24 p (J 24 p + 1) 34 a + 1)) 26 j = nI b from (congrFun (hJ 26 (by decide)) j).trans e26]
        refine z_dup2 dX9_hour_169 rfl rfl ?_
        refine z_iald dX9_hour_170 (by decide) rfl (zvin (by omega) (by omega)) ?_
        rw [zcl (show b ≤ 100000 by omega)]
        refine z_iconst (v := 1) dX9_hour_171 (by decide) ?_
        refine z_iadd dX9_hour_172 ?_
        refine z_iast dX9_hour_173 (by decide) rfl (zvin (by omega) (by omega)) ?_
        simp only [zcl (show b ≤ 100000 by omega)]
        refine z_aload_n (i := 0) dX9_hour_174 rfl rfl ?_
        refine z_iload dX9_hour_175 rfl ?_
        refine z_callV (st := []) (mc2 := 0) (ms2 := 0) zi9_295 zv_yX9_movesOn (c9_movesOn (mlost (mlost (zu J 24 p (J 24 p + 1)) a) b) L P G D hP hG hD ((congrFun (hJ 0 (by decide)) 24).trans h24) ((congrFun (hJ 0 (by decide)) 35).trans h35) ((congrFun (hJ 0 (by decide)) 34).trans h34) j W hW hj ((congrFun (hJ 29 (by decide)) j).trans e29)) dX9_hour_177 (show (0 : Nat) < 35 by decide) rfl rfl rfl rfl (by decide) (by decide) (Nat.le_of_ble_eq_true rfl) (by decide) (by decide) (fun r h2 hq => ?_)
        obtain ⟨rfl, rfl⟩ := hq
        try simp only [Option.toList, List.nil_append]
        refine z_goto 282 dX9_hour_180 (by decide) ?_
        try simp only [zcl (show p ≤ 100000 by omega)]
        refine z_vret dX9_hour_282 rfl ?_
        subst hQ0
        have hs := (zb_n sh).mp (by assumption)
        rw [hs, if_pos rfl, if_neg (show ¬ mga I (nI (24 * D + 6 * h + p)) G < 0 by assumption), ej, zcl (show j ≤ 100000 by omega), show J 25 j = nI a from (congrFun (hJ 25 (by decide)) j).trans e25, show J 26 j = nI b from (congrFun (hJ 26 (by decide)) j).trans e26, zcl (show a ≤ 100000 by omega), zcl (show b ≤ 100000 by omega)] at he
        unfold mmv at he
        rw [mWk_of (I := mlost (mlost (zu J 24 p (J 24 p + 1)) a) b) ((congrFun (hJ 29 (by decide)) j).trans e29) hW] at he
        exact ⟨rfl, by rw [he]⟩
