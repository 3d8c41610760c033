set_option maxHeartbeats 4000000 in
theorem c4_putE (n : Nat) (K : Nat → Nat × Nat) (I : Nat → Nat → Int32) (L : Nat → Nat → Int64) (R : Nat → Nat → Option Nat) (r c e p o : Nat) (hU : kRu n K R r c e p o) (v : Int32) (h4 : I r 4 = nI 600) : Zm yX4_put cX4_put 2 none 0 0 0 0 [.ref r, .int v] ((n, K, I, L, R)) (kQ none n K I L R) := by
  refine Zm_of (lg := false) (by decide) (fun _ => by simp [Value.category]) (fun _ => Nat.le_of_ble_eq_true rfl) ?_
  show Zf x4_put 0 0 0 (zargs [.ref r, .int v]) [] ((n, K, I, L, R)) _
  generalize hQ0 : (kQ none n K I L R : Option Value → ZH → Prop) = Q0
  obtain ⟨⟨ha, hca, hea, hpa, hoa⟩, ⟨hkr, hkc, hke, hkp, hko⟩, ⟨hr0, hr1, hr2, hr3⟩, ⟨nep, neo, npo⟩, ⟨nrc, nre, nrp, nro⟩, ⟨nce, ncp, nco⟩⟩ := id hU
  refine z_aload_n (i := 0) dX4_put_0 rfl rfl ?_
  refine z_gI zf4_24.g dX4_put_1 ha hkr ?_
  rw [h4]
  refine z_aload_n (i := 0) dX4_put_4 rfl rfl ?_
  refine z_gR zf4_9.g dX4_put_5 ha hkr hr0 ?_
  refine z_alenI dX4_put_8 hca hkc rfl ?_
  rw [show Int32.ofNat 600 = nI 600 from rfl]
  refine z_icmp_ge 32 dX4_put_9 (by decide) (fun _ => ?_) (fun c_1 => absurd (by rw [zle (by omega) (by omega)]; omega) c_1)
  refine z_vret dX4_put_32 rfl ?_
  subst hQ0
  exact ⟨rfl, rfl⟩
/-! the reader's state: place, fault, codes -/
def kputI (I : Nat → Nat → Int32) (c r k : Nat) (v : Int32) : Nat → Nat → Int32 := if k < 600 then zu (zu I c k v) r 4 (nI (k + 1)) else I
theorem c4_putG (n : Nat) (K : Nat → Nat × Nat) (I : Nat → Nat → Int32) (L : Nat → Nat → Int64) (R : Nat → Nat → Option Nat) (r c e p o : Nat) (hU : kRu n K R r c e p o) (k : Nat) (v : Int32) (hk : k ≤ 600) (h4 : I r 4 = nI k) : Zm yX4_put cX4_put 2 none 0 0 0 0 [.ref r, .int v] (n, K, I, L, R) (kQ none n K (kputI I c r k v) L R) := by
  unfold kputI
  by_cases h : k < 600
  · rw [if_pos h]
    exact c4_put n K I L R r c e p o hU k v h h4
  · rw [if_neg h]
    exact c4_putE n K I L R r c e p o hU v (by rw [h4, show k = 600 by omega])
def kRS (I : Nat → Nat → Int32) (d r c : Nat) (s : RS) : Prop := I d 2 = nI s.1 ∧ I d 3 = s.2.1 ∧ I r 4 = nI (min s.2.2.length 600) ∧ ∀ (j : Nat) (x : Nat × Int32), s.2.2[j]? = some x → j < 600 → I c j = kenc x
/-- what the reader leaves alone -/
def kFr (d r c : Nat) (I J : Nat → Nat → Int32) : Prop := (∀ a, a ≠ c → a ≠ r → a ≠ d → J a = I a) ∧ (∀ j, j ≠ 4 → J r j = I r j) ∧ ∀ j, j ≠ 2 → j ≠ 3 → J d j = I d j
theorem kFr.rf (d r c : Nat) (I : Nat → Nat → Int32) : kFr d r c I I := ⟨fun _ _ _ _ => rfl, fun _ _ => rfl, fun _ _ _ => rfl⟩
theorem kFr.tr {d r c : Nat} {I J M : Nat → Nat → Int32} (h : kFr d r c I J) (h2 : kFr d r c J M) : kFr d r c I M := ⟨fun a x y z => (h2.1 a x y z).trans (h.1 a x y z), fun j x => (h2.2.1 j x).trans (h.2.1 j x), fun j x y => (h2.2.2 j x y).trans (h.2.2 j x y)⟩
theorem kRS_put {I : Nat → Nat → Int32} {d r c : Nat} {s : RS} (h : kRS I d r c s) (hrc : r ≠ c) (hdc : d ≠ c) (hdr : d ≠ r) (o : Nat) (a : Int32) : kRS (kputI I c r (min s.2.2.length 600) (kenc (o, a))) d r c (rPut o a s) ∧ kFr d r c I (kputI I c r (min s.2.2.length 600) (kenc (o, a))) := by
  obtain ⟨h1, h2, h3, h4⟩ := h
  unfold kputI rPut
  have hl : (s.2.2 ++ [(o, a)]).length = s.2.2.length + 1 := by simp
  by_cases hk : min s.2.2.length 600 < 600
  · rw [if_pos hk]
    have hm : min s.2.2.length 600 = s.2.2.length := by omega
    rw [hm]
    refine ⟨⟨?_, ?_, ?_, fun j x hj hj6 => ?_⟩, ⟨fun b x y z => ?_, fun j hj => ?_, fun j x y => ?_⟩⟩
    · rw [zu_ne _ _ _ hdr, zu_ne _ _ _ hdc]; exact h1
    · rw [zu_ne _ _ _ hdr, zu_ne _ _ _ hdc]; exact h2
    · rw [zu_apply, if_pos ⟨rfl, rfl⟩]
      dsimp only
      rw [hl, show min (s.2.2.length + 1) 600 = s.2.2.length + 1 by omega]
    · dsimp only at hj
      rw [zu_ne _ _ _ hrc.symm, zu_apply]
      by_cases e : j < s.2.2.length
      · rw [List.getElem?_append_left e] at hj
        rw [if_neg (by omega)]
        exact h4 j x hj hj6
      · rw [List.getElem?_append_right (by omega)] at hj
        have hz : j - s.2.2.length < 1 := (List.getElem?_eq_some_iff.mp hj).1
        have hj2 : j = s.2.2.length := by omega
        rw [hj2, Nat.sub_self] at hj
        cases hj
        rw [hj2, if_pos ⟨rfl, rfl⟩]
    · rw [zu_ne _ _ _ y, zu_ne _ _ _ x]
    · rw [zu_apply, if_neg (by omega), zu_ne _ _ _ hrc]
    · rw [zu_ne _ _ _ hdr, zu_ne _ _ _ hdc]
  · rw [if_neg hk]
    refine ⟨⟨h1, h2, ?_, fun j x hj hj6 => ?_⟩, kFr.rf d r c I⟩
    · dsimp only
      rw [hl, show min (s.2.2.length + 1) 600 = min s.2.2.length 600 by omega]; exact h3
    · dsimp only at hj
      rw [List.getElem?_append_left (by omega)] at hj
      exact h4 j x hj hj6
theorem kRS_step {I : Nat → Nat → Int32} {d r c : Nat} {s : RS} (h : kRS I d r c s) (hdc : d ≠ c) (hdr : d ≠ r) : kRS (zu I d 2 (nI (s.1 + 1))) d r c (s.1 + 1, s.2) ∧ kFr d r c I (zu I d 2 (nI (s.1 + 1))) := by
  obtain ⟨h1, h2, h3, h4⟩ := h
  refine ⟨⟨?_, ?_, ?_, fun j x hj hj6 => ?_⟩, ⟨fun b x y z => zu_ne _ _ _ z, fun j hj => ?_, fun j x y => ?_⟩⟩
  · rw [zu_apply, if_pos ⟨rfl, rfl⟩]
  · rw [zu_apply, if_neg (by omega)]; exact h2
  · rw [zu_ne _ _ _ hdr.symm]; exact h3
  · rw [zu_ne _ _ _ hdc.symm]; exact h4 j x hj hj6
  · rw [zu_ne _ _ _ hdr.symm]
  · rw [zu_apply, if_neg (by omega)]
theorem kRS_flt {I : Nat → Nat → Int32} {d r c : Nat} {s : RS} (h : kRS I d r c s) (hdc : d ≠ c) (hdr : d ≠ r) (f : Int32) : kRS (zu I d 3 f) d r c (s.1, f, s.2.2) ∧ kFr d r c I (zu I d 3 f) := by
  obtain ⟨h1, h2, h3, h4⟩ := h
  refine ⟨⟨?_, ?_, ?_, fun j x hj hj6 => ?_⟩, ⟨fun b x y z => zu_ne _ _ _ z, fun j hj => ?_, fun j x y => ?_⟩⟩
  · rw [zu_apply, if_neg (by omega)]; exact h1
  · rw [zu_apply, if_pos ⟨rfl, rfl⟩]
  · rw [zu_ne _ _ _ hdr.symm]; exact h3
  · rw [zu_ne _ _ _ hdc.symm]; exact h4 j x hj hj6
  · rw [zu_ne _ _ _ hdr.symm]
  · rw [zu_apply, if_neg (by omega)]
theorem kRS_take {I : Nat → Nat → Int32} {d r c : Nat} {s : RS} {tk tp : Nat → Nat} (h : kRS I d r c s) (hdc : d ≠ c) (hdr : d ≠ r) (q : Nat) : kRS (ktake I d tk tp q s.1 s.2.1) d r c (rTake tk tp q s) ∧ kFr d r c I (ktake I d tk tp q s.1 s.2.1) := by
  unfold ktake rTake pTake
  by_cases e : s.2.1 = 0
  · rw [if_pos e, if_pos e]
    by_cases e2 : tk s.1 = q
    · rw [if_pos e2, if_pos e2]
      have := kRS_step h hdc hdr
      obtain ⟨A, f, out⟩ := s
      dsimp only at e
      subst e
      exact this
    · rw [if_neg e2, if_neg e2]
      exact kRS_flt h hdc hdr _
  · rw [if_neg e, if_neg e]
    exact ⟨h, kFr.rf d r c I⟩
