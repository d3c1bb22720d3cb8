/-! complaints grow by few an hour -/
theorem C_hg {m : Nat → Int32} {h n : Nat} (H : RGm m h n) : ∀ k, k ≤ 12 → ∃ e, e ≤ 2 * k ∧ sumM (hgI m k) 3 12 = sumM m 3 12 + nI e
  | 0, _ => ⟨0, by omega, (Int32.add_zero _).symm⟩
  | k + 1, hk => by
    obtain ⟨e, he, ee⟩ := C_hg H k (by omega)
    have hR := rg_hgI H k (by omega)
    obtain ⟨w, hw, ew⟩ := hR.was (show k < 12 by omega)
    rw [hgI]
    revert ee ew
    generalize hgI m k = a
    intro ee ew
    have ec : sumM (cmM a k (a 3)) 3 12 = sumM a 3 12 := sumM_congr (by omega) (fun s hs => cmM_t (by omega) (by omega)) 12 (Nat.le_refl 12)
    unfold hgS
    try dsimp only
    split
    · rw [sum_un _ (by omega) _ (fun y hy => by omega), sum_u _ (by omega) (by omega), ec, ee, cmM_t (show 12 + 6 * k + 2 ≠ 12 + 6 * k by omega) (by omega), ew, i32_3', nI_add, Int32.add_assoc, nI_add]
      exact ⟨e + (1 + w), by omega, rfl⟩
    · rw [sum_un _ (by omega) _ (fun y hy => by omega), sum_u _ (by omega) (by omega), ec, ee, i32_3', Int32.add_assoc, nI_add]
      exact ⟨e + 0, by omega, rfl⟩
theorem C_hf (o : Int32) (m : Nat → Int32) : ∀ n, n ≤ 12 → sumM (hfI o m n).1 3 12 = sumM m 3 12
  | 0, _ => rfl
  | n + 1, hn => by
    have ih := C_hf o m n (by omega)
    rw [hfI]
    unfold hfS
    split
    · refine Eq.trans ?_ ih
      show sumM (hfA _ _ _) 3 12 = _
      unfold hfA
      try dsimp only
      rw [sum_un _ (by omega) _ (fun y hy => by omega), sum_un _ (by omega) _ (fun y hy => by omega), sum_un _ (by omega) _ (fun y hy => by omega)]
    · exact ih
theorem C_hc (o : Int32) (m : Nat → Int32) : ∀ d, d ≤ 11 → sumM (hcI o m d) 3 12 = sumM m 3 12
  | 0, _ => rfl
  | d + 1, hd => by
    have ih := C_hc o m d (by omega)
    rw [hcI]
    revert ih
    generalize hcI o m d = a
    intro ih
    unfold hcS
    split
    · split
      · refine Eq.trans ?_ ih
        exact sumM_congr (by omega) (fun s hs => (cmM_t (by omega) (by omega)).trans (pk_un (by omega))) 12 (Nat.le_refl 12)
      · exact ih
    · exact ih
theorem C_hour {m : Nat → Int32} {h : Nat} (H : RGm m h 0) (hh : h < 1000000) : ∃ e, e ≤ 24 ∧ sumM (hourF m) 3 12 = sumM m 3 12 + nI e := by
  unfold hourF hourM
  try dsimp only
  obtain ⟨e, he, ee⟩ := C_hg (rg_hcI (rg_hfI H hh (laI m (fun _ => 0) 3).1 12 (by omega)) (laI m (fun _ => 0) 3).1 11 (by omega)) 12 (by omega)
  refine ⟨e, by omega, ?_⟩
  rw [sum_un _ (by omega) _ (fun y hy => by omega), sumM_congr (w := 3) (by omega) (fun s hs => hw_lo _ _ _ (show 12 + 6 * s + 3 < 84 by omega) (by omega) 3) 12 (Nat.le_refl 12), ee, C_hc _ _ 11 (by omega), C_hf _ _ 12 (by omega)]
theorem C_hourN {m : Nat → Int32} {h : Nat} (H : RGm m h 0) : ∀ n, h + n < 1000000 → ∃ e, e ≤ 24 * n ∧ sumM (hourN m n) 3 12 = sumM m 3 12 + nI e
  | 0, _ => ⟨0, by omega, (Int32.add_zero _).symm⟩
  | n + 1, hn => by
    obtain ⟨e, he, ee⟩ := C_hourN H n (by omega)
    obtain ⟨e2, h2, ee2⟩ := C_hour (H.hourN n (by omega)) (by omega)
    refine ⟨e + e2, by omega, ?_⟩
    rw [hourN, ee2, ee, Int32.add_assoc, nI_add]
/-! the row and the saved rows keep their ranges -/
def RG (m : Nat → Int32) (B : Nat) : Prop := ∃ h, h ≤ B ∧ RGm m h 0
theorem RG.le {m : Nat → Int32} {B C : Nat} (H : RG m B) (h : B ≤ C) : RG m C := by
  obtain ⟨x, h1, h2⟩ := H
  exact ⟨x, by omega, h2⟩
theorem RG.congr {m m2 : Nat → Int32} {B : Nat} (H : RG m B) (e : ∀ j, j < 111 → m2 j = m j) : RG m2 B := by
  obtain ⟨x, h1, h2⟩ := H
  exact ⟨x, h1, h2.congr (fun j hj => e j (by omega))⟩
def RGB (mm past : Nat → Int32) (kp B : Nat) : Prop := RG mm B ∧ ∀ i, i < kp → RG (fun j => past (111 * i + j)) B
theorem RGB.le {mm past : Nat → Int32} {kp B C : Nat} (H : RGB mm past kp B) (h : B ≤ C) : RGB mm past kp C := ⟨H.1.le h, fun i hi => (H.2 i hi).le h⟩
theorem RGB.sv {mm past : Nat → Int32} {kp B : Nat} (H : RGB mm past kp B) (h6 : kp ≤ 6) : ∀ i, i < svK kp → RG (fun j => svP mm past kp (111 * i + j)) B := by
  obtain ⟨h1, h3⟩ := H
  intro i hi
  by_cases e : kp = 6
  · subst e
    have hi : i < 6 := hi
    show RG (fun j => va_cpy mm (shP past 555) 0 (111 * 5) 111 (111 * i + j)) B
    by_cases h5 : i < 5
    · refine (h3 (i + 1) (by omega)).congr (fun j hj => ?_)
      show va_cpy mm (shP past 555) 0 (111 * 5) 111 (111 * i + j) = past (111 * (i + 1) + j)
      rw [pk_cpy_out (by omega)]
      unfold shP
      rw [if_pos (by omega)]
      exact congrArg past (by omega)
    · refine h1.congr (fun j hj => ?_)
      show va_cpy mm (shP past 555) 0 (111 * 5) 111 (111 * i + j) = mm j
      rw [pk_cpy_in (by omega) (by omega)]
      exact congrArg mm (by omega)
  · have e1 : svK kp = kp + 1 := if_neg e
    have e2 : svP mm past kp = va_cpy mm past 0 (111 * kp) 111 := if_neg e
    rw [e1] at hi
    rw [e2]
    by_cases h5 : i = kp
    · subst h5
      refine h1.congr (fun j hj => ?_)
      show va_cpy mm past 0 (111 * i) 111 (111 * i + j) = mm j
      rw [pk_cpy_in (by omega) (by omega)]
      exact congrArg mm (by omega)
    · refine (h3 i (by omega)).congr (fun j hj => ?_)
      show va_cpy mm past 0 (111 * kp) 111 (111 * i + j) = past (111 * i + j)
      rw [pk_cpy_out]
      have : 111 * (i + 1) ≤ 111 * kp := Nat.mul_le_mul_left 111 (by omega)
      omega
abbrev RGP (P : R5) (B : Nat) : Prop := RGB P.2.2.1 P.2.2.2.1 P.2.2.2.2 B
theorem rgp_set {mm past : Nat → Int32} {kp B k : Nat} {v : Int32} (H : RGB mm past kp B) (h6 : kp ≤ 6) (hv : ∀ h, okV h 0 k v) : RGP (setR k v mm past kp) B := by
  have hs := H.sv h6
  obtain ⟨⟨h, hB, Hm⟩, -⟩ := H
  exact ⟨⟨h, hB, Hm.upd (hv h)⟩, hs⟩
/-! the law's arguments -/
def lowN (v : Int32) (n : Nat) : Nat := (v &&& nI 2147483647).toNatClampNeg % n
theorem low_m (v : Int32) : ∃ M, M < 2147483648 ∧ v &&& nI 2147483647 = nI M := by
  refine ⟨(v.toBitVec &&& 2147483647#32).toNat, ?_, ?_⟩
  · rw [BitVec.toNat_and]
    exact Nat.lt_of_le_of_lt Nat.and_le_right (by decide)
  · apply Int32.toBitVec_inj.mp
    rw [Int32.toBitVec_and]
    apply BitVec.eq_of_toNat_eq
    show _ = (BitVec.ofNat 32 _).toNat
    rw [BitVec.toNat_ofNat, Nat.mod_eq_of_lt (BitVec.isLt _)]
    rfl
theorem low_eq {v : Int32} {n : Nat} (hn : 0 < n) (h2 : n < 2147483648) : (v &&& nI 2147483647) - (v &&& nI 2147483647) / nI n * nI n = nI (lowN v n) := by
  obtain ⟨M, h1, e⟩ := low_m v
  unfold lowN
  rw [e, nIcl h1, pk_rem (by omega) hn (by omega)]
theorem lowN_lt (v : Int32) {n : Nat} (hn : 0 < n) : lowN v n < n := Nat.mod_lt _ hn
def sndF (P : R5) : R5 := (if P.2.1 = nI 0 then nI 0 else -30, P.2)
def undF (P : R5) : R5 := (if P.2.1 = nI 0 then P.1 else -30, P.2)
/-- what the law does of its array -/
def actF (j : Nat) (a b : Int32) (mm past : Nat → Int32) (kp : Nat) : R5 :=
  if j < 2 then pressureP (nI (lowN a 3)) (nI (20 + lowN b 80)) mm past kp
  else if j < 3 then valveP (nI (lowN a 2)) (decide (lowN b 2 = 0)) mm past kp
  else if j < 6 then dirtP (nI (lowN a 12)) (nI (lowN b (if lowN a 3 = 0 then 1000 else 120))) mm past kp
  else if j < 7 then hydrantP (nI (lowN a 12)) (nI (1 + lowN b 30)) mm past kp
  else if j < 13 then sndF (sendP (nI (lowN a 3)) (nI (lowN b 12)) mm past kp)
  else if j < 14 then skipP (nI (lowN a 3)) mm past kp
  else if j < 15 then setP (nI 0) (nI (lowN b 100)) mm past kp
  else if j < 16 then setP (nI 1) (nI (lowN b 61)) mm past kp
  else if j < 17 then (if lowN a 2 = 0 then setP (nI 2) (nI (1 + lowN b 9)) mm past kp else setP (nI 3) (nI (lowN b 21)) mm past kp)
  else if j < 21 then passP (nI (1 + lowN a 6)) mm past kp
  else undF (undoP mm past kp)
theorem nI_n30 {n : Nat} (h : n < 1000000) : ¬ nI n = -30 := by
  intro e
  have := congrArg Int32.toInt e
  rw [nI_toInt (by omega)] at this
  have h2 : (-30 : Int32).toInt = -30 := by decide
  omega
theorem isN.n30 {x : Int32} {b : Nat} (h : isN x b) (hb : b < 1000000) : ¬ x = -30 := by
  obtain ⟨v, h1, rfl⟩ := h
  exact nI_n30 (by omega)
/-- what an act leaves: small numbers, and no change where it answers -30 -/
def ACT (P : R5) (mm past : Nat → Int32) (kp B : Nat) : Prop := RGP P B ∧ (P.1 = -30 → P.2.2 = (mm, past, kp))
theorem act_set {mm past : Nat → Int32} {kp B k b : Nat} {v : Int32} (H : RGB mm past kp B) (h6 : kp ≤ 6) (hv : ∀ h, okV h 0 k v) (ho : isN (mm k) b) (hb : b < 1000000) : ACT (setR k v mm past kp) mm past kp B :=
  ⟨rgp_set H h6 hv, fun q => absurd q (ho.n30 hb)⟩
theorem skM_same (m : Nat → Int32) (B : Nat) (c : Nat) (H : RG m B) : RG (skM m c) B := by
  obtain ⟨h, h1, h2⟩ := H
  exact ⟨h, h1, h2.congr (fun j hj => skM_lo hj)⟩
theorem act_pressure {mm past : Nat → Int32} {kp B z p : Nat} (H : RGB mm past kp B) (h6 : kp ≤ 6) (hz : z ≤ 2) (hp : p ≤ 99) : ACT (pressureP (nI z) (nI p) mm past kp) mm past kp B := by
  unfold pressureP
  rw [if_pos (inB_n hz (by omega)), if_pos (inB_n hp (by omega)), nIcl (by omega)]
  obtain ⟨h, hB, Hm⟩ := H.1
  exact act_set H h6 (fun h => okV_pres (by omega) ⟨p, hp, rfl⟩) (Hm.pres (by omega)) (by omega)
theorem act_valve {mm past : Nat → Int32} {kp B z : Nat} {b : Bool} (H : RGB mm past kp B) (hS : okS mm) (h6 : kp ≤ 6) (hz : z ≤ 1) : ACT (valveP (nI z) b mm past kp) mm past kp B := by
  unfold valveP
  rw [if_pos (inB_n hz (by omega)), nIcl (by omega)]
  refine act_set H h6 (fun h => okV_no (by omega)) (b := 1) ?_ (by omega)
  obtain ⟨c, L, ⟨-, a2, -⟩, -, -, -, -, g2, -⟩ := hS
  rw [← a2 z (by omega)]
  rcases g2 z (by omega) with e | e
  · exact ⟨0, by omega, e⟩
  · exact ⟨1, by omega, e⟩
theorem act_dirt {mm past : Nat → Int32} {kp B z p : Nat} (H : RGB mm past kp B) (h6 : kp ≤ 6) (hz : z ≤ 11) (hp : p ≤ 999) : ACT (dirtP (nI z) (nI p) mm past kp) mm past kp B := by
  unfold dirtP
  rw [if_pos (inB_n hz (by omega)), if_pos (inB_n hp (by omega)), nIcl (by omega)]
  obtain ⟨h, hB, Hm⟩ := H.1
  exact act_set H h6 (fun h => okV_dirt ⟨p, hp, rfl⟩) (Hm.dirt (by omega)) (by omega)
theorem act_hydrant {mm past : Nat → Int32} {kp B z p : Nat} (H : RGB mm past kp B) (h6 : kp ≤ 6) (hz : z ≤ 11) (h1 : 1 ≤ p) (hp : p ≤ 30) : ACT (hydrantP (nI z) (nI p) mm past kp) mm past kp B := by
  unfold hydrantP
  rw [if_pos (inB_n hz (by omega)), if_pos (inB_1 h1 hp (by omega)), nIcl (by omega)]
  obtain ⟨h, hB, Hm⟩ := H.1
  exact act_set H h6 (fun h => okV_takes ⟨p, hp, rfl⟩) (Hm.takes (by omega)) (by omega)
theorem act_set0 {mm past : Nat → Int32} {kp B k p : Nat} (H : RGB mm past kp B) (h6 : kp ≤ 6) (hk : k ≤ 3) (hf : forB k (nI p) = true) (hp : p ≤ (if k < 2 then 99 else if k = 2 then 9 else 20)) : ACT (setP (nI k) (nI p) mm past kp) mm past kp B := by
  unfold setP
  rw [if_pos (inB_n hk (by omega)), nIcl (by omega), if_pos hf]
  obtain ⟨h, hB, Hm⟩ := H.1
  rcases (show k < 2 ∨ k = 2 ∨ k = 3 by omega) with e | e | e
  · rw [if_pos e] at hp
    exact act_set H h6 (fun h => okV_set0 e ⟨p, hp, rfl⟩) (Hm.set0 e) (by omega)
  · subst e
    exact act_set H h6 (fun h => okV_fac ⟨p, hp, rfl⟩) Hm.fac (by omega)
  · subst e
    exact act_set H h6 (fun h => okV_hourly ⟨p, hp, rfl⟩) Hm.hourly (by omega)
theorem act_send {mm past : Nat → Int32} {kp B z p : Nat} (H : RGB mm past kp B) (h6 : kp ≤ 6) : ACT (sndF (sendP (nI z) (nI p) mm past kp)) mm past kp B := by
  unfold sendP
  have hno : ∀ k, k = 1 ∨ k = 2 → ACT (sndF (noR k mm past kp)) mm past kp B := fun k hk => ⟨H, fun _ => rfl⟩
  split
  · split
    · split
      · exact hno 2 (Or.inr rfl)
      · refine ⟨⟨?_, H.sv h6⟩, fun q => absurd (show nI 0 = -30 from q) (by decide)⟩
        obtain ⟨h, hB, Hm⟩ := H.1
        exact ⟨h, hB, Hm.congr (fun j hj => (pk_un (by omega)).trans (pk_un (by omega)))⟩
    · exact hno 1 (Or.inl rfl)
  · exact hno 1 (Or.inl rfl)
theorem act_skip {mm past : Nat → Int32} {kp B z : Nat} (H : RGB mm past kp B) (hS : okS mm) (h6 : kp ≤ 6) (hz : z ≤ 2) : ACT (skipP (nI z) mm past kp) mm past kp B := by
  unfold skipP
  rw [if_pos (inB_n hz (by omega)), nIcl (by omega)]
  refine ⟨⟨?_, H.sv h6⟩, fun q => ?_⟩
  · show RG (if frM mm z = -1 then mm else skM mm z) B
    split
    · exact H.1
    · exact skM_same mm B z H.1
  · have q : frM mm z = -30 := q
    rcases frM_or hS.okM (show z < 3 by omega) with e | ⟨t, ht, e⟩
    · rw [e] at q; exact absurd q (by decide)
    · rw [e] at q; exact absurd q (nI_n30 (by omega))
theorem act_pass {mm past : Nat → Int32} {kp B z : Nat} (H : RGB mm past kp B) (h6 : kp ≤ 6) (hz1 : 1 ≤ z) (hz : z ≤ 6) (hB : B < 100000) : ACT (passP (nI z) mm past kp) mm past kp (B + 6) := by
  unfold passP
  rw [if_pos (inB_1 hz1 (show z ≤ 48 by omega) (by omega)), nIcl (by omega)]
  obtain ⟨h, hh, Hm⟩ := H.1
  refine ⟨⟨⟨h + z, by omega, Hm.hourN z (by omega)⟩, fun i hi => (H.sv h6 i hi).le (by omega)⟩, fun q => ?_⟩
  obtain ⟨e, he, ee⟩ := C_hourN Hm z (by omega)
  have q : sumM (hourN mm z) 3 12 - sumM mm 3 12 = -30 := q
  rw [ee, Int32.add_comm, Int32.add_sub_cancel] at q
  exact absurd q (nI_n30 (by omega))
theorem act_undo {mm past : Nat → Int32} {kp B : Nat} (H : RGB mm past kp B) (h6 : kp ≤ 6) : ACT (undF (undoP mm past kp)) mm past kp B := by
  unfold undoP
  split
  · exact ⟨H, fun _ => rfl⟩
  · refine ⟨⟨?_, fun i hi => H.2 i (by have : i < kp - 1 := hi; omega)⟩, fun q => absurd (show nI (kp - 1) = -30 from q) (nI_n30 (by omega))⟩
    refine (H.2 (kp - 1) (by omega)).congr (fun j hj => ?_)
    show va_cpy past mm (111 * (kp - 1)) 0 111 j = past (111 * (kp - 1) + j)
    rw [pk_cpy_in (by omega) (by omega)]
    exact congrArg past (by omega)
theorem act_s0 {mm past : Nat → Int32} {kp B p : Nat} (H : RGB mm past kp B) (h6 : kp ≤ 6) (h : p ≤ 99) : ACT (setP (nI 0) (nI p) mm past kp) mm past kp B := act_set0 H h6 (by omega) (inB_n h (by omega)) (by rw [if_pos (by omega)]; exact h)
theorem act_s1 {mm past : Nat → Int32} {kp B p : Nat} (H : RGB mm past kp B) (h6 : kp ≤ 6) (h : p ≤ 60) : ACT (setP (nI 1) (nI p) mm past kp) mm past kp B := act_set0 H h6 (by omega) (inB_n h (by omega)) (by rw [if_pos (by omega)]; omega)
theorem act_s2 {mm past : Nat → Int32} {kp B p : Nat} (H : RGB mm past kp B) (h6 : kp ≤ 6) (h1 : 1 ≤ p) (h : p ≤ 9) : ACT (setP (nI 2) (nI p) mm past kp) mm past kp B := act_set0 H h6 (by omega) (inB_1 h1 h (by omega)) (by rw [if_neg (by omega), if_pos rfl]; exact h)
theorem act_s3 {mm past : Nat → Int32} {kp B p : Nat} (H : RGB mm past kp B) (h6 : kp ≤ 6) (h : p ≤ 20) : ACT (setP (nI 3) (nI p) mm past kp) mm past kp B := act_set0 H h6 (by omega) (inB_n h (by omega)) (by rw [if_neg (by omega), if_neg (by omega)]; exact h)
theorem ACT.le {P : R5} {mm past : Nat → Int32} {kp B C : Nat} (H : ACT P mm past kp B) (h : B ≤ C) : ACT P mm past kp C := ⟨H.1.le h, H.2⟩
theorem act_ok {mm past : Nat → Int32} {kp B : Nat} (H : RGB mm past kp B) (hS : okS mm) (h6 : kp ≤ 6) (hB : B < 100000) (j : Nat) (a b : Int32) : ACT (actF j a b mm past kp) mm past kp (B + 6) := by
  have lo : ∀ (v : Int32) (n : Nat), 0 < n → lowN v n < n := fun v n hn => lowN_lt v hn
  unfold actF
  split
  · exact (act_pressure H h6 (by have := lo a 3 (by omega); omega) (by have := lo b 80 (by omega); omega)).le (by omega)
  split
  · exact (act_valve H hS h6 (by have := lo a 2 (by omega); omega)).le (by omega)
  split
  · refine (act_dirt H h6 (by have := lo a 12 (by omega); omega) ?_).le (by omega)
    split
    · have := lo b 1000 (by omega); omega
    · have := lo b 120 (by omega); omega
  split
  · exact (act_hydrant H h6 (by have := lo a 12 (by omega); omega) (by omega) (by have := lo b 30 (by omega); omega)).le (by omega)
  split
  · exact (act_send H h6).le (by omega)
  split
  · exact (act_skip H hS h6 (by have := lo a 3 (by omega); omega)).le (by omega)
  split
  · exact (act_s0 H h6 (by have := lo b 100 (by omega); omega)).le (by omega)
  split
  · exact (act_s1 H h6 (by have := lo b 61 (by omega); omega)).le (by omega)
  split
  · split
    · exact (act_s2 H h6 (by omega) (by have := lo b 9 (by omega); omega)).le (by omega)
    · exact (act_s3 H h6 (by have := lo b 21 (by omega); omega)).le (by omega)
  split
  · exact act_pass H h6 (by omega) (by have := lo a 6 (by omega); omega) hB
  · exact (act_undo H h6).le (by omega)
