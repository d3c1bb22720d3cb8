/-! the reference's reading of a text, part by part -/
def RT (told : Nat → Int32) (c : Nat → Nat → Int32) (L : Nat → Nat) (c1 : Nat → Nat → Int32) (L1 : Nat → Nat) (k : Nat) : Prop := ∃ t, told (9 * k) = nI t ∧ t ≤ 8 ∧ (t = 0 → L1 k = L k ∧ c1 (9 + k) = c (9 + k)) ∧ (0 < t → L1 k = t ∧ ∀ j, j < t → told (9 * k + 1 + j) = c1 (9 + k) j)
def RP (told : Nat → Int32) (w : GS) (k : Nat) : Prop := told (9 * k) = nI (w.2.2.2 k) ∧ ∀ j, j < w.2.2.2 k → told (9 * k + 1 + j) = w.2.2.1 (9 + k) j
def PO (told : Nat → Int32) (c : Nat → Nat → Int32) (L : Nat → Nat) (w : GS) (k : Nat) : Prop := ∀ y, y < 3 → y ≠ k → RT told c L w.2.2.1 w.2.2.2 y
abbrev PI (f : Nat → Int32) (c : Nat → Nat → Int32) (L : Nat → Nat) (ty i : Nat) (told : Nat → Int32) : Prop := i ≤ ty ∧ erT f 0 i = i ∧ (stT f 0 i).1 = 0 ∧ ∀ k, k < 3 → RT told c L (gvI f c L i).2.2.1 (gvI f c L i).2.2.2 k
abbrev PH (f : Nat → Int32) (c : Nat → Nat → Int32) (L : Nat → Nat) (ty i : Nat) (told : Nat → Int32) (k : Nat) : Prop := i + 1 ≤ ty ∧ erT f 0 (i + 1) = i + 1 ∧ (stT f 0 (i + 1)).1 = 1 ∧ (gvI f c L (i + 1)).1 = k ∧ RP told (gvI f c L (i + 1)) k ∧ PO told c L (gvI f c L (i + 1)) k
abbrev PB (f : Nat → Int32) (c : Nat → Nat → Int32) (L : Nat → Nat) (ty X : Nat) (told : Nat → Int32) (k v : Nat) : Prop := X ≤ ty ∧ erT f 0 X = X ∧ 2 ≤ (stT f 0 X).1 ∧ ((stT f 0 X).1 = 2 → X < ty → f X ≠ nI 48 ∧ f X ≠ nI 49) ∧ (gvI f c L X).1 = k ∧ (gvI f c L X).2.1 = nI v ∧ RP told (gvI f c L X) k ∧ PO told c L (gvI f c L X) k
abbrev PE (f : Nat → Int32) (c : Nat → Nat → Int32) (L : Nat → Nat) (ty X : Nat) (told : Nat → Int32) : Prop := X ≤ ty ∧ erT f 0 X = X ∧ 2 ≤ (stT f 0 X).1 ∧ (X < ty → f X ≠ nI 59 → tkB (stT f 0 X).1 (stT f 0 X).2 (f X) = false) ∧ ∀ k, k < 3 → RT told c L (gvP (gvI f c L X)).1 (gvP (gvI f c L X)).2 k
abbrev PF (f : Nat → Int32) (ty X : Nat) : Prop := erT f 0 ty = X ∧ cmB f 0 ty = false
theorem isCr_in (x : Int32) : isCr x = inB x (nI 97) (nI 99) := by
  have e : decide (nI 100 ≤ x) = decide (nI 99 < x) := by
    rw [decide_eq_decide, leI (by omega), gtI (by omega)]; omega
  unfold isCr inB
  rw [e]
theorem PF_x {f : Nat → Int32} {ty X : Nat} (h : X < ty) (he : erT f 0 X = X) (hb : tkB (stT f 0 X).1 (stT f 0 X).2 (f X) = false) : PF f ty X := by
  have e := erT_x he hb ty h
  refine ⟨e, ?_⟩
  unfold cmB
  rw [e, decide_eq_false (show ¬ X = ty by omega)]
  rfl
theorem PF_n {f : Nat → Int32} {ty : Nat} (he : erT f 0 ty = ty) (h2 : (stT f 0 ty).1 < 2) : PF f ty ty := by
  refine ⟨he, ?_⟩
  unfold cmB
  rw [decide_eq_false (show ¬ (stT f 0 ty).1 = 2 by omega), decide_eq_false (show ¬ (stT f 0 ty).1 = 3 by omega)]
  simp
theorem PI_stop {f : Nat → Int32} {c : Nat → Nat → Int32} {L : Nat → Nat} {ty i : Nat} {told : Nat → Int32} (h : PI f c L ty i told) (hb : (decide (i < ty) && inB (f i) (nI 97) (nI 99)) = false) : PF f ty i := by
  obtain ⟨h1, h2, h3, -⟩ := h
  by_cases e : i < ty
  · refine PF_x e h2 ?_
    rw [decide_eq_true e, Bool.true_and, ← isCr_in] at hb
    rw [h3]; exact hb
  · obtain rfl : i = ty := by omega
    exact PF_n h2 (by omega)
theorem RT_fr {told told' : Nat → Int32} {c : Nat → Nat → Int32} {L : Nat → Nat} {c1 c2 : Nat → Nat → Int32} {L1 L2 : Nat → Nat} {y : Nat} (h : RT told c L c1 L1 y) (ht : ∀ j, j < 9 → told' (9 * y + j) = told (9 * y + j)) (hL : L2 y = L1 y) (hc : c2 (9 + y) = c1 (9 + y)) : RT told' c L c2 L2 y := by
  obtain ⟨t, h1, h2, h3, h4⟩ := h
  refine ⟨t, (ht 0 (by omega)).trans h1, h2, fun q => ?_, fun q => ?_⟩
  · rw [hL, hc]; exact h3 q
  · rw [hL, hc]
    refine ⟨(h4 q).1, fun j hj => ?_⟩
    have e := ht (1 + j) (by omega)
    rw [show 9 * y + (1 + j) = 9 * y + 1 + j by omega] at e
    rw [e]; exact (h4 q).2 j hj
theorem PI_cr {f : Nat → Int32} {c : Nat → Nat → Int32} {L : Nat → Nat} {ty i k : Nat} {told : Nat → Int32} (h : PI f c L ty i told) (hi : i < ty) (hk : k < 3) (hf : f i = nI (97 + k)) : PH f c L ty i (upd told (9 * k) (nI 0)) k := by
  obtain ⟨h1, h2, h3, h4⟩ := h
  have hg : gvI f c L (i + 1) = (k, (gvI f c L i).2.1, (gvI f c L i).2.2.1, upN (gvI f c L i).2.2.2 k 0) := by
    show gvS (f i) (gvI f c L i) = _
    rw [hf, gvS_cr hk]
  have hb : tkB (stT f 0 i).1 (stT f 0 i).2 (f i) = true := by
    rw [h3, hf]
    show isCr _ = true
    rcases (show k = 0 ∨ k = 1 ∨ k = 2 by omega) with rfl | rfl | rfl <;> decide
  refine ⟨by omega, erT_s h2 hb, ?_, by rw [hg], ?_, ?_⟩
  · show tkP (stT f 0 i).1 (f i) = 1
    rw [h3]; rfl
  · rw [hg]
    refine ⟨?_, fun j hj => ?_⟩
    · show upd told (9 * k) (nI 0) (9 * k) = nI (upN _ k 0 k)
      rw [pk_us]; unfold upN; rw [if_pos rfl]
    · exact absurd (show j < upN _ k 0 k from hj) (by unfold upN; rw [if_pos rfl]; omega)
  · intro y hy hne
    rw [hg]
    refine RT_fr (h4 y hy) (fun j hj => pk_un (by omega)) ?_ rfl
    show upN _ k 0 y = _
    unfold upN; rw [if_neg hne]
theorem PH_stop {f : Nat → Int32} {c : Nat → Nat → Int32} {L : Nat → Nat} {ty i k : Nat} {told : Nat → Int32} (h : PH f c L ty i told k) (hb : (decide (i + 1 < ty) && inB (f (i + 1)) (nI 48) (nI 57)) = false) : PF f ty (i + 1) := by
  obtain ⟨h1, h2, h3, -⟩ := h
  by_cases e : i + 1 < ty
  · refine PF_x e h2 ?_
    rw [decide_eq_true e, Bool.true_and] at hb
    rw [h3]; exact hb
  · obtain rfl : i + 1 = ty := by omega
    exact PF_n h2 (by omega)
theorem tkP1 {v : Nat} (hv : v < 10) : tkP 1 (nI (48 + v)) = if v = 1 then 2 else 3 := by
  unfold tkP
  rw [if_neg (by decide), if_pos rfl]
  by_cases e : v = 1
  · subst e; rfl
  · rw [if_neg e, if_neg (fun q => e (by have := (nI_eq (a := 48 + v) (b := 49) (by omega) (by omega)).mp q; omega))]
theorem PH_d {f : Nat → Int32} {c : Nat → Nat → Int32} {L : Nat → Nat} (hT : okT c L) {ty i k v : Nat} {told : Nat → Int32} (h : PH f c L ty i told k) (hi : i + 1 < ty) (hv : v < 10) (hf : f (i + 1) = nI (48 + v)) (h1 : v = 1 → i + 2 < ty → f (i + 2) ≠ nI 48 ∧ f (i + 2) ≠ nI 49) : PB f c L ty (i + 2) told k v := by
  obtain ⟨g1, g2, g3, g4, g5, g6⟩ := h
  have hI := (gv_inv hT g2 (i + 1) (Nat.le_refl _)).2.2.2.1 g3
  have hg : gvI f c L (i + 2) = ((gvI f c L (i + 1)).1, nI v, (gvI f c L (i + 1)).2.2.1, (gvI f c L (i + 1)).2.2.2) := by
    show gvS (f (i + 1)) (gvI f c L (i + 1)) = _
    rw [hf, gvS_dg hv, hI.1, show nI 0 * nI 10 = nI 0 from rfl, show nI 0 + nI v = nI v from Int32.zero_add _]
  have hb : tkB (stT f 0 (i + 1)).1 (stT f 0 (i + 1)).2 (f (i + 1)) = true := by
    rw [g3, hf]; exact (dg10 v hv).2
  have hp : (stT f 0 (i + 2)).1 = if v = 1 then 2 else 3 := by
    show tkP (stT f 0 (i + 1)).1 (f (i + 1)) = _
    rw [g3, hf, tkP1 hv]
  refine ⟨by omega, erT_s g2 hb, ?_, ?_, ?_, ?_, ?_, ?_⟩
  · rw [hp]; split <;> omega
  · rw [hp]
    intro q1 q2
    split at q1
    · exact h1 (by assumption) q2
    · omega
  · rw [hg]; exact g4
  · rw [hg]
  · rw [hg]; exact g5
  · rw [hg]; exact g6
theorem PH_dd {f : Nat → Int32} {c : Nat → Nat → Int32} {L : Nat → Nat} (hT : okT c L) {ty i k d : Nat} {told : Nat → Int32} (h : PH f c L ty i told k) (hi : i + 2 < ty) (hd : d < 2) (hf1 : f (i + 1) = nI 49) (hf2 : f (i + 2) = nI (48 + d)) : PB f c L ty (i + 3) told k (10 + d) := by
  obtain ⟨g1, g2, g3, g4, g5, g6⟩ := h
  have hI := (gv_inv hT g2 (i + 1) (Nat.le_refl _)).2.2.2.1 g3
  have hg1 : gvI f c L (i + 2) = ((gvI f c L (i + 1)).1, nI 1, (gvI f c L (i + 1)).2.2.1, (gvI f c L (i + 1)).2.2.2) := by
    show gvS (f (i + 1)) (gvI f c L (i + 1)) = _
    rw [hf1, show nI 49 = nI (48 + 1) from rfl, gvS_dg (by omega), hI.1]
    rfl
  have hg : gvI f c L (i + 3) = ((gvI f c L (i + 1)).1, nI (10 + d), (gvI f c L (i + 1)).2.2.1, (gvI f c L (i + 1)).2.2.2) := by
    show gvS (f (i + 2)) (gvI f c L (i + 2)) = _
    rw [hg1, hf2, gvS_dg (by omega)]
    rcases (show d = 0 ∨ d = 1 by omega) with rfl | rfl <;> rfl
  have hb : tkB (stT f 0 (i + 1)).1 (stT f 0 (i + 1)).2 (f (i + 1)) = true := by
    rw [g3, hf1]; rfl
  have hp1 : (stT f 0 (i + 2)).1 = 2 := by
    show tkP (stT f 0 (i + 1)).1 (f (i + 1)) = _
    rw [g3, hf1]; rfl
  have he1 := erT_s g2 hb
  have hb2 : tkB (stT f 0 (i + 2)).1 (stT f 0 (i + 2)).2 (f (i + 2)) = true := by
    rw [hp1, hf2]
    rcases (show d = 0 ∨ d = 1 by omega) with rfl | rfl <;> rfl
  have hp : (stT f 0 (i + 3)).1 = 3 := by
    show tkP (stT f 0 (i + 2)).1 (f (i + 2)) = _
    rw [hp1, hf2]
    rcases (show d = 0 ∨ d = 1 by omega) with rfl | rfl <;> rfl
  refine ⟨by omega, erT_s he1 hb2, by omega, fun q => by omega, ?_, ?_, ?_, ?_⟩
  · rw [hg]; exact g4
  · rw [hg]
  · rw [hg]; exact g5
  · rw [hg]; exact g6
theorem PB_t {f : Nat → Int32} {c : Nat → Nat → Int32} {L : Nat → Nat} (hT : okT c L) {ty X k v : Nat} {told : Nat → Int32} (h : PB f c L ty X told k v) : ∃ t, t = (gvI f c L X).2.2.2 k ∧ k < 3 ∧ t < 8 ∧ told (9 * k) = nI t ∧ (stT f 0 X).2 = t + 1 := by
  obtain ⟨-, g2, g3, -, g5, g6, g7, -⟩ := h
  have hG := gv_inv hT g2 X (Nat.le_refl _)
  obtain ⟨v2, hv, hs, -, hl, h8⟩ := hG.2.2.2.2 g3
  rw [g5] at hl
  have hk := hG.1
  rw [g5] at hk
  exact ⟨_, rfl, hk, by omega, g7.1, by omega⟩
abbrev tdN (told : Nat → Int32) (k t v : Nat) : Nat → Int32 := upd (upd told (9 * k) (nI (t + 1))) (9 * k + (t + 1)) (nI v)
theorem tdN_0 {told : Nat → Int32} {k t v : Nat} : tdN told k t v (9 * k) = nI (t + 1) := by
  unfold tdN; rw [pk_un (by omega), pk_us]
theorem tdN_t {told : Nat → Int32} {k t v : Nat} : tdN told k t v (9 * k + 1 + t) = nI v := by
  unfold tdN; rw [show 9 * k + 1 + t = 9 * k + (t + 1) by omega, pk_us]
theorem tdN_n {told : Nat → Int32} {k t v x : Nat} (h1 : x ≠ 9 * k) (h2 : x ≠ 9 * k + (t + 1)) : tdN told k t v x = told x := by
  unfold tdN; rw [pk_un h2, pk_un h1]
theorem gvP_L {w : GS} {k : Nat} (h : w.1 = k) : (gvP w).2 k = w.2.2.2 k + 1 := by
  subst h; show upN _ _ _ _ = _; unfold upN; rw [if_pos rfl]
theorem gvP_Ln {w : GS} {k y : Nat} (h : w.1 = k) (hy : y ≠ k) : (gvP w).2 y = w.2.2.2 y := by
  subst h; show upN _ _ _ _ = _; unfold upN; rw [if_neg hy]
theorem gvP_c {w : GS} {k : Nat} (h : w.1 = k) : (gvP w).1 (9 + k) = upd (w.2.2.1 (9 + k)) (w.2.2.2 k) w.2.1 := by
  subst h; show vset _ _ _ _ = _; unfold vset; rw [if_pos rfl]
theorem gvP_cn {w : GS} {k y : Nat} (h : w.1 = k) (hy : y ≠ k) : (gvP w).1 (9 + y) = w.2.2.1 (9 + y) := by
  subst h; exact vset_ne (by omega)
theorem PB_rp {f : Nat → Int32} {c : Nat → Nat → Int32} {L : Nat → Nat} {ty X k v : Nat} {told : Nat → Int32} (h : PB f c L ty X told k v) : ∀ j, j < (gvI f c L X).2.2.2 k + 1 → tdN told k ((gvI f c L X).2.2.2 k) v (9 * k + 1 + j) = (gvP (gvI f c L X)).1 (9 + k) j := by
  obtain ⟨-, -, -, -, g5, g6, g7, -⟩ := h
  intro j hj
  rw [gvP_c g5]
  by_cases e : j = (gvI f c L X).2.2.2 k
  · subst e; rw [tdN_t, pk_us, g6]
  · rw [tdN_n (by omega) (by omega), pk_un e]; exact g7.2 j (by omega)
theorem PB_po {f : Nat → Int32} {c : Nat → Nat → Int32} {L : Nat → Nat} {ty X k v t : Nat} (ht : t < 8) {told : Nat → Int32} (h : PB f c L ty X told k v) : ∀ y, y < 3 → y ≠ k → RT (tdN told k t v) c L (gvP (gvI f c L X)).1 (gvP (gvI f c L X)).2 y := by
  obtain ⟨-, -, -, -, g5, -, -, g8⟩ := h
  intro y hy hne
  exact RT_fr (g8 y hy hne) (fun j hj => tdN_n (by omega) (by omega)) (gvP_Ln g5 hne) (gvP_cn g5 hne)
theorem PB_more {f : Nat → Int32} {c : Nat → Nat → Int32} {L : Nat → Nat} (hT : okT c L) {ty X k v t : Nat} {told : Nat → Int32} (h : PB f c L ty X told k v) (ht : t = (gvI f c L X).2.2.2 k) (h8 : t + 1 < 8) (hX : X < ty) (hf : f X = nI 44) : PH f c L ty X (tdN told k t v) k := by
  obtain ⟨t2, e2, hk, h28, -, hs⟩ := PB_t hT h
  obtain rfl : t = t2 := ht.trans e2.symm
  have hrp := PB_rp h
  have hpo := PB_po (t := t) (by omega) h
  obtain ⟨g1, g2, g3, g4, g5, g6, g7, g8⟩ := h
  have hg : gvI f c L (X + 1) = ((gvI f c L X).1, nI 0, (gvP (gvI f c L X)).1, (gvP (gvI f c L X)).2) := by
    show gvS (f X) (gvI f c L X) = _
    rw [gvS_sp (Or.inr hf)]
  have h3 := stT_le f 0 X
  have hb : tkB (stT f 0 X).1 (stT f 0 X).2 (f X) = true := by
    rw [hs, hf]
    have : sepB (t + 1) (nI 44) = true := by
      unfold sepB; rw [decide_eq_true h8, decide_eq_true (rfl : nI 44 = nI 44)]; simp
    rcases (show (stT f 0 X).1 = 2 ∨ (stT f 0 X).1 = 3 by omega) with e | e
    · rw [e]; exact this
    · rw [e]; exact this
  refine ⟨by omega, erT_s g2 hb, ?_, by rw [hg]; exact g5, ?_, ?_⟩
  · show tkP (stT f 0 X).1 (f X) = 1
    rw [hf]
    rcases (show (stT f 0 X).1 = 2 ∨ (stT f 0 X).1 = 3 by omega) with e | e
    · rw [e]; rfl
    · rw [e]; rfl
  · rw [hg]
    refine ⟨?_, fun j hj => ?_⟩
    · show _ = nI ((gvP _).2 k)
      rw [gvP_L g5, ← ht, tdN_0]
    · have hj2 : j < (gvP (gvI f c L X)).2 k := hj
      rw [gvP_L g5] at hj2
      rw [ht]; exact hrp j hj2
  · intro y hy hne
    rw [hg]; exact hpo y hy hne
theorem PB_end {f : Nat → Int32} {c : Nat → Nat → Int32} {L : Nat → Nat} (hT : okT c L) {ty X k v t : Nat} {told : Nat → Int32} (h : PB f c L ty X told k v) (ht : t = (gvI f c L X).2.2.2 k) (hn : t + 1 < 8 → X < ty → f X = nI 44 → False) : PE f c L ty X (tdN told k t v) := by
  obtain ⟨t2, e2, hk, h28, -, hs⟩ := PB_t hT h
  obtain rfl : t = t2 := ht.trans e2.symm
  have hrp := PB_rp h
  have hpo := PB_po (t := t) (by omega) h
  obtain ⟨g1, g2, g3, g4, g5, g6, g7, g8⟩ := h
  have h3 := stT_le f 0 X
  refine ⟨g1, g2, g3, fun hX h59 => ?_, fun y hy => ?_⟩
  · rw [hs]
    have : sepB (t + 1) (f X) = false := by
      unfold sepB
      rw [decide_eq_false h59, Bool.false_or]
      by_cases e8 : t + 1 < 8
      · rw [decide_eq_false (hn e8 hX)]; rfl
      · rw [decide_eq_false e8]; simp
    rcases (show (stT f 0 X).1 = 2 ∨ (stT f 0 X).1 = 3 by omega) with e | e
    · rw [e]
      obtain ⟨q1, q2⟩ := g4 e hX
      unfold tkB
      rw [if_neg (by decide), if_neg (by decide), if_pos rfl, if_neg q1, if_neg q2]; exact this
    · rw [e]; exact this
  · by_cases e : y = k
    · subst e
      refine ⟨t + 1, tdN_0, by omega, fun q => absurd q (by omega), fun _ => ⟨by rw [gvP_L g5, ht], fun j hj => ?_⟩⟩
      rw [ht]; exact hrp j (by omega)
    · exact hpo y hy e
theorem PE_sep {f : Nat → Int32} {c : Nat → Nat → Int32} {L : Nat → Nat} {ty X : Nat} {told : Nat → Int32} (h : PE f c L ty X told) (hX : X < ty) (hf : f X = nI 59) : PI f c L ty (X + 1) told := by
  obtain ⟨g1, g2, g3, -, g5⟩ := h
  have h3 := stT_le f 0 X
  have hb : tkB (stT f 0 X).1 (stT f 0 X).2 (f X) = true := by
    rw [hf]
    rcases (show (stT f 0 X).1 = 2 ∨ (stT f 0 X).1 = 3 by omega) with e | e
    · rw [e]; rfl
    · rw [e]; rfl
  have hg : gvI f c L (X + 1) = ((gvI f c L X).1, nI 0, (gvP (gvI f c L X)).1, (gvP (gvI f c L X)).2) := by
    show gvS (f X) (gvI f c L X) = _
    rw [gvS_sp (Or.inl hf)]
  refine ⟨by omega, erT_s g2 hb, ?_, fun k hk => by rw [hg]; exact g5 k hk⟩
  show tkP (stT f 0 X).1 (f X) = 0
  rw [hf]
  rcases (show (stT f 0 X).1 = 2 ∨ (stT f 0 X).1 = 3 by omega) with e | e
  · rw [e]; rfl
  · rw [e]; rfl
theorem PE_no {f : Nat → Int32} {c : Nat → Nat → Int32} {L : Nat → Nat} {ty X : Nat} {told : Nat → Int32} (h : PE f c L ty X told) (hX : X < ty) (hf : f X ≠ nI 59) : PF f ty X := PF_x hX h.2.1 (h.2.2.2.1 hX hf)
theorem PE_yes {f : Nat → Int32} {c : Nat → Nat → Int32} {L : Nat → Nat} {ty : Nat} {told : Nat → Int32} (h : PE f c L ty ty told) : erT f 0 ty = ty ∧ cmB f 0 ty = true := by
  refine ⟨h.2.1, ?_⟩
  have h3 := stT_le f 0 ty
  have := h.2.2.1
  unfold cmB
  rw [decide_eq_true h.2.1, Bool.true_and]
  rcases (show (stT f 0 ty).1 = 2 ∨ (stT f 0 ty).1 = 3 by omega) with e | e
  · rw [e]; rfl
  · rw [e]; rfl
theorem cmB_ps (f : Nat → Int32) (a b : Nat) : ∀ n, cmB f a n = cmB f b n
  | 0 => rfl
  | n + 1 => by unfold cmB; rw [erT_ps f a b, stT_ps f a b]
abbrev PQ (f : Nat → Int32) (c : Nat → Nat → Int32) (L : Nat → Nat) (ty : Nat) (b : Bool) (X : Nat) (isF isF2 : Bool) (told : Nat → Int32) : Prop := X ≤ ty ∧ (b = true → isF2 = isF ∧ PE f c L ty X told) ∧ (b = false → isF2 = decide (X < ty) ∧ PF f ty X)
