/-! a text's rounds, as the class gives them -/
abbrev GS : Type := Nat × Int32 × (Nat → Nat → Int32) × (Nat → Nat)
def gvP (w : GS) : CL2 := (vset w.2.2.1 (9 + w.1) (upd (w.2.2.1 (9 + w.1)) (w.2.2.2 w.1) w.2.1), upN w.2.2.2 w.1 (w.2.2.2 w.1 + 1))
def gvS (x : Int32) (w : GS) : GS :=
  if isCr x = true then ((x - nI 97).toNatClampNeg, w.2.1, w.2.2.1, upN w.2.2.2 (x - nI 97).toNatClampNeg 0)
  else if isDg x = true then (w.1, w.2.1 * nI 10 + (x - nI 48), w.2.2.1, w.2.2.2)
  else (w.1, nI 0, (gvP w).1, (gvP w).2)
def gvI (f : Nat → Int32) (c : Nat → Nat → Int32) (L : Nat → Nat) : Nat → GS
  | 0 => (0, nI 0, c, L)
  | i + 1 => gvS (f i) (gvI f c L i)
theorem ltI {x : Int32} {a : Nat} (ha : a < 1000) : x < nI a ↔ x.toInt < a := by rw [Int32.lt_iff_toInt_lt, nI_toInt (by omega)]
theorem leI {x : Int32} {a : Nat} (ha : a < 1000) : nI a ≤ x ↔ (a : Int) ≤ x.toInt := by rw [Int32.le_iff_toInt_le, nI_toInt (by omega)]
theorem gtI {x : Int32} {a : Nat} (ha : a < 1000) : nI a < x ↔ (a : Int) < x.toInt := by rw [Int32.lt_iff_toInt_lt, nI_toInt (by omega)]
theorem ofInt_x {x : Int32} {a b : Nat} (hb : b < 1000) (h1 : (a : Int) ≤ x.toInt) (h2 : x.toInt < b) : ∃ k, k < b - a ∧ x = nI (a + k) := by
  refine ⟨(x.toInt - a).toNat, by omega, ?_⟩
  apply Int32.toInt_inj.mp
  rw [nI_toInt (by omega)]
  omega
theorem isCr_x {x : Int32} (h : isCr x = true) : ∃ k, k < 3 ∧ x = nI (97 + k) := by
  have h2 : ¬ x < nI 97 ∧ ¬ nI 100 ≤ x := by simpa [isCr] using h
  rw [ltI (by omega), leI (by omega)] at h2
  exact ofInt_x (a := 97) (b := 100) (by omega) (by omega) (by omega)
theorem isDg_x {x : Int32} (h : isDg x = true) : ∃ k, k < 10 ∧ x = nI (48 + k) := by
  have h2 : ¬ x < nI 48 ∧ ¬ nI 57 < x := by simpa [isDg] using h
  rw [ltI (by omega), gtI (by omega)] at h2
  exact ofInt_x (a := 48) (b := 58) (by omega) (by omega) (by omega)
theorem nI_sb {a k : Nat} (h : a + k < 1000) : nI (a + k) - nI a = nI k := by
  apply Int32.toInt_inj.mp
  rw [Int32.toInt_sub, nI_toInt (by omega), nI_toInt (by omega), nI_toInt (by omega)]
  rw [Int.bmod_eq_of_le (by omega) (by omega)]
  omega
theorem gvS_cr {k : Nat} (hk : k < 3) (w : GS) : gvS (nI (97 + k)) w = (k, w.2.1, w.2.2.1, upN w.2.2.2 k 0) := by
  have h : isCr (nI (97 + k)) = true := by
    rcases (show k = 0 ∨ k = 1 ∨ k = 2 by omega) with rfl | rfl | rfl <;> decide
  unfold gvS
  rw [if_pos h, nI_sb (by omega), nIcl (by omega)]
theorem dg10 : ∀ k, k < 10 → isCr (nI (48 + k)) = false ∧ isDg (nI (48 + k)) = true := by decide
theorem gvS_dg {k : Nat} (hk : k < 10) (w : GS) : gvS (nI (48 + k)) w = (w.1, w.2.1 * nI 10 + nI k, w.2.2.1, w.2.2.2) := by
  unfold gvS
  rw [if_neg (by rw [(dg10 k hk).1]; decide), if_pos (dg10 k hk).2, nI_sb (by omega)]
theorem gvS_sp {x : Int32} (h : x = nI 59 ∨ x = nI 44) (w : GS) : gvS x w = (w.1, nI 0, (gvP w).1, (gvP w).2) := by
  unfold gvS
  rcases h with rfl | rfl
  · rw [if_neg (by decide), if_neg (by decide)]
  · rw [if_neg (by decide), if_neg (by decide)]
/-- what the place in the text says of what is given -/
abbrev GVR (w : GS) (pl ps : Nat) : Prop := w.1 < 3 ∧ okT w.2.2.1 w.2.2.2 ∧ (pl = 0 → w.2.1 = nI 0) ∧ (pl = 1 → w.2.1 = nI 0 ∧ w.2.2.2 w.1 = ps ∧ ps < 8) ∧ (2 ≤ pl → ∃ v, v < 12 ∧ w.2.1 = nI v ∧ (pl = 2 → v = 1) ∧ w.2.2.2 w.1 + 1 = ps ∧ ps ≤ 8)
theorem okT_put {c : Nat → Nat → Int32} {L : Nat → Nat} (h : okT c L) {k v : Nat} (hk : k < 3) (h8 : L k < 8) (hv : v < 12) : okT (vset c (9 + k) (upd (c (9 + k)) (L k) (nI v))) (upN L k (L k + 1)) := by
  intro y hy
  unfold upN
  by_cases e : y = k
  · subst e
    rw [if_pos rfl]
    refine ⟨by omega, fun j hj => ?_⟩
    have e1 : vset c (9 + y) (upd (c (9 + y)) (L y) (nI v)) (9 + y) = upd (c (9 + y)) (L y) (nI v) := by unfold vset; rw [if_pos rfl]
    rw [e1]
    by_cases q : j = L y
    · subst q; exact ⟨v, hv, pk_us⟩
    · rw [pk_un q]; exact (h y hy).2 j (by omega)
  · rw [if_neg e, vset_ne (by omega)]
    exact h y hy
theorem okT_empty {c : Nat → Nat → Int32} {L : Nat → Nat} (h : okT c L) (k : Nat) : okT c (upN L k 0) := by
  intro y hy
  unfold upN
  by_cases e : y = k
  · rw [if_pos e]; exact ⟨by omega, fun j hj => absurd hj (by omega)⟩
  · rw [if_neg e]; exact h y hy
theorem GVR_sep {w : GS} {pl ps : Nat} (h : GVR w pl ps) (h2 : 2 ≤ pl) {x : Int32} (hx : sepB ps x = true) : GVR (gvS x w) (sepP x) ps := by
  obtain ⟨h1, hT, -, -, h3⟩ := h
  obtain ⟨v, hv, hs, -, hl, h8⟩ := h3 h2
  have hx2 : x = nI 59 ∨ (x = nI 44 ∧ ps < 8) := by simpa [sepB] using hx
  rw [gvS_sp (by rcases hx2 with q | q; exact Or.inl q; exact Or.inr q.1)]
  have hT2 := okT_put hT h1 (show w.2.2.2 w.1 < 8 by omega) hv
  rw [← hs] at hT2
  refine ⟨h1, hT2, fun _ => rfl, fun q => ⟨rfl, ?_, ?_⟩, fun q => ?_⟩
  · show upN w.2.2.2 w.1 (w.2.2.2 w.1 + 1) w.1 = ps
    unfold upN; rw [if_pos rfl]; exact hl
  · rcases hx2 with e | e
    · subst e; exact absurd (show (0 : Nat) = 1 from q) (by omega)
    · exact e.2
  · have : sepP x ≤ 1 := by unfold sepP; split <;> omega
    omega
theorem GVR_s {w : GS} {pl ps : Nat} (h : GVR w pl ps) (hp : pl ≤ 3) {x : Int32} (hx : tkB pl ps x = true) : GVR (gvS x w) (tkP pl x) (tkS pl ps) := by
  rcases (show pl = 0 ∨ pl = 1 ∨ pl = 2 ∨ pl = 3 by omega) with rfl | rfl | rfl | rfl
  · obtain ⟨h1, hT, h0, -, -⟩ := h
    obtain ⟨k, hk, rfl⟩ := isCr_x (show isCr x = true from hx)
    rw [gvS_cr hk, show tkP 0 (nI (97 + k)) = 1 from rfl, show tkS 0 ps = 0 from rfl]
    refine ⟨hk, okT_empty hT k, fun q => absurd q (by decide), fun _ => ⟨h0 rfl, ?_, by decide⟩, fun q => absurd q (by decide)⟩
    show upN w.2.2.2 k 0 k = 0
    unfold upN; rw [if_pos rfl]
  · obtain ⟨h1, hT, -, h3, -⟩ := h
    obtain ⟨hs, hl, h8⟩ := h3 rfl
    obtain ⟨k, hk, rfl⟩ := isDg_x (show isDg x = true from hx)
    rw [gvS_dg hk, hs]
    have ht : tkP 1 (nI (48 + k)) = if k = 1 then 2 else 3 := by
      unfold tkP
      rw [if_neg (by decide), if_pos rfl]
      by_cases e : k = 1
      · subst e; rfl
      · rw [if_neg e, if_neg (fun q => e (by have := (nI_eq (a := 48 + k) (b := 49) (by omega) (by omega)).mp q; omega))]
    rw [ht, show tkS 1 ps = ps + 1 from rfl]
    have hz : nI 0 * nI 10 + nI k = nI k := by rw [show nI 0 * nI 10 = nI 0 from rfl]; exact Int32.zero_add _
    rw [hz]
    refine ⟨h1, hT, fun q => ?_, fun q => ?_, fun _ => ⟨k, by omega, rfl, fun q => ?_, ?_, ?_⟩⟩
    · split at q <;> omega
    · split at q <;> omega
    · split at q <;> omega
    · show w.2.2.2 w.1 + 1 = ps + 1
      omega
    · omega
  · by_cases e1 : x = nI 48 ∨ x = nI 49
    · obtain ⟨h1, hT, -, -, h3⟩ := h
      obtain ⟨v, hv, hs, hv1, hl, h8⟩ := h3 (by decide)
      obtain ⟨k, hk, rfl⟩ : ∃ k, k < 2 ∧ x = nI (48 + k) := by
        rcases e1 with e | e
        · exact ⟨0, by omega, e⟩
        · exact ⟨1, by omega, e⟩
      rw [gvS_dg (by omega), hs, hv1 rfl]
      have ht : tkP 2 (nI (48 + k)) = 3 := by
        rcases (show k = 0 ∨ k = 1 by omega) with rfl | rfl <;> rfl
      rw [ht, show tkS 2 ps = ps from rfl]
      refine ⟨h1, hT, fun q => absurd q (by decide), fun q => absurd q (by decide), fun _ => ⟨10 + k, by omega, ?_, fun q => absurd q (by decide), hl, h8⟩⟩
      rcases (show k = 0 ∨ k = 1 by omega) with rfl | rfl <;> rfl
    · have a1 : ¬ x = nI 48 := fun q => e1 (Or.inl q)
      have a2 : ¬ x = nI 49 := fun q => e1 (Or.inr q)
      have hb : sepB ps x = true := by
        have : tkB 2 ps x = sepB ps x := by
          unfold tkB
          rw [if_neg (by decide), if_neg (by decide), if_pos rfl, if_neg a1, if_neg a2]
        rw [← this]; exact hx
      have ht : tkP 2 x = sepP x := by
        unfold tkP
        rw [if_neg (by decide), if_neg (by decide), if_pos rfl, if_neg a1, if_neg a2]
      rw [ht]
      exact GVR_sep h (by decide) hb
  · exact GVR_sep h (by decide) (show sepB ps x = true from hx)
theorem erT_lt {f : Nat → Int32} {ps : Nat} : ∀ {n : Nat}, erT f ps n = n → ∀ i, i < n → erT f ps i = i ∧ tkB (stT f ps i).1 (stT f ps i).2 (f i) = true
  | 0, _ => fun i hi => absurd hi (by omega)
  | n + 1, h => fun i hi => by
    have hle := erT_le f ps n
    have h2 : erT f ps n = n ∧ tkB (stT f ps n).1 (stT f ps n).2 (f n) = true := by
      rw [erT] at h
      by_cases e : erT f ps n < n
      · rw [if_pos e] at h; omega
      · rw [if_neg e] at h
        refine ⟨by omega, ?_⟩
        by_cases q : tkB (stT f ps n).1 (stT f ps n).2 (f n) = true
        · exact q
        · rw [if_neg q] at h; omega
    by_cases e : i = n
    · subst e; exact h2
    · exact erT_lt h2.1 i (by omega)
theorem gv_inv {f : Nat → Int32} {c : Nat → Nat → Int32} {L : Nat → Nat} (hT : okT c L) {ps n : Nat} (h : erT f ps n = n) : ∀ i, i ≤ n → GVR (gvI f c L i) (stT f ps i).1 (stT f ps i).2
  | 0, _ => ⟨show (0 : Nat) < 3 by omega, hT, fun _ => rfl, fun q => absurd (show (0 : Nat) = 1 from q) (by decide), fun q => absurd (show 2 ≤ (0 : Nat) from q) (by decide)⟩
  | i + 1, hi => GVR_s (gv_inv hT h i (by omega)) (stT_le f ps i) (erT_lt h i (by omega)).2
theorem gv_room {f : Nat → Int32} {c : Nat → Nat → Int32} {L : Nat → Nat} (hT : okT c L) {ps n i : Nat} (h : erT f ps n = n) (hi : i < n) (h1 : isCr (f i) = false) (h2 : isDg (f i) = false) : (gvI f c L i).2.2.2 (gvI f c L i).1 < 8 := by
  have q := (erT_lt h i hi).2
  have g := gv_inv hT h i (by omega)
  have l3 := stT_le f ps i
  have : 2 ≤ (stT f ps i).1 := by
    by_cases e0 : (stT f ps i).1 = 0
    · unfold tkB at q; rw [if_pos e0, h1] at q; exact absurd q (by decide)
    · by_cases e1 : (stT f ps i).1 = 1
      · unfold tkB at q; rw [if_neg e0, if_pos e1, h2] at q; exact absurd q (by decide)
      · omega
  obtain ⟨v, hv, hs, -, hl, h8⟩ := g.2.2.2.2 this
  omega
