/-! the class's world as one block; its invariant. Here no number is bounded in it: CMB holds always -/
def CMB (mm past : Nat → Int32) (kp K : Nat) : Prop := True
theorem CMB.le {mm past : Nat → Int32} {kp K K2 : Nat} (h : CMB mm past kp K) (hk : K ≤ K2) : CMB mm past kp K2 := trivial
/-- an answer that changes nothing where it throws -/
def R5ok (P : R5) (mm past : Nat → Int32) (kp K : Nat) : Prop := CMB P.2.2.1 P.2.2.2.1 P.2.2.2.2 K ∧ (P.2.1 = nI 0 ∨ P.2.2 = (mm, past, kp))
theorem pressureP_ok {mm past : Nat → Int32} {kp K : Nat} (h : CMB mm past kp K) (h6 : kp ≤ 6) (zn p : Int32) : R5ok (pressureP zn p mm past kp) mm past kp (K + 96) := by
  unfold pressureP
  refine ⟨trivial, ?_⟩
  split
  · split
    · exact Or.inl rfl
    · exact Or.inr rfl
  · exact Or.inr rfl
theorem valveP_ok {mm past : Nat → Int32} {kp K : Nat} (h : CMB mm past kp K) (h6 : kp ≤ 6) (zn : Int32) (ob : Bool) : R5ok (valveP zn ob mm past kp) mm past kp (K + 96) := by
  unfold valveP
  refine ⟨trivial, ?_⟩
  split
  · exact Or.inl rfl
  · exact Or.inr rfl
theorem dirtP_ok {mm past : Nat → Int32} {kp K : Nat} (h : CMB mm past kp K) (h6 : kp ≤ 6) (zn p : Int32) : R5ok (dirtP zn p mm past kp) mm past kp (K + 96) := by
  unfold dirtP
  refine ⟨trivial, ?_⟩
  split
  · split
    · exact Or.inl rfl
    · exact Or.inr rfl
  · exact Or.inr rfl
theorem hydrantP_ok {mm past : Nat → Int32} {kp K : Nat} (h : CMB mm past kp K) (h6 : kp ≤ 6) (zn p : Int32) : R5ok (hydrantP zn p mm past kp) mm past kp (K + 96) := by
  unfold hydrantP
  refine ⟨trivial, ?_⟩
  split
  · split
    · exact Or.inl rfl
    · exact Or.inr rfl
  · exact Or.inr rfl
theorem setP_ok {mm past : Nat → Int32} {kp K : Nat} (h : CMB mm past kp K) (h6 : kp ≤ 6) (zn p : Int32) : R5ok (setP zn p mm past kp) mm past kp (K + 96) := by
  unfold setP
  refine ⟨trivial, ?_⟩
  split
  · split
    · exact Or.inl rfl
    · exact Or.inr rfl
  · exact Or.inr rfl
theorem sendP_ok {mm past : Nat → Int32} {kp K : Nat} (h : CMB mm past kp K) (h6 : kp ≤ 6) (cr st : Int32) : R5ok (sendP cr st mm past kp) mm past kp (K + 96) := by
  unfold sendP
  refine ⟨trivial, ?_⟩
  split
  · split
    · split
      · exact Or.inr rfl
      · exact Or.inl rfl
    · exact Or.inr rfl
  · exact Or.inr rfl
theorem skipP_ok {mm past : Nat → Int32} {kp K : Nat} (h : CMB mm past kp K) (h6 : kp ≤ 6) (cr : Int32) : R5ok (skipP cr mm past kp) mm past kp (K + 96) := by
  unfold skipP
  refine ⟨trivial, ?_⟩
  split
  · exact Or.inl rfl
  · exact Or.inr rfl
theorem passP_ok {mm past : Nat → Int32} {kp K : Nat} (h : CMB mm past kp K) (h6 : kp ≤ 6) (hS : okS mm) (hK : K < 1000000) (x : Int32) : R5ok (passP x mm past kp) mm past kp (K + 96) := by
  unfold passP
  refine ⟨trivial, ?_⟩
  split
  · exact Or.inl rfl
  · exact Or.inr rfl
theorem undoP_ok {mm past : Nat → Int32} {kp K : Nat} (h : CMB mm past kp K) : R5ok (undoP mm past kp) mm past kp (K + 96) := by
  unfold undoP
  refine ⟨trivial, ?_⟩
  split
  · exact Or.inr rfl
  · exact Or.inl rfl
def r2 (S : Int32 × Int32) (mm past : Nat → Int32) (kp : Nat) : R5 := (S.1, S.2, mm, past, kp)
theorem fl_one (w : va_W) : fl [w] = w := by simp [fl]
def XW (T : TI) (xa : Nat) (qn : Nat → Nat) (c : Nat → Nat → Int32) (L : Nat → Nat) (qt : Nat → Nat) (ct : Nat → Nat → Int32) (Lt : Nat → Nat) (qh : Nat → Nat) (wk : Nat → Int32) (dr : Nat → Int32) (re : Nat → Int32) (ya : Nat) (yb : Nat) (F : Nat → Option Nat) (gq : Nat → Nat → Nat) (cs : Nat → Nat → Nat → Int32) (Ls : Nat → Nat → Nat) (kp : Nat) (ga : Nat) (gb : Nat) (f : Nat → Int32) (n : Nat) (pl : Nat) (ps : Nat) : va_W := fl [xW xa (qn 0) (qt 0) (qh 0) ya ga, sW T qn c, tW T (qn 11) (qn 12) (nI (L 0)) (c 9), tW T (qn 13) (qn 14) (nI (L 1)) (c 10), tW T (qn 15) (qn 16) (nI (L 2)) (c 11), sW T qt ct, tW T (qt 11) (qt 12) (nI (Lt 0)) (ct 9), tW T (qt 13) (qt 14) (nI (Lt 1)) (ct 10), tW T (qt 15) (qt 16) (nI (Lt 2)) (ct 11), hO qh, aW T 0 (qh 1) 12 wk, aW T 0 (qh 2) 3 dr, aW T 0 (qh 3) 3 re, yW T ya yb F (nI kp), sW T (gq 0) (cs 0), tW T ((gq 0) 11) ((gq 0) 12) (nI ((Ls 0) 0)) ((cs 0) 9), tW T ((gq 0) 13) ((gq 0) 14) (nI ((Ls 0) 1)) ((cs 0) 10), tW T ((gq 0) 15) ((gq 0) 16) (nI ((Ls 0) 2)) ((cs 0) 11), sW T (gq 1) (cs 1), tW T ((gq 1) 11) ((gq 1) 12) (nI ((Ls 1) 0)) ((cs 1) 9), tW T ((gq 1) 13) ((gq 1) 14) (nI ((Ls 1) 1)) ((cs 1) 10), tW T ((gq 1) 15) ((gq 1) 16) (nI ((Ls 1) 2)) ((cs 1) 11), sW T (gq 2) (cs 2), tW T ((gq 2) 11) ((gq 2) 12) (nI ((Ls 2) 0)) ((cs 2) 9), tW T ((gq 2) 13) ((gq 2) 14) (nI ((Ls 2) 1)) ((cs 2) 10), tW T ((gq 2) 15) ((gq 2) 16) (nI ((Ls 2) 2)) ((cs 2) 11), sW T (gq 3) (cs 3), tW T ((gq 3) 11) ((gq 3) 12) (nI ((Ls 3) 0)) ((cs 3) 9), tW T ((gq 3) 13) ((gq 3) 14) (nI ((Ls 3) 1)) ((cs 3) 10), tW T ((gq 3) 15) ((gq 3) 16) (nI ((Ls 3) 2)) ((cs 3) 11), sW T (gq 4) (cs 4), tW T ((gq 4) 11) ((gq 4) 12) (nI ((Ls 4) 0)) ((cs 4) 9), tW T ((gq 4) 13) ((gq 4) 14) (nI ((Ls 4) 1)) ((cs 4) 10), tW T ((gq 4) 15) ((gq 4) 16) (nI ((Ls 4) 2)) ((cs 4) 11), sW T (gq 5) (cs 5), tW T ((gq 5) 11) ((gq 5) 12) (nI ((Ls 5) 0)) ((cs 5) 9), tW T ((gq 5) 13) ((gq 5) 14) (nI ((Ls 5) 1)) ((cs 5) 10), tW T ((gq 5) 15) ((gq 5) 16) (nI ((Ls 5) 2)) ((cs 5) 11), gW T ga gb f (nI n) (nI pl) (nI ps)]
def XINV (T : TI) (xa : Nat) (w : va_W) (mm past : Nat → Int32) (kp : Nat) (f : Nat → Int32) (n K : Nat) : Prop := ∃ (qn : Nat → Nat) (c : Nat → Nat → Int32) (L : Nat → Nat) (qt : Nat → Nat) (ct : Nat → Nat → Int32) (Lt : Nat → Nat) (qh : Nat → Nat) (wk dr re : Nat → Int32) (ya yb : Nat) (F : Nat → Option Nat) (gq : Nat → Nat → Nat) (cs : Nat → Nat → Nat → Int32) (Ls : Nat → Nat → Nat) (ga gb pl ps : Nat), w = XW T xa qn c L qt ct Lt qh wk dr re ya yb F gq cs Ls kp ga gb f n pl ps ∧ Sim c L mm ∧ HREP F gq cs Ls kp past ∧ n ≤ 60 ∧ ps ≤ 61 ∧ CMB mm past kp K
theorem XINV.okS {T : TI} {xa : Nat} {w : va_W} {mm past : Nat → Int32} {kp : Nat} {f : Nat → Int32} {n K : Nat} (h : XINV T xa w mm past kp f n K) : okS mm ∧ kp ≤ 6 ∧ n ≤ 60 := by
  obtain ⟨_, c, L, _, _, _, _, _, _, _, _, _, _, _, _, _, _, _, _, _, -, hS, hH, hn, -⟩ := h
  exact ⟨⟨c, L, hS⟩, hH.1, hn⟩
theorem XINV.recv {T : TI} {xa : Nat} {w : va_W} {mm past : Nat → Int32} {kp : Nat} {f : Nat → Int32} {n K : Nat} (h : XINV T xa w mm past kp f n K) : ∃ fs, (fl [w])[0]? = some (xa, .inr (5, fs)) := by
  obtain ⟨_, c, L, _, _, _, _, _, _, _, _, _, _, _, _, _, _, _, _, _, rfl, -⟩ := h
  rw [fl_one]
  exact ⟨_, rfl⟩
section CONV
variable {l : Launch} {y : MethodName} {cc : ByteArray} {nL : Nat} {rt : FieldType} {rm : Room} {D : va_G} {T : TI} {As : List Value} {bs bs' : List va_W} {mc ms : Nat} {β β' βX βX' : Type} {WS : β → List va_W} {WS' : β' → List va_W} {WX : βX → List va_W} {WX' : βX' → List va_W}
theorem MF_mono {S : Spec} {P : Array Value → State → Prop} {K : Program → Env → List Frame → State → Array Value → Prop} {Q Q' : Array Value → State → Outcome → State → Prop} (h : MetFree l y S P K Q) (hQ : ∀ a s o t, Q a s o t → Q' a s o t) : MetFree l y S P K Q' := by
  intro p e h1 h2 h3 s m args below h4 h5 h6 h7
  obtain ⟨n, o, a1, a2, a3, a4⟩ := h p e h1 h2 h3 s m args below h4 h5 h6 h7
  exact ⟨n, o, a1, a2, a3, hQ _ _ _ _ a4⟩
theorem XI_conv {Q : Int32 → β → Prop} {QX : String → βX → Prop} {Q' : Int32 → β' → Prop} {QX' : String → βX' → Prop} (h : XI l y cc nL rt rm D T As bs mc ms WS Q WX QX) (e : fl bs' = fl bs) (hQ : ∀ r u, Q r u → ∃ u', fl (WS' u') = fl (WS u) ∧ Q' r u') (hX : ∀ E u, QX E u → ∃ u', fl (WX' u') = fl (WX u) ∧ QX' E u') : XI l y cc nL rt rm D T As bs' mc ms WS' Q' WX' QX' := by
  intro sz
  have h1 := h sz
  unfold PREX PRE at h1 ⊢
  rw [e]
  refine MF_mono h1 (fun a s o t hq => ?_)
  rcases hq with ⟨⟨⟨r, u, hr, hu, hB⟩, hF⟩, hL⟩ | ⟨q, ho, E, ce, L, ⟨u, hp, ⟨hqx, hb1, hb2⟩, hF⟩, h3⟩
  · obtain ⟨u', e2, h2⟩ := hQ r u hu
    exact Or.inl ⟨⟨⟨r, u', hr, h2, by rw [e2]; exact hB.1, by rw [e2]; exact hB.2⟩, hF⟩, hL⟩
  · obtain ⟨u', e2, h2⟩ := hX E u hqx
    exact Or.inr ⟨q, ho, E, ce, L, ⟨u', trivial, ⟨h2, by rw [e2]; exact hb1, by rw [e2]; exact hb2⟩, hF⟩, h3⟩
theorem CI_conv {Q : Int32 → β → Prop} {Q' : Int32 → β' → Prop} (h : CI l y cc nL rt rm D T As bs mc ms WS Q) (e : fl bs' = fl bs) (hQ : ∀ r u, Q r u → ∃ u', fl (WS' u') = fl (WS u) ∧ Q' r u') : CI l y cc nL rt rm D T As bs' mc ms WS' Q' := by
  intro sz
  have h1 := h sz
  unfold PRE at h1 ⊢
  rw [e]
  refine MF_mono h1 (fun a s o t hq => ?_)
  obtain ⟨⟨⟨r, u, hr, hu, hB⟩, hF⟩, hL⟩ := hq
  obtain ⟨u', e2, h2⟩ := hQ r u hu
  exact ⟨⟨⟨r, u', hr, h2, by rw [e2]; exact hB.1, by rw [e2]; exact hB.2⟩, hF⟩, hL⟩
theorem CL_conv {Q : Int64 → β → Prop} {Q' : Int64 → β' → Prop} (h : CL l y cc nL rm D T As bs mc ms WS Q) (e : fl bs' = fl bs) (hQ : ∀ r u, Q r u → ∃ u', fl (WS' u') = fl (WS u) ∧ Q' r u') : CL l y cc nL rm D T As bs' mc ms WS' Q' := by
  intro sz
  have h1 := h sz
  unfold PRE at h1 ⊢
  rw [e]
  refine MF_mono h1 (fun a s o t hq => ?_)
  obtain ⟨⟨⟨r, u, hr, hu, hB⟩, hF⟩, hL⟩ := hq
  obtain ⟨u', e2, h2⟩ := hQ r u hu
  exact ⟨⟨⟨r, u', hr, h2, by rw [e2]; exact hB.1, by rw [e2]; exact hB.2⟩, hF⟩, hL⟩
end CONV
/-- what a method of the class leaves: the answer, the world -/
abbrev QN (T : TI) (xa K : Nat) (P : R5) (f : Nat → Int32) (n : Nat) : Int32 → va_W → Prop := fun r w => r = P.1 ∧ P.2.1 = nI 0 ∧ XINV T xa w P.2.2.1 P.2.2.2.1 P.2.2.2.2 f n (K + 96)
abbrev QX2 (T : TI) (xa K : Nat) (P : R5) (f : Nat → Int32) (n : Nat) (E1 E2 : String) : String → va_W → Prop := fun E w => ((E = E1 ∧ P.2.1 = nI 1) ∨ (E = E2 ∧ P.2.1 = nI 2)) ∧ XINV T xa w P.2.2.1 P.2.2.2.1 P.2.2.2.2 f n (K + 96)
abbrev QX1 (T : TI) (xa K : Nat) (P : R5) (f : Nat → Int32) (n : Nat) (E1 : String) : String → va_W → Prop := fun E w => (E = E1 ∧ P.2.1 = nI 1) ∧ XINV T xa w P.2.2.1 P.2.2.2.1 P.2.2.2.2 f n (K + 96)
