/-! the law: what is known all through, and what holds at a point of its loop -/
section LAWC
variable {p : Program} {e : Env} {R : Room} {s : State} {m : MethodId} {args : Array Value} {c : Code} {mc ms n index maxL : Nat} {own : String} {y : MethodName} {bytes : ByteArray} {ret : Option FieldType} {hh : List (Nat × Nat × Nat × Nat)} {rm : Room}
theorem mkSW (hts : ∀ w ∈ W0, w.before args s = true) (hcw : Cond.codeWith y bytes maxL ret hh ∈ W0) (hini : Cond.initialized y.cls ∈ W0) (hl : Cond.methodLink own index y ∈ W0) (hi : Cond.static y ∈ W0) (hd : y.cls ≠ "java/lang/invoke/MethodHandle" ∧ y.cls ≠ "java/lang/invoke/VarHandle") (hn : (parseMethodDescriptor y.desc).map (fun d => d.parameters.length) = some n) (hm : rm.cells = mc ∧ rm.slots = ms ∧ rm.frames + 1 ≤ R.frames ∧ 8 + (maxL + 11) + rm.locals ≤ R.locals) : vx_CSW R s args own index y bytes maxL ret hh (.codeWith y bytes maxL ret hh :: W0) rm mc ms n :=
  ⟨⟨hm.1, hm.2.1, hm.2.2.1, hm.2.2.2, pay_in hts (gW0 hcw), List.mem_cons_self⟩, hts _ hcw, hts _ hini, hd, fun sig h => by rw [h] at hn; exact (Option.some.inj hn).symm, hts _ hl, hts _ hi⟩
end LAWC
theorem waitsP_wh (cr : Int32) (now wh wh' : Nat → Int32) : waitsP cr now wh = waitsP cr now wh' := by
  unfold waitsP
  split
  · next hz =>
    obtain ⟨z, hz, rfl⟩ := inB_t hz (by decide)
    rw [nIcl (by omega), (laI_eq now wh wh' 3).2 z (by omega)]
  · rfl
section ODC
variable {l : Launch} {y : MethodName} {cc : ByteArray} {nL : Nat} {rm : Room} {D : va_G} {T : TI} {As : List Value} {bs bs' : List va_W}
theorem OD_conv {Q Q' : UInt64 → Prop} (h : OD l y cc nL rm D T As bs Q) (hs : ∀ H, va_P D vwCl (fl bs') H → va_P D vwCl (fl bs) H) (hQ : ∀ r, Q r → Q' r) : OD l y cc nL rm D T As bs' Q' := by
  intro p e h1 h2 h3 s m args below h4 h5 h6 h7
  obtain ⟨n, o, a1, a2, a3, a4⟩ := h p e h1 h2 h3 s m args below h4 h5 ⟨h6.1, hs _ h6.2.1, h6.2.2⟩ h7
  obtain ⟨⟨⟨r, u, hr, hu, hB⟩, hF⟩, hL⟩ := a4
  exact ⟨n, o, a1, a2, a3, ⟨⟨r, u, hr, hQ r hu, hB⟩, hF⟩, hL⟩
end ODC
theorem d_X5_cleanShare (l : Launch) (D : va_G) (T : TI) {xa : Nat} {wb : va_W} {mm past : Nat → Int32} {kp : Nat} {f : Nat → Int32} {n K : Nat} (hI : XINV T xa wb mm past kp f n K) : OD l yX5_cleanShare cX5_cleanShare 1 (rmD 3 0 0) D T [.ref xa] [wb] (fun r => r = shareD (12 - brNM mm 12)) := by
  obtain ⟨qn, c, L, qt, ct, Lt, qh, wk, dr, re, ya, yb, F, gq, cs, Ls, ga, gb, pl, ps, rfl, hS, hH, hn, hps, hC⟩ := hI
  refine OD_conv (c_X5_cleanShare l D T xa qn c L qt qh ya ga) (fun H hP => ?_) (fun r hr => by rw [hr, hS.brN 12 (Nat.le_refl _)])
  rw [fl_one] at hP
  exact flP_sub hP [0, 1] rfl
theorem shareD_nn : ∀ n, n < 13 → Op.cmpValue (FP.dcmp (shareD n) (shareD n)) .l = nI 0 := by decide +kernel
