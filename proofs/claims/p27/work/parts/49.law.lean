/-! the law: what is known all through, and what holds at a point of its loop -/
section LAWC
variable {p : Program} {e : Env} {R : Room} {s : State} {m : MethodId} {args : Array Value} {c : Code} {mc ms n index maxL : Nat} {own : String} {y : MethodName} {bytes : ByteArray} {ret : Option FieldType} {hh : List (Nat × Nat × Nat × Nat)} {rm : Room}
theorem mkSW (hts : ∀ w ∈ W0, w.before args s = true) (hcw : Cond.codeWith y bytes maxL ret hh ∈ W0) (hini : Cond.initialized y.cls ∈ W0) (hl : Cond.methodLink own index y ∈ W0) (hi : Cond.static y ∈ W0) (hd : y.cls ≠ "java/lang/invoke/MethodHandle" ∧ y.cls ≠ "java/lang/invoke/VarHandle") (hn : (parseMethodDescriptor y.desc).map (fun d => d.parameters.length) = some n) (hm : rm.cells = mc ∧ rm.slots = ms ∧ rm.frames + 1 ≤ R.frames ∧ 8 + (maxL + 11) + rm.locals ≤ R.locals) : vx_CSW R s args own index y bytes maxL ret hh (.codeWith y bytes maxL ret hh :: W0) rm mc ms n :=
  ⟨⟨hm.1, hm.2.1, hm.2.2.1, hm.2.2.2, pay_in hts (gW0 hcw), List.mem_cons_self⟩, hts _ hcw, hts _ hini, hd, fun sig h => by rw [h] at hn; exact (Option.some.inj hn).symm, hts _ hl, hts _ hi⟩
end LAWC
def LCX (p : Program) (l : Launch) (s : State) (m : MethodId) (c : Code) (D : va_G) (T : TI) (A : Nat → Prop) (b L : Nat) (xs : Nat → Int32) : Prop :=
  p.tables.exec = Jvm.exec ∧ c.code = cL_law ∧ c.maxLocals = 9 ∧ s.vm.findClass RL = some m.cls ∧ (∀ w ∈ W0, w.before #[Value.ref b] s = true) ∧ va_X b L xs s s.heap ∧ b < s.heap.size ∧ ¬ A b ∧ KN D T s ∧ STA A s s.heap ∧ (∀ z, s.heap.size ≤ z → A z) ∧ l.stackTraces = false ∧ L ≤ 1536
def LWP (p : Program) (l : Launch) (e : Env) (s : State) (m : MethodId) (below : List Frame) (meth : Method) (c : Code) (D : va_G) (T : TI) (A : Nat → Prop) (b xa o : Nat) (q : Nat → Nat) (TG : State → Prop) (K ce se kL pc : Nat) : Prop :=
  ∀ (w : va_W) (g : Nat → Int64) (th : Int32) (at_ : Nat) (isF : Bool) (op : Int32) (thn told wh mm past f : Nat → Int32) (kp n : Nat), XINV T xa w mm past kp f n K → ∀ (H : Heap) (locs : List Loc), va_P D vwCl (fl [oW T o g, mO q (nI kp) (nI n) th (nI at_) isF op, aW T 0 (q 1) 111 mm, aW T 0 (q 2) 111 thn, aW T 0 (q 3) 666 past, aW T 0 (q 4) 60 f, aW T 0 (q 5) 27 told, aW T 0 (q 6) 3 wh, w]) H → va_D A (fl [oW T o g, mO q (nI kp) (nI n) th (nI at_) isF op, aW T 0 (q 1) 111 mm, aW T 0 (q 2) 111 thn, aW T 0 (q 3) 666 past, aW T 0 (q 4) 60 f, aW T 0 (q 5) 27 told, aW T 0 (q 6) 3 wh, w]) → va_S A s.heap H locs → ∀ ls : Array Slot, lv_has ls 9 [(0, .ref b), (1, .ref xa), (2, .ref (q 0)), (3, .ref o), (4, .int (nI (3 * kL)))] → W p l e room_1 s m #[Value.ref b] below meth c H locs ce se TG (F0 m pc ls [])
theorem lgc_self (x : Int64) : lg_cmp x x = nI 0 := by
  unfold lg_cmp
  simp
  rfl
theorem waitsP_wh (cr : Int32) (now wh wh' : Nat → Int32) : waitsP cr now wh = waitsP cr now wh' := by
  unfold waitsP
  split
  · next hz =>
    obtain ⟨z, hz, rfl⟩ := inB_t hz (by decide)
    rw [nIcl (by omega), (laI_eq now wh wh' 3).2 z (by omega)]
  · rfl
theorem ifPassedP_m {now : Nat → Int32} (hS : okS now) (thn : Nat → Int32) (h w : Int32) : ifPassedP h w (va_cpy now thn 0 0 111) now = ifPassedP h w now now := by
  unfold ifPassedP
  rw [(okS_self hS (e111_cpy now thn)).by_]
section ODC
variable {l : Launch} {y : MethodName} {cc : ByteArray} {nL : Nat} {rm : Room} {D : va_G} {T : TI} {As : List Value} {bs bs' : List va_W}
theorem OD_conv {Q Q' : UInt64 → Prop} (h : OD l y cc nL rm D T As bs Q) (hs : ∀ H, va_P D vwCl (fl bs') H → va_P D vwCl (fl bs) H) (hQ : ∀ r, Q r → Q' r) : OD l y cc nL rm D T As bs' Q' := by
  intro p e h1 h2 h3 s m args below h4 h5 h6 h7
  obtain ⟨n, o, a1, a2, a3, a4⟩ := h p e h1 h2 h3 s m args below h4 h5 ⟨h6.1, hs _ h6.2.1, h6.2.2⟩ h7
  obtain ⟨⟨⟨r, u, hr, hu, hB⟩, hF⟩, hL⟩ := a4
  exact ⟨n, o, a1, a2, a3, ⟨⟨r, u, hr, hQ r hu, hB⟩, hF⟩, hL⟩
end ODC
theorem d_X5_cleanShare (l : Launch) (D : va_G) (T : TI) {xa : Nat} {wb : va_W} {mm past : Nat → Int32} {kp : Nat} {f : Nat → Int32} {n K : Nat} (hI : XINV T xa wb mm past kp f n K) : OD l yX5_cleanShare cX5_cleanShare 1 (rmD 3 0 0) D T [.ref xa] [wb] (fun r => r = shareD (12 - brNM mm 12)) := by
  obtain ⟨qn, c, L, qt, ct, Lt, qh, wk, dr, re, ya, yb, F, gq, cs, Ls, ga, gb, pl, ps, rfl, hS, hH, hn, hps, hC⟩ := hI
  refine OD_conv (c_X5_cleanShare l D T xa qn c L qt qh ya ga) (fun H hP => ?_) (fun r hr => by rw [hr, hS.brN 12 (Nat.le_refl _)])
  rw [fl_one] at hP
  exact flP_sub hP [0, 1] rfl
set_option maxHeartbeats 4000000 in
set_option maxRecDepth 100000 in
theorem law_pressure {pX : Program} {l : Launch} {eX : Env} {sX : State} {mX : MethodId} {bX : List Frame} {mtX : Method} {cX : Code} {D : va_G} {T : TI} {A : Nat → Prop} {b L : Nat} {xs : Nat → Int32} {xa o : Nat} {q : Nat → Nat} {TG : State → Prop} (hCX : LCX pX l sX mX cX D T A b L xs) (k : Nat) (hk : 3 * k + 3 ≤ L) (KK : LWP pX l eX sX mX bX mtX cX D T A b xa o q TG (96 * k + 96) (160 + 3 * k + 3) (2200 + 18 * k + 18) k 1363) : LWP pX l eX sX mX bX mtX cX D T A b xa o q TG (96 * k) (160 + 3 * k) (2200 + 18 * k) k 148 := by
  obtain ⟨hx, hb, hml, hown, hts, hXs0, hls0, hns0, hK, hST, hA, hl, hL15⟩ := hCX
  intro w g th at_ isF op thn told wh mm past f kp n hI H0 locs0 hP0 hD0 hS0 ls0 hl0
  obtain ⟨hokS, hkp6, hn60⟩ := hI.okS
  refine lv_aload_n hx hb dL_law_148 rfl (lv_at hl0 1 rfl) ?_
  refine lv_aload_n hx hb dL_law_149 rfl (lv_at hl0 0 rfl) ?_
  refine lv_iload hx hb dL_law_150 (lv_at hl0 4 rfl) ?_
  refine lv_iconst (v := nI 1) hx hb dL_law_152 (by decide) ?_
  refine lv_iadd hx hb dL_law_153 ?_
  refine tp_i (y := nI (3 * k + 1)) (nI_add _ _) ?_
  refine r_sld hx hb hXs0 hls0 hns0 hS0 (3 * k + 1) dL_law_154 (by omega) ?_
  refine lv_aload_n hx hb dL_law_155 rfl (lv_at hl0 0 rfl) ?_
  refine lv_iload hx hb dL_law_156 (lv_at hl0 4 rfl) ?_
  refine lv_iconst (v := nI 2) hx hb dL_law_158 (by decide) ?_
  refine lv_iadd hx hb dL_law_159 ?_
  refine tp_i (y := nI (3 * k + 2)) (nI_add _ _) ?_
  refine r_sld hx hb hXs0 hls0 hns0 hS0 (3 * k + 2) dL_law_160 (by omega) ?_
  refine lv_aload_n hx hb dL_law_161 rfl (lv_at hl0 3 rfl) ?_
  have hPc1 : va_P D vwCl (fl [oW T o g, w]) _ := flP_sub hP0 [0, 8] rfl
  have hDc1 : va_D A (fl [oW T o g, w]) := flD_sub hD0 [0, 8] (by decide) rfl
  refine clx_i (br := [mO q (nI kp) (nI n) th (nI at_) isF op, aW T 0 (q 1) 111 mm, aW T 0 (q 2) 111 thn, aW T 0 (q 3) 666 past, aW T 0 (q 4) 60 f, aW T 0 (q 5) 27 told, aW T 0 (q 6) 3 wh]) (vx_runSX (As := [.ref xa, .int (xs (3 * k + 1)), .int (xs (3 * k + 2)), .ref o]) (rest := []) ⟨hx, hb, hml, hown, hts⟩ (c_L_pressure l D T hl hI (by omega) o g (xs (3 * k + 1)) (xs (3 * k + 2)) _) (mkSW (n := 4) hts kcw_pressure kw_0 kw_488 kw_489 ⟨by decide, by decide⟩ (by decide +kernel) ⟨rfl, rfl, Nat.le_of_ble_eq_true rfl, Nat.le_of_ble_eq_true rfl⟩) (ps_x hK hST hS0 hPc1 hDc1 (vA_c (br := [mO q (nI kp) (nI n) th (nI at_) isF op, aW T 0 (q 1) 111 mm, aW T 0 (q 2) 111 thn, aW T 0 (q 3) 666 past, aW T 0 (q 4) 60 f, aW T 0 (q 5) 27 told, aW T 0 (q 6) 3 wh]) hP0 hD0 hS0 hA (isR := [1, 2, 3, 4, 5, 6, 7]) (isC := [0, 8]) rfl (by decide))) rfl rfl hl0.1 rfl (lv_room (Nat.le_of_ble_eq_true rfl)) dL_law_162 ⟨by show _ ≤ 604008; omega, by show _ ≤ 7284081; omega⟩) hP0 hD0 hS0 hA [1, 2, 3, 4, 5, 6, 7] [0, 8] rfl (by decide) (fun E ce q9 _ux Hx lx hqx hPx hDx hSx h1 h2 h3 => absurd hqx (by simp)) (fun r_w u_w H2 locs2 hw hP2 hD2 hS2 => ?_)
  clear hP0 hD0 hS0 hPc1 hDc1
  obtain ⟨w2, g2⟩ := u_w
  have hP2 : va_P D vwCl (fl [mO q (nI kp) (nI n) th (nI at_) isF op, aW T 0 (q 1) 111 mm, aW T 0 (q 2) 111 thn, aW T 0 (q 3) 666 past, aW T 0 (q 4) 60 f, aW T 0 (q 5) 27 told, aW T 0 (q 6) 3 wh, oW T o g2, w2]) _ := hP2
  have hD2 : va_D A (fl [mO q (nI kp) (nI n) th (nI at_) isF op, aW T 0 (q 1) 111 mm, aW T 0 (q 2) 111 thn, aW T 0 (q 3) 666 past, aW T 0 (q 4) 60 f, aW T 0 (q 5) 27 told, aW T 0 (q 6) 3 wh, oW T o g2, w2]) := hD2
  refine lv_istore (lv' := [(5, .int r_w), (0, .ref b), (1, .ref xa), (2, .ref (q 0)), (3, .ref o), (4, .int (nI (3 * k)))]) hx hb dL_law_165 hl0 (by decide) rfl (fun ls3 hl3 => ?_)
  clear hl0
  refine lv_aload_n hx hb dL_law_167 rfl (lv_at hl3 3 rfl) ?_
  refine lv_aload_n hx hb dL_law_168 rfl (lv_at hl3 1 rfl) ?_
  refine lv_iload hx hb dL_law_169 (lv_at hl3 5 rfl) ?_
  refine lv_iconst (v := nI 1) hx hb dL_law_171 (by decide) ?_
  refine lv_iadd hx hb dL_law_172 ?_
  refine tp_i (y := nI (3 * k + 1)) (nI_add _ _) ?_
  refine r_sld hx hb hXs0 hls0 hns0 hS2 (3 * k + 1) dL_law_173 (by omega) ?_
  refine lv_aload_n hx hb dL_law_174 rfl (lv_at hl3 1 rfl) ?_
  refine lv_iload hx hb dL_law_175 (lv_at hl3 5 rfl) ?_
  refine lv_iconst (v := nI 2) hx hb dL_law_177 (by decide) ?_
  refine lv_iadd hx hb dL_law_178 ?_
  refine tp_i (y := nI (3 * k + 2)) (nI_add _ _) ?_
  refine r_sld hx hb hXs0 hls0 hns0 hS2 (3 * k + 2) dL_law_179 (by omega) ?_
  have hPc4 : va_P D vwCl (fl [mO q (nI kp) (nI n) th (nI at_) isF op, aW T 0 (q 1) 111 mm, aW T 0 (q 2) 111 thn, aW T 0 (q 3) 666 past, aW T 0 (q 4) 60 f, aW T 0 (q 5) 27 told, aW T 0 (q 6) 3 wh]) _ := flP_sub hP2 [0, 1, 2, 3, 4, 5, 6] rfl
  have hDc4 : va_D A (fl [mO q (nI kp) (nI n) th (nI at_) isF op, aW T 0 (q 1) 111 mm, aW T 0 (q 2) 111 thn, aW T 0 (q 3) 666 past, aW T 0 (q 4) 60 f, aW T 0 (q 5) 27 told, aW T 0 (q 6) 3 wh]) := flD_sub hD2 [0, 1, 2, 3, 4, 5, 6] (by decide) rfl
  refine cl_i (br := [oW T o g2, w2]) (va_runV (As := [.int (xs (3 * k + 1)), .int (xs (3 * k + 2))]) (rest := []) ⟨hx, hb, hml, hown, hts⟩ (c_X6_pressure l D T q kp n th at_ isF op mm thn past f told wh (xs (3 * k + 1)) (xs (3 * k + 2)) (hkp6) _) (mkV hts okX6_pressure kw_722 kw_723 kw_724 ⟨rfl, rfl, Nat.le_of_ble_eq_true rfl, Nat.le_of_ble_eq_true rfl⟩) (pv_rw hK hPc4 hDc4 (q0 := 0) rfl rfl rfl) rfl rfl hl3.1 rfl (lv_room (Nat.le_of_ble_eq_true rfl)) dL_law_180 ⟨by show _ ≤ 604008; omega, by show _ ≤ 7284081; omega⟩) hP2 hD2 hS2 hA [7, 8] [0, 1, 2, 3, 4, 5, 6] rfl (by decide) (fun r_180 u_180 H5 locs5 hq_180 hP5 hD5 hS5 => ?_)
  clear hP2 hD2 hS2 hPc4 hDc4
  obtain ⟨th2_180, now2_180, past2_180, kp2_180⟩ := u_180
  have hP5 : va_P D vwCl (fl [oW T o g2, w2, mO q (nI kp2_180) (nI n) th2_180 (nI at_) isF op, aW T 0 (q 1) 111 now2_180, aW T 0 (q 2) 111 thn, aW T 0 (q 3) 666 past2_180, aW T 0 (q 4) 60 f, aW T 0 (q 5) 27 told, aW T 0 (q 6) 3 wh]) _ := hP5
  have hD5 : va_D A (fl [oW T o g2, w2, mO q (nI kp2_180) (nI n) th2_180 (nI at_) isF op, aW T 0 (q 1) 111 now2_180, aW T 0 (q 2) 111 thn, aW T 0 (q 3) 666 past2_180, aW T 0 (q 4) 60 f, aW T 0 (q 5) 27 told, aW T 0 (q 6) 3 wh]) := hD5
  have hq_180 : (r_180, th2_180, now2_180, past2_180, kp2_180) = pressureP (xs (3 * k + 1)) (xs (3 * k + 2)) mm past kp := hq_180
  have hP6 : va_P D vwCl (fl [oW T o g2, mO q (nI kp2_180) (nI n) th2_180 (nI at_) isF op, aW T 0 (q 1) 111 now2_180, aW T 0 (q 2) 111 thn, aW T 0 (q 3) 666 past2_180, aW T 0 (q 4) 60 f, aW T 0 (q 5) 27 told, aW T 0 (q 6) 3 wh, w2]) _ := flP_sub hP5 [0, 2, 3, 4, 5, 6, 7, 8, 1] rfl
  have hD6 : va_D A (fl [oW T o g2, mO q (nI kp2_180) (nI n) th2_180 (nI at_) isF op, aW T 0 (q 1) 111 now2_180, aW T 0 (q 2) 111 thn, aW T 0 (q 3) 666 past2_180, aW T 0 (q 4) 60 f, aW T 0 (q 5) 27 told, aW T 0 (q 6) 3 wh, w2]) := flD_sub hD5 [0, 2, 3, 4, 5, 6, 7, 8, 1] (by decide) rfl
  have hS6 := hS5
  clear hP5 hS5 hD5
  rw [← hq_180] at hw
  have hw1 : r_w = th2_180 := hw.1
  have hw2 : r_w = nI 0 → g2 0 = r_180.toInt64 := hw.2.1
  have hI2 : XINV T xa w2 now2_180 past2_180 kp2_180 f n (96 * k + 96) := hw.2.2
  refine lv_istore (lv' := [(6, .int r_180), (5, .int r_w), (0, .ref b), (1, .ref xa), (2, .ref (q 0)), (3, .ref o), (4, .int (nI (3 * k)))]) hx hb dL_law_183 hl3 (by decide) rfl (fun ls7 hl7 => ?_)
  clear hl3
  refine lv_aload_n hx hb dL_law_185 rfl (lv_at hl7 4 rfl) ?_
  have hPc8 : va_P D vwCl (fl [mO q (nI kp2_180) (nI n) th2_180 (nI at_) isF op]) _ := hP6.sub [1] rfl
  refine cr_i (va_runV (As := []) (rest := []) ⟨hx, hb, hml, hown, hts⟩ (c_X6_thrown l D T q kp2_180 n th2_180 at_ isF op ) (mkV hts okX6_thrown kw_707 kw_708 kw_709 ⟨rfl, rfl, Nat.le_of_ble_eq_true rfl, Nat.le_of_ble_eq_true rfl⟩) (pv_ro hK hPc8 (q0 := 0) rfl rfl rfl) rfl rfl hl7.1 rfl (lv_room (Nat.le_of_ble_eq_true rfl)) dL_law_186 ⟨by show _ ≤ 604008; omega, by show _ ≤ 7284081; omega⟩) hP6 hS6 (fun r_186 H9 locs9 hq_186 hP9 hS9 => ?_)
  clear hP6 hS6 hPc8
  have hD9 := hD6
  clear hD6
  have hq_186 : r_186 = th2_180 := hq_186
  subst hq_186
  refine lv_iload hx hb dL_law_189 (lv_at hl7 1 rfl) ?_
  refine lv_icmp_eq (tgt := 196) hx hb dL_law_191 (by decide) (fun c10 => ?_) (fun c10 => absurd (hw1.symm) c10)
  refine lv_iload hx hb dL_law_196 (lv_at hl7 1 rfl) ?_
  refine lv_if_ne (tgt := 213) hx hb dL_law_198 (by decide) (fun c_198 => ?_) (fun c_198 => ?_)
  · skip
    refine lv_goto (tgt := 1363) hx hb dL_law_213 (by decide) ?_
    refine W.widen (k := 160 + 3 * k + 3) (n := 2200 + 18 * k + 18) (by omega) (by omega) ?_
    exact KK w2 g2 r_186 at_ isF op thn told wh now2_180 past2_180 f kp2_180 n hI2 _ _ hP9 hD9 hS9 _ (lv_sub hl7 [2, 3, 4, 5, 6] rfl)
  · skip
    refine lv_aload_n hx hb dL_law_201 rfl (lv_at hl7 5 rfl) ?_
    refine lv_iconst (v := nI 0) hx hb dL_law_202 (by decide) ?_
    refine r_lald hx hb hK hP9 0 (f := g2) rfl 0 (by decide) dL_law_203 (by decide) ?_
    refine lv_iload hx hb dL_law_204 (lv_at hl7 0 rfl) ?_
    refine lv_i2l hx hb dL_law_206 rfl ?_
    refine W.lcmp hx hb dL_law_207 ?_
    refine tp_i (y := nI 0) (by rw [hw2 c_198]; exact lgc_self _) ?_
    refine n_if_eq (tgt := 213) hx hb (by omega) dL_law_208 (by decide) (fun c12 => ?_) (fun c12 => absurd (by decide) c12)
    refine lv_goto (tgt := 1363) hx hb dL_law_213 (by decide) ?_
    refine W.widen (k := 160 + 3 * k + 3) (n := 2200 + 18 * k + 18) (by omega) (by omega) ?_
    exact KK w2 g2 r_186 at_ isF op thn told wh now2_180 past2_180 f kp2_180 n hI2 _ _ hP9 hD9 hS9 _ (lv_sub hl7 [2, 3, 4, 5, 6] rfl)
