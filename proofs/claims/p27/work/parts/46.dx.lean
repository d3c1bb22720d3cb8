theorem append_n {n : Nat} (x : Int32) (f : Nat → Int32) (h : n ≤ 60) : (appendP x n f).2.2.1 ≤ 60 ∧ ((appendP x n f).2.1 = nI 0 ∨ (appendP x n f).2.2 = (n, f)) := by
  unfold appendP
  split
  · split
    · exact ⟨h, Or.inr rfl⟩
    · exact ⟨by show n + 1 ≤ 60; omega, Or.inl rfl⟩
  · exact ⟨h, Or.inr rfl⟩
theorem shB_l {n : Nat} (h : n < 13) : shB n = (shareD n).toInt64 := by
  rw [← shB_ok n h]
  rfl
theorem dg_eq {c : Nat → Nat → Int32} {L : Nat → Nat} {m : Nat → Int32} (h : Sim c L m) (kp : Nat) (f : Nat → Int32) (n : Nat) : dgC c m kp f n = dgM m kp n f := by
  have e1 : mixN (c 1) 2 (mixN (c 0) 3 (mixN (c 2) 4 (mixN (cntd m kp) 9 3169))) = mixN m 9 (mixN (cntd m kp) 9 3169) := by
    rw [show 9 = 4 + 5 from rfl, mixN_add m 4 _ 5, show 5 = 3 + 2 from rfl, mixN_add _ 3 _ 2]
    rw [mixN_congr 4 (fun j hj => h.1.2.2 j hj), mixN_congr 3 (fun j hj => h.1.1 j hj), mixN_congr 2 (fun j hj => h.1.2.1 j hj)]
    rfl
  unfold dgC dgM dg7 dm8 dg4 dm4 dg3 dg0
  rw [e1, shB_l (by omega), h.brN 12 (Nat.le_refl _)]
set_option maxHeartbeats 4000000 in
set_option maxRecDepth 100000 in
theorem d_X5_pressure (l : Launch) (D : va_G) (T : TI) (hl : l.stackTraces = false) {xa : Nat} {wb : va_W} {mm past : Nat → Int32} {kp : Nat} {f : Nat → Int32} {n K : Nat} (hI : XINV T xa wb mm past kp f n K) (hK : K ≤ 490000) (zn : Int32) (p : Int32) : XI l yX5_pressure cX5_pressure 4 .int (rmD 7 2 12) D T [.ref xa, .int zn, .int p] [wb] 2 12 (β := va_W) (βX := va_W) (fun w2 => [w2]) (QN T xa K (pressureP zn p mm past kp) (f) (n)) (fun w2 => [w2]) (QX2 T xa K (pressureP zn p mm past kp) (f) (n) XIO XIA) := by
  obtain ⟨qn, c, L, qt, ct, Lt, qh, wk, dr, re, ya, yb, F, gq, cs, Ls, ga, gb, pl, ps, rfl, hS, hH, hn, hps, hC⟩ := hI
  refine XI_conv (c_X5_pressure l D T hl xa qn c L qt ct Lt qh wk dr re ya yb F gq cs Ls kp ga gb f n pl ps mm past zn p hS hH) (fl_one _) ?_ ?_
  · rintro r ⟨c2, F2, gq2, cs2, Ls2, kp2⟩ ⟨m2, past2, hP, hS2, hH2⟩
    refine ⟨XW T xa qn c2 L qt ct Lt qh wk dr re ya yb F2 gq2 cs2 Ls2 kp2 ga gb f n pl ps, fl_one _, ?_⟩
    have hR := pressureP_ok hC hH.1 zn p
    rw [← hP] at hR ⊢
    exact ⟨rfl, rfl, qn, c2, L, qt, ct, Lt, qh, wk, dr, re, ya, yb, F2, gq2, cs2, Ls2, ga, gb, pl, ps, rfl, hS2, hH2, hn, hps, hR.1⟩
  · rintro E ⟨⟩ hE
    refine ⟨XW T xa qn c L qt ct Lt qh wk dr re ya yb F gq cs Ls kp ga gb f n pl ps, fl_one _, hE, ?_⟩
    have hR := pressureP_ok hC hH.1 zn p
    rcases hR.2 with e | e
    · rcases hE with ⟨-, q⟩ | ⟨-, q⟩ <;> exact absurd (e.symm.trans q) (by decide)
    · rw [e]
      exact ⟨qn, c, L, qt, ct, Lt, qh, wk, dr, re, ya, yb, F, gq, cs, Ls, ga, gb, pl, ps, rfl, hS, hH, hn, hps, hC.le (by omega)⟩
set_option maxHeartbeats 4000000 in
set_option maxRecDepth 100000 in
theorem d_X5_valve (l : Launch) (D : va_G) (T : TI) (hl : l.stackTraces = false) {xa : Nat} {wb : va_W} {mm past : Nat → Int32} {kp : Nat} {f : Nat → Int32} {n K : Nat} (hI : XINV T xa wb mm past kp f n K) (hK : K ≤ 490000) (zn : Int32) (ob : Bool) : XI l yX5_valve cX5_valve 4 .int (rmD 7 2 12) D T [.ref xa, .int zn, .int (bI ob)] [wb] 2 12 (β := va_W) (βX := va_W) (fun w2 => [w2]) (QN T xa K (valveP zn ob mm past kp) (f) (n)) (fun w2 => [w2]) (QX1 T xa K (valveP zn ob mm past kp) (f) (n) XIO) := by
  obtain ⟨qn, c, L, qt, ct, Lt, qh, wk, dr, re, ya, yb, F, gq, cs, Ls, ga, gb, pl, ps, rfl, hS, hH, hn, hps, hC⟩ := hI
  refine XI_conv (c_X5_valve l D T hl xa qn c L qt ct Lt qh wk dr re ya yb F gq cs Ls kp ga gb f n pl ps mm past zn ob hS hH) (fl_one _) ?_ ?_
  · rintro r ⟨c2, F2, gq2, cs2, Ls2, kp2⟩ ⟨m2, past2, hP, hS2, hH2⟩
    refine ⟨XW T xa qn c2 L qt ct Lt qh wk dr re ya yb F2 gq2 cs2 Ls2 kp2 ga gb f n pl ps, fl_one _, ?_⟩
    have hR := valveP_ok hC hH.1 zn ob
    rw [← hP] at hR ⊢
    exact ⟨rfl, rfl, qn, c2, L, qt, ct, Lt, qh, wk, dr, re, ya, yb, F2, gq2, cs2, Ls2, ga, gb, pl, ps, rfl, hS2, hH2, hn, hps, hR.1⟩
  · rintro E ⟨⟩ hE
    refine ⟨XW T xa qn c L qt ct Lt qh wk dr re ya yb F gq cs Ls kp ga gb f n pl ps, fl_one _, hE, ?_⟩
    have hR := valveP_ok hC hH.1 zn ob
    rcases hR.2 with e | e
    · exact absurd (e.symm.trans hE.2) (by decide)
    · rw [e]
      exact ⟨qn, c, L, qt, ct, Lt, qh, wk, dr, re, ya, yb, F, gq, cs, Ls, ga, gb, pl, ps, rfl, hS, hH, hn, hps, hC.le (by omega)⟩
set_option maxHeartbeats 4000000 in
set_option maxRecDepth 100000 in
theorem d_X5_dirt (l : Launch) (D : va_G) (T : TI) (hl : l.stackTraces = false) {xa : Nat} {wb : va_W} {mm past : Nat → Int32} {kp : Nat} {f : Nat → Int32} {n K : Nat} (hI : XINV T xa wb mm past kp f n K) (hK : K ≤ 490000) (zn : Int32) (p : Int32) : XI l yX5_dirt cX5_dirt 4 .int (rmD 7 2 12) D T [.ref xa, .int zn, .int p] [wb] 2 12 (β := va_W) (βX := va_W) (fun w2 => [w2]) (QN T xa K (dirtP zn p mm past kp) (f) (n)) (fun w2 => [w2]) (QX2 T xa K (dirtP zn p mm past kp) (f) (n) XIO XIA) := by
  obtain ⟨qn, c, L, qt, ct, Lt, qh, wk, dr, re, ya, yb, F, gq, cs, Ls, ga, gb, pl, ps, rfl, hS, hH, hn, hps, hC⟩ := hI
  refine XI_conv (c_X5_dirt l D T hl xa qn c L qt ct Lt qh wk dr re ya yb F gq cs Ls kp ga gb f n pl ps mm past zn p hS hH) (fl_one _) ?_ ?_
  · rintro r ⟨c2, F2, gq2, cs2, Ls2, kp2⟩ ⟨m2, past2, hP, hS2, hH2⟩
    refine ⟨XW T xa qn c2 L qt ct Lt qh wk dr re ya yb F2 gq2 cs2 Ls2 kp2 ga gb f n pl ps, fl_one _, ?_⟩
    have hR := dirtP_ok hC hH.1 zn p
    rw [← hP] at hR ⊢
    exact ⟨rfl, rfl, qn, c2, L, qt, ct, Lt, qh, wk, dr, re, ya, yb, F2, gq2, cs2, Ls2, ga, gb, pl, ps, rfl, hS2, hH2, hn, hps, hR.1⟩
  · rintro E ⟨⟩ hE
    refine ⟨XW T xa qn c L qt ct Lt qh wk dr re ya yb F gq cs Ls kp ga gb f n pl ps, fl_one _, hE, ?_⟩
    have hR := dirtP_ok hC hH.1 zn p
    rcases hR.2 with e | e
    · rcases hE with ⟨-, q⟩ | ⟨-, q⟩ <;> exact absurd (e.symm.trans q) (by decide)
    · rw [e]
      exact ⟨qn, c, L, qt, ct, Lt, qh, wk, dr, re, ya, yb, F, gq, cs, Ls, ga, gb, pl, ps, rfl, hS, hH, hn, hps, hC.le (by omega)⟩
set_option maxHeartbeats 4000000 in
set_option maxRecDepth 100000 in
theorem d_X5_hydrant (l : Launch) (D : va_G) (T : TI) (hl : l.stackTraces = false) {xa : Nat} {wb : va_W} {mm past : Nat → Int32} {kp : Nat} {f : Nat → Int32} {n K : Nat} (hI : XINV T xa wb mm past kp f n K) (hK : K ≤ 490000) (zn : Int32) (p : Int32) : XI l yX5_hydrant cX5_hydrant 4 .int (rmD 7 2 12) D T [.ref xa, .int zn, .int p] [wb] 2 12 (β := va_W) (βX := va_W) (fun w2 => [w2]) (QN T xa K (hydrantP zn p mm past kp) (f) (n)) (fun w2 => [w2]) (QX2 T xa K (hydrantP zn p mm past kp) (f) (n) XIO XIA) := by
  obtain ⟨qn, c, L, qt, ct, Lt, qh, wk, dr, re, ya, yb, F, gq, cs, Ls, ga, gb, pl, ps, rfl, hS, hH, hn, hps, hC⟩ := hI
  refine XI_conv (c_X5_hydrant l D T hl xa qn c L qt ct Lt qh wk dr re ya yb F gq cs Ls kp ga gb f n pl ps mm past zn p hS hH) (fl_one _) ?_ ?_
  · rintro r ⟨c2, F2, gq2, cs2, Ls2, kp2⟩ ⟨m2, past2, hP, hS2, hH2⟩
    refine ⟨XW T xa qn c2 L qt ct Lt qh wk dr re ya yb F2 gq2 cs2 Ls2 kp2 ga gb f n pl ps, fl_one _, ?_⟩
    have hR := hydrantP_ok hC hH.1 zn p
    rw [← hP] at hR ⊢
    exact ⟨rfl, rfl, qn, c2, L, qt, ct, Lt, qh, wk, dr, re, ya, yb, F2, gq2, cs2, Ls2, ga, gb, pl, ps, rfl, hS2, hH2, hn, hps, hR.1⟩
  · rintro E ⟨⟩ hE
    refine ⟨XW T xa qn c L qt ct Lt qh wk dr re ya yb F gq cs Ls kp ga gb f n pl ps, fl_one _, hE, ?_⟩
    have hR := hydrantP_ok hC hH.1 zn p
    rcases hR.2 with e | e
    · rcases hE with ⟨-, q⟩ | ⟨-, q⟩ <;> exact absurd (e.symm.trans q) (by decide)
    · rw [e]
      exact ⟨qn, c, L, qt, ct, Lt, qh, wk, dr, re, ya, yb, F, gq, cs, Ls, ga, gb, pl, ps, rfl, hS, hH, hn, hps, hC.le (by omega)⟩
set_option maxHeartbeats 4000000 in
set_option maxRecDepth 100000 in
theorem d_X5_send (l : Launch) (D : va_G) (T : TI) (hl : l.stackTraces = false) {xa : Nat} {wb : va_W} {mm past : Nat → Int32} {kp : Nat} {f : Nat → Int32} {n K : Nat} (hI : XINV T xa wb mm past kp f n K) (hK : K ≤ 490000) (cr : Int32) (s0 : Int32) : XI l yX5_send cX5_send 3 .int (rmD 7 3 18) D T [.ref xa, .int cr, .int s0] [wb] 3 18 (β := va_W) (βX := va_W) (fun w2 => [w2]) (QN T xa K (sendP cr s0 mm past kp) (f) (n)) (fun w2 => [w2]) (QX2 T xa K (sendP cr s0 mm past kp) (f) (n) XIO XIS) := by
  obtain ⟨qn, c, L, qt, ct, Lt, qh, wk, dr, re, ya, yb, F, gq, cs, Ls, ga, gb, pl, ps, rfl, hS, hH, hn, hps, hC⟩ := hI
  refine XI_conv (c_X5_send l D T hl xa qn c L qt ct Lt qh wk dr re ya yb F gq cs Ls kp ga gb f n pl ps mm past cr s0 hS hH) (fl_one _) ?_ ?_
  · rintro r ⟨c2, L2, F2, gq2, cs2, Ls2, kp2⟩ ⟨m2, past2, hP, hS2, hH2⟩
    refine ⟨XW T xa qn c2 L2 qt ct Lt qh wk dr re ya yb F2 gq2 cs2 Ls2 kp2 ga gb f n pl ps, fl_one _, ?_⟩
    have hR := sendP_ok hC hH.1 cr s0
    rw [← hP] at hR ⊢
    exact ⟨rfl, rfl, qn, c2, L2, qt, ct, Lt, qh, wk, dr, re, ya, yb, F2, gq2, cs2, Ls2, ga, gb, pl, ps, rfl, hS2, hH2, hn, hps, hR.1⟩
  · rintro E ⟨⟩ hE
    refine ⟨XW T xa qn c L qt ct Lt qh wk dr re ya yb F gq cs Ls kp ga gb f n pl ps, fl_one _, hE, ?_⟩
    have hR := sendP_ok hC hH.1 cr s0
    rcases hR.2 with e | e
    · rcases hE with ⟨-, q⟩ | ⟨-, q⟩ <;> exact absurd (e.symm.trans q) (by decide)
    · rw [e]
      exact ⟨qn, c, L, qt, ct, Lt, qh, wk, dr, re, ya, yb, F, gq, cs, Ls, ga, gb, pl, ps, rfl, hS, hH, hn, hps, hC.le (by omega)⟩
set_option maxHeartbeats 4000000 in
set_option maxRecDepth 100000 in
theorem d_X5_skip (l : Launch) (D : va_G) (T : TI) (hl : l.stackTraces = false) {xa : Nat} {wb : va_W} {mm past : Nat → Int32} {kp : Nat} {f : Nat → Int32} {n K : Nat} (hI : XINV T xa wb mm past kp f n K) (hK : K ≤ 490000) (cr : Int32) : XI l yX5_skip cX5_skip 3 .int (rmD 7 2 12) D T [.ref xa, .int cr] [wb] 2 12 (β := va_W) (βX := va_W) (fun w2 => [w2]) (QN T xa K (skipP cr mm past kp) (f) (n)) (fun w2 => [w2]) (QX1 T xa K (skipP cr mm past kp) (f) (n) XIO) := by
  obtain ⟨qn, c, L, qt, ct, Lt, qh, wk, dr, re, ya, yb, F, gq, cs, Ls, ga, gb, pl, ps, rfl, hS, hH, hn, hps, hC⟩ := hI
  refine XI_conv (c_X5_skip l D T hl xa qn c L qt ct Lt qh wk dr re ya yb F gq cs Ls kp ga gb f n pl ps mm past cr hS hH) (fl_one _) ?_ ?_
  · rintro r ⟨c2, L2, F2, gq2, cs2, Ls2, kp2⟩ ⟨m2, past2, hP, hS2, hH2⟩
    refine ⟨XW T xa qn c2 L2 qt ct Lt qh wk dr re ya yb F2 gq2 cs2 Ls2 kp2 ga gb f n pl ps, fl_one _, ?_⟩
    have hR := skipP_ok hC hH.1 cr
    rw [← hP] at hR ⊢
    exact ⟨rfl, rfl, qn, c2, L2, qt, ct, Lt, qh, wk, dr, re, ya, yb, F2, gq2, cs2, Ls2, ga, gb, pl, ps, rfl, hS2, hH2, hn, hps, hR.1⟩
  · rintro E ⟨⟩ hE
    refine ⟨XW T xa qn c L qt ct Lt qh wk dr re ya yb F gq cs Ls kp ga gb f n pl ps, fl_one _, hE, ?_⟩
    have hR := skipP_ok hC hH.1 cr
    rcases hR.2 with e | e
    · exact absurd (e.symm.trans hE.2) (by decide)
    · rw [e]
      exact ⟨qn, c, L, qt, ct, Lt, qh, wk, dr, re, ya, yb, F, gq, cs, Ls, ga, gb, pl, ps, rfl, hS, hH, hn, hps, hC.le (by omega)⟩
set_option maxHeartbeats 4000000 in
set_option maxRecDepth 100000 in
theorem d_X5_set (l : Launch) (D : va_G) (T : TI) (hl : l.stackTraces = false) {xa : Nat} {wb : va_W} {mm past : Nat → Int32} {kp : Nat} {f : Nat → Int32} {n K : Nat} (hI : XINV T xa wb mm past kp f n K) (hK : K ≤ 490000) (zn : Int32) (p : Int32) : XI l yX5_set cX5_set 4 .int (rmD 7 2 12) D T [.ref xa, .int zn, .int p] [wb] 2 12 (β := va_W) (βX := va_W) (fun w2 => [w2]) (QN T xa K (setP zn p mm past kp) (f) (n)) (fun w2 => [w2]) (QX2 T xa K (setP zn p mm past kp) (f) (n) XIO XIA) := by
  obtain ⟨qn, c, L, qt, ct, Lt, qh, wk, dr, re, ya, yb, F, gq, cs, Ls, ga, gb, pl, ps, rfl, hS, hH, hn, hps, hC⟩ := hI
  refine XI_conv (c_X5_set l D T hl xa qn c L qt ct Lt qh wk dr re ya yb F gq cs Ls kp ga gb f n pl ps mm past zn p hS hH) (fl_one _) ?_ ?_
  · rintro r ⟨c2, F2, gq2, cs2, Ls2, kp2⟩ ⟨m2, past2, hP, hS2, hH2⟩
    refine ⟨XW T xa qn c2 L qt ct Lt qh wk dr re ya yb F2 gq2 cs2 Ls2 kp2 ga gb f n pl ps, fl_one _, ?_⟩
    have hR := setP_ok hC hH.1 zn p
    rw [← hP] at hR ⊢
    exact ⟨rfl, rfl, qn, c2, L, qt, ct, Lt, qh, wk, dr, re, ya, yb, F2, gq2, cs2, Ls2, ga, gb, pl, ps, rfl, hS2, hH2, hn, hps, hR.1⟩
  · rintro E ⟨⟩ hE
    refine ⟨XW T xa qn c L qt ct Lt qh wk dr re ya yb F gq cs Ls kp ga gb f n pl ps, fl_one _, hE, ?_⟩
    have hR := setP_ok hC hH.1 zn p
    rcases hR.2 with e | e
    · rcases hE with ⟨-, q⟩ | ⟨-, q⟩ <;> exact absurd (e.symm.trans q) (by decide)
    · rw [e]
      exact ⟨qn, c, L, qt, ct, Lt, qh, wk, dr, re, ya, yb, F, gq, cs, Ls, ga, gb, pl, ps, rfl, hS, hH, hn, hps, hC.le (by omega)⟩
set_option maxHeartbeats 4000000 in
set_option maxRecDepth 100000 in
theorem d_X5_pass (l : Launch) (D : va_G) (T : TI) (hl : l.stackTraces = false) {xa : Nat} {wb : va_W} {mm past : Nat → Int32} {kp : Nat} {f : Nat → Int32} {n K : Nat} (hI : XINV T xa wb mm past kp f n K) (hK : K ≤ 490000) (h : Int32) : XI l yX5_pass cX5_pass 2 .int (rmD 8 2 12) D T [.ref xa, .int h] [wb] 2 12 (β := va_W) (βX := va_W) (fun w2 => [w2]) (QN T xa K (passP h mm past kp) (f) (n)) (fun w2 => [w2]) (QX1 T xa K (passP h mm past kp) (f) (n) XIA) := by
  obtain ⟨qn, c, L, qt, ct, Lt, qh, wk, dr, re, ya, yb, F, gq, cs, Ls, ga, gb, pl, ps, rfl, hS, hH, hn, hps, hC⟩ := hI
  refine XI_conv (c_X5_pass l D T hl xa qn c L qt ct Lt qh wk dr re ya yb F gq cs Ls kp ga gb f n pl ps mm past h hS hH) (fl_one _) ?_ ?_
  · rintro r ⟨c2, L2, wk2, dr2, re2, F2, gq2, cs2, Ls2, kp2⟩ ⟨m2, past2, hP, hS2, hH2⟩
    refine ⟨XW T xa qn c2 L2 qt ct Lt qh wk2 dr2 re2 ya yb F2 gq2 cs2 Ls2 kp2 ga gb f n pl ps, fl_one _, ?_⟩
    have hR := passP_ok hC hH.1 ⟨c, L, hS⟩ (by omega) h
    rw [← hP] at hR ⊢
    exact ⟨rfl, rfl, qn, c2, L2, qt, ct, Lt, qh, wk2, dr2, re2, ya, yb, F2, gq2, cs2, Ls2, ga, gb, pl, ps, rfl, hS2, hH2, hn, hps, hR.1⟩
  · rintro E ⟨⟩ hE
    refine ⟨XW T xa qn c L qt ct Lt qh wk dr re ya yb F gq cs Ls kp ga gb f n pl ps, fl_one _, hE, ?_⟩
    have hR := passP_ok hC hH.1 ⟨c, L, hS⟩ (by omega) h
    rcases hR.2 with e | e
    · exact absurd (e.symm.trans hE.2) (by decide)
    · rw [e]
      exact ⟨qn, c, L, qt, ct, Lt, qh, wk, dr, re, ya, yb, F, gq, cs, Ls, ga, gb, pl, ps, rfl, hS, hH, hn, hps, hC.le (by omega)⟩
set_option maxHeartbeats 4000000 in
set_option maxRecDepth 100000 in
theorem d_X5_undo (l : Launch) (D : va_G) (T : TI) (hl : l.stackTraces = false) {xa : Nat} {wb : va_W} {mm past : Nat → Int32} {kp : Nat} {f : Nat → Int32} {n K : Nat} (hI : XINV T xa wb mm past kp f n K) (hK : K ≤ 490000)  : XI l yX5_undo cX5_undo 1 .int (rmD 7 2 12) D T [.ref xa] [wb] 2 12 (β := va_W) (βX := va_W) (fun w2 => [w2]) (QN T xa K (undoP mm past kp) (f) (n)) (fun w2 => [w2]) (QX1 T xa K (undoP mm past kp) (f) (n) XIS) := by
  obtain ⟨qn, c, L, qt, ct, Lt, qh, wk, dr, re, ya, yb, F, gq, cs, Ls, ga, gb, pl, ps, rfl, hS, hH, hn, hps, hC⟩ := hI
  refine XI_conv (c_X5_undo l D T hl xa qn c L qt ct Lt qh wk dr re ya yb F gq cs Ls kp ga gb f n pl ps mm past hS hH) (fl_one _) ?_ ?_
  · rintro r ⟨c2, L2, kp2⟩ ⟨m2, hP, hS2, hH2⟩
    refine ⟨XW T xa qn c2 L2 qt ct Lt qh wk dr re ya yb F gq cs Ls kp2 ga gb f n pl ps, fl_one _, ?_⟩
    have hR := undoP_ok hC 
    rw [← hP] at hR ⊢
    exact ⟨rfl, rfl, qn, c2, L2, qt, ct, Lt, qh, wk, dr, re, ya, yb, F, gq, cs, Ls, ga, gb, pl, ps, rfl, hS2, hH2, hn, hps, hR.1⟩
  · rintro E ⟨⟩ hE
    refine ⟨XW T xa qn c L qt ct Lt qh wk dr re ya yb F gq cs Ls kp ga gb f n pl ps, fl_one _, hE, ?_⟩
    have hR := undoP_ok hC 
    rcases hR.2 with e | e
    · exact absurd (e.symm.trans hE.2) (by decide)
    · rw [e]
      exact ⟨qn, c, L, qt, ct, Lt, qh, wk, dr, re, ya, yb, F, gq, cs, Ls, ga, gb, pl, ps, rfl, hS, hH, hn, hps, hC.le (by omega)⟩
set_option maxHeartbeats 4000000 in
set_option maxRecDepth 100000 in
theorem d_X5_street (l : Launch) (D : va_G) (T : TI) (hl : l.stackTraces = false) {xa : Nat} {wb : va_W} {mm past : Nat → Int32} {kp : Nat} {f : Nat → Int32} {n K : Nat} (hI : XINV T xa wb mm past kp f n K) (hK : K ≤ 490000) (s0 : Int32) (w : Int32) : XI l yX5_street cX5_street 3 .int (rmD 7 2 12) D T [.ref xa, .int s0, .int w] [wb] 2 12 (β := va_W) (βX := va_W) (fun w2 => [w2]) (QN T xa K (r2 (streetP s0 w mm) mm past kp) (f) (n)) (fun w2 => [w2]) (QX2 T xa K (r2 (streetP s0 w mm) mm past kp) (f) (n) XIO XIA) := by
  obtain ⟨qn, c, L, qt, ct, Lt, qh, wk, dr, re, ya, yb, F, gq, cs, Ls, ga, gb, pl, ps, rfl, hS, hH, hn, hps, hC⟩ := hI
  refine XI_conv (c_X5_street l D T hl xa qn c L qt ct Lt qh wk dr re ya yb F gq cs Ls kp ga gb f n pl ps mm past s0 w hS hH) (fl_one _) ?_ ?_
  · rintro r ⟨wk2, dr2⟩ hP
    refine ⟨XW T xa qn c L qt ct Lt qh wk2 dr2 re ya yb F gq cs Ls kp ga gb f n pl ps, fl_one _, ?_⟩
    rw [← hP]
    exact ⟨rfl, rfl, qn, c, L, qt, ct, Lt, qh, wk2, dr2, re, ya, yb, F, gq, cs, Ls, ga, gb, pl, ps, rfl, hS, hH, hn, hps, hC.le (by omega)⟩
  · rintro E ⟨⟩ hE
    refine ⟨XW T xa qn c L qt ct Lt qh wk dr re ya yb F gq cs Ls kp ga gb f n pl ps, fl_one _, hE, ?_⟩
    exact ⟨qn, c, L, qt, ct, Lt, qh, wk, dr, re, ya, yb, F, gq, cs, Ls, ga, gb, pl, ps, rfl, hS, hH, hn, hps, hC.le (by omega)⟩
set_option maxHeartbeats 4000000 in
set_option maxRecDepth 100000 in
theorem d_X5_round (l : Launch) (D : va_G) (T : TI) (hl : l.stackTraces = false) {xa : Nat} {wb : va_W} {mm past : Nat → Int32} {kp : Nat} {f : Nat → Int32} {n K : Nat} (hI : XINV T xa wb mm past kp f n K) (hK : K ≤ 490000) (cr : Int32) (pl0 : Int32) : XI l yX5_round cX5_round 3 .int (rmD 7 2 12) D T [.ref xa, .int cr, .int pl0] [wb] 2 12 (β := va_W) (βX := va_W) (fun w2 => [w2]) (QN T xa K (r2 (roundP cr pl0 mm) mm past kp) (f) (n)) (fun w2 => [w2]) (QX2 T xa K (r2 (roundP cr pl0 mm) mm past kp) (f) (n) XIO XIA) := by
  obtain ⟨qn, c, L, qt, ct, Lt, qh, wk, dr, re, ya, yb, F, gq, cs, Ls, ga, gb, pl, ps, rfl, hS, hH, hn, hps, hC⟩ := hI
  refine XI_conv (c_X5_round l D T hl xa qn c L qt ct Lt qh wk dr re ya yb F gq cs Ls kp ga gb f n pl ps mm past cr pl0 hS hH) (fl_one _) ?_ ?_
  · rintro r ⟨⟩ hP
    refine ⟨XW T xa qn c L qt ct Lt qh wk dr re ya yb F gq cs Ls kp ga gb f n pl ps, fl_one _, ?_⟩
    rw [← hP]
    exact ⟨rfl, rfl, qn, c, L, qt, ct, Lt, qh, wk, dr, re, ya, yb, F, gq, cs, Ls, ga, gb, pl, ps, rfl, hS, hH, hn, hps, hC.le (by omega)⟩
  · rintro E ⟨⟩ hE
    refine ⟨XW T xa qn c L qt ct Lt qh wk dr re ya yb F gq cs Ls kp ga gb f n pl ps, fl_one _, hE, ?_⟩
    exact ⟨qn, c, L, qt, ct, Lt, qh, wk, dr, re, ya, yb, F, gq, cs, Ls, ga, gb, pl, ps, rfl, hS, hH, hn, hps, hC.le (by omega)⟩
set_option maxHeartbeats 4000000 in
set_option maxRecDepth 100000 in
theorem d_X5_count (l : Launch) (D : va_G) (T : TI) (hl : l.stackTraces = false) {xa : Nat} {wb : va_W} {mm past : Nat → Int32} {kp : Nat} {f : Nat → Int32} {n K : Nat} (hI : XINV T xa wb mm past kp f n K) (hK : K ≤ 490000) (w : Int32) : XI l yX5_count cX5_count 2 .int (rmD 7 1 6) D T [.ref xa, .int w] [wb] 1 6 (β := va_W) (βX := va_W) (fun w2 => [w2]) (QN T xa K (r2 (countP w mm kp) mm past kp) (f) (n)) (fun w2 => [w2]) (QX1 T xa K (r2 (countP w mm kp) mm past kp) (f) (n) XIA) := by
  obtain ⟨qn, c, L, qt, ct, Lt, qh, wk, dr, re, ya, yb, F, gq, cs, Ls, ga, gb, pl, ps, rfl, hS, hH, hn, hps, hC⟩ := hI
  refine XI_conv (c_X5_count l D T hl xa qn c L qt ct Lt qh wk dr re ya yb F gq cs Ls kp ga gb f n pl ps mm past w hS hH) (fl_one _) ?_ ?_
  · rintro r ⟨⟩ hP
    refine ⟨XW T xa qn c L qt ct Lt qh wk dr re ya yb F gq cs Ls kp ga gb f n pl ps, fl_one _, ?_⟩
    rw [← hP]
    exact ⟨rfl, rfl, qn, c, L, qt, ct, Lt, qh, wk, dr, re, ya, yb, F, gq, cs, Ls, ga, gb, pl, ps, rfl, hS, hH, hn, hps, hC.le (by omega)⟩
  · rintro E ⟨⟩ hE
    refine ⟨XW T xa qn c L qt ct Lt qh wk dr re ya yb F gq cs Ls kp ga gb f n pl ps, fl_one _, hE, ?_⟩
    exact ⟨qn, c, L, qt, ct, Lt, qh, wk, dr, re, ya, yb, F, gq, cs, Ls, ga, gb, pl, ps, rfl, hS, hH, hn, hps, hC.le (by omega)⟩
set_option maxHeartbeats 4000000 in
set_option maxRecDepth 100000 in
theorem d_X5_setting (l : Launch) (D : va_G) (T : TI) (hl : l.stackTraces = false) {xa : Nat} {wb : va_W} {mm past : Nat → Int32} {kp : Nat} {f : Nat → Int32} {n K : Nat} (hI : XINV T xa wb mm past kp f n K) (hK : K ≤ 490000) (w : Int32) : XI l yX5_setting cX5_setting 2 .int (rmD 7 1 6) D T [.ref xa, .int w] [wb] 1 6 (β := va_W) (βX := va_W) (fun w2 => [w2]) (QN T xa K (r2 (settingP w mm) mm past kp) (f) (n)) (fun w2 => [w2]) (QX1 T xa K (r2 (settingP w mm) mm past kp) (f) (n) XIO) := by
  obtain ⟨qn, c, L, qt, ct, Lt, qh, wk, dr, re, ya, yb, F, gq, cs, Ls, ga, gb, pl, ps, rfl, hS, hH, hn, hps, hC⟩ := hI
  refine XI_conv (c_X5_setting l D T hl xa qn c L qt ct Lt qh wk dr re ya yb F gq cs Ls kp ga gb f n pl ps mm past w hS hH) (fl_one _) ?_ ?_
  · rintro r ⟨⟩ hP
    refine ⟨XW T xa qn c L qt ct Lt qh wk dr re ya yb F gq cs Ls kp ga gb f n pl ps, fl_one _, ?_⟩
    rw [← hP]
    exact ⟨rfl, rfl, qn, c, L, qt, ct, Lt, qh, wk, dr, re, ya, yb, F, gq, cs, Ls, ga, gb, pl, ps, rfl, hS, hH, hn, hps, hC.le (by omega)⟩
  · rintro E ⟨⟩ hE
    refine ⟨XW T xa qn c L qt ct Lt qh wk dr re ya yb F gq cs Ls kp ga gb f n pl ps, fl_one _, hE, ?_⟩
    exact ⟨qn, c, L, qt, ct, Lt, qh, wk, dr, re, ya, yb, F, gq, cs, Ls, ga, gb, pl, ps, rfl, hS, hH, hn, hps, hC.le (by omega)⟩
set_option maxHeartbeats 4000000 in
set_option maxRecDepth 100000 in
theorem d_X5_waits (l : Launch) (D : va_G) (T : TI) (hl : l.stackTraces = false) {xa : Nat} {wb : va_W} {mm past : Nat → Int32} {kp : Nat} {f : Nat → Int32} {n K : Nat} (hI : XINV T xa wb mm past kp f n K) (hK : K ≤ 490000) (cr : Int32) : XI l yX5_waits cX5_waits 2 .int (rmD 7 1 6) D T [.ref xa, .int cr] [wb] 1 6 (β := va_W) (βX := va_W) (fun w2 => [w2]) (QN T xa K (r2 (waitsP cr mm (fun _ => 0)) mm past kp) (f) (n)) (fun w2 => [w2]) (QX1 T xa K (r2 (waitsP cr mm (fun _ => 0)) mm past kp) (f) (n) XIO) := by
  obtain ⟨qn, c, L, qt, ct, Lt, qh, wk, dr, re, ya, yb, F, gq, cs, Ls, ga, gb, pl, ps, rfl, hS, hH, hn, hps, hC⟩ := hI
  refine XI_conv (c_X5_waits l D T hl xa qn c L qt ct Lt qh wk dr re ya yb F gq cs Ls kp ga gb f n pl ps mm past cr hS hH) (fl_one _) ?_ ?_
  · rintro r ⟨wk2, dr2, re2⟩ hP
    refine ⟨XW T xa qn c L qt ct Lt qh wk2 dr2 re2 ya yb F gq cs Ls kp ga gb f n pl ps, fl_one _, ?_⟩
    have hP := hP (fun _ => 0)
    rw [← hP]
    exact ⟨rfl, rfl, qn, c, L, qt, ct, Lt, qh, wk2, dr2, re2, ya, yb, F, gq, cs, Ls, ga, gb, pl, ps, rfl, hS, hH, hn, hps, hC.le (by omega)⟩
  · rintro E ⟨⟩ hE
    have hE : E = XIO ∧ (waitsP cr mm (fun _ => 0)).2 = nI 1 := ⟨hE.1, hE.2 _⟩
    refine ⟨XW T xa qn c L qt ct Lt qh wk dr re ya yb F gq cs Ls kp ga gb f n pl ps, fl_one _, hE, ?_⟩
    exact ⟨qn, c, L, qt, ct, Lt, qh, wk, dr, re, ya, yb, F, gq, cs, Ls, ga, gb, pl, ps, rfl, hS, hH, hn, hps, hC.le (by omega)⟩
set_option maxHeartbeats 4000000 in
set_option maxRecDepth 100000 in
theorem d_X5_ifPassed (l : Launch) (D : va_G) (T : TI) (hl : l.stackTraces = false) {xa : Nat} {wb : va_W} {mm past : Nat → Int32} {kp : Nat} {f : Nat → Int32} {n K : Nat} (hI : XINV T xa wb mm past kp f n K) (hK : K ≤ 490000) (h : Int32) (w : Int32) : XI l yX5_ifPassed cX5_ifPassed 4 .int (rmD 8 2 12) D T [.ref xa, .int h, .int w] [wb] 2 12 (β := va_W) (βX := va_W) (fun w2 => [w2]) (QN T xa K (r2 (ifPassedP h w mm mm) mm past kp) (f) (n)) (fun w2 => [w2]) (QX1 T xa K (r2 (ifPassedP h w mm mm) mm past kp) (f) (n) XIA) := by
  obtain ⟨qn, c, L, qt, ct, Lt, qh, wk, dr, re, ya, yb, F, gq, cs, Ls, ga, gb, pl, ps, rfl, hS, hH, hn, hps, hC⟩ := hI
  refine XI_conv (c_X5_ifPassed l D T hl xa qn c L qt ct Lt qh wk dr re ya yb F gq cs Ls kp ga gb f n pl ps mm past h w hS hH) (fl_one _) ?_ ?_
  · rintro r ⟨ct2, Lt2, wk2, dr2, re2⟩ hP
    refine ⟨XW T xa qn c L qt ct2 Lt2 qh wk2 dr2 re2 ya yb F gq cs Ls kp ga gb f n pl ps, fl_one _, ?_⟩
    have hP := hP mm (fun _ _ => rfl)
    rw [← hP]
    exact ⟨rfl, rfl, qn, c, L, qt, ct2, Lt2, qh, wk2, dr2, re2, ya, yb, F, gq, cs, Ls, ga, gb, pl, ps, rfl, hS, hH, hn, hps, hC.le (by omega)⟩
  · rintro E ⟨⟩ hE
    have hE : E = XIA ∧ (ifPassedP h w mm mm).2 = nI 1 := ⟨hE.1, hE.2 _⟩
    refine ⟨XW T xa qn c L qt ct Lt qh wk dr re ya yb F gq cs Ls kp ga gb f n pl ps, fl_one _, hE, ?_⟩
    exact ⟨qn, c, L, qt, ct, Lt, qh, wk, dr, re, ya, yb, F, gq, cs, Ls, ga, gb, pl, ps, rfl, hS, hH, hn, hps, hC.le (by omega)⟩
set_option maxHeartbeats 4000000 in
set_option maxRecDepth 100000 in
theorem d_X5_clearIn (l : Launch) (D : va_G) (T : TI) {xa : Nat} {wb : va_W} {mm past : Nat → Int32} {kp : Nat} {f : Nat → Int32} {n K : Nat} (hI : XINV T xa wb mm past kp f n K) (hK : K ≤ 490000)  : CI l yX5_clearIn cX5_clearIn 2 .int (rmD 8 0 0) D T [.ref xa] [wb] 0 0 (β := va_W) (fun w2 => [w2]) (QN T xa K ((clG mm 0 201, nI 0, mm, past, kp)) (f) (n)) := by
  obtain ⟨qn, c, L, qt, ct, Lt, qh, wk, dr, re, ya, yb, F, gq, cs, Ls, ga, gb, pl, ps, rfl, hS, hH, hn, hps, hC⟩ := hI
  have hc := c_X5_clearIn l D T xa qn c L qt ct Lt qh wk dr re ya yb F gq cs Ls kp ga gb f n pl ps mm past hS hH
  generalize clG mm 0 201 = z at hc ⊢
  refine CI_conv hc (fl_one _) ?_
  · rintro r ⟨ct2, Lt2, wk2, dr2, re2⟩ hr
    exact ⟨XW T xa qn c L qt ct2 Lt2 qh wk2 dr2 re2 ya yb F gq cs Ls kp ga gb f n pl ps, fl_one _, hr, rfl, qn, c, L, qt, ct2, Lt2, qh, wk2, dr2, re2, ya, yb, F, gq, cs, Ls, ga, gb, pl, ps, rfl, hS, hH, hn, hps, hC.le (by omega)⟩
set_option maxHeartbeats 4000000 in
set_option maxRecDepth 100000 in
theorem d_X5_leastPressure (l : Launch) (D : va_G) (T : TI) (hl : l.stackTraces = false) {xa : Nat} {wb : va_W} {mm past : Nat → Int32} {kp : Nat} {f : Nat → Int32} {n K : Nat} (hI : XINV T xa wb mm past kp f n K) (hK : K ≤ 490000) (s0 : Int32) : XI l yX5_leastPressure cX5_leastPressure 3 .int (rmD 7 1 6) D T [.ref xa, .int s0] [wb] 1 6 (β := va_W) (βX := va_W) (fun w2 => [w2]) (QN T xa K (r2 (leastP s0 mm) mm past kp) (f) (n)) (fun w2 => [w2]) (QX1 T xa K (r2 (leastP s0 mm) mm past kp) (f) (n) XIO) := by
  obtain ⟨qn, c, L, qt, ct, Lt, qh, wk, dr, re, ya, yb, F, gq, cs, Ls, ga, gb, pl, ps, rfl, hS, hH, hn, hps, hC⟩ := hI
  refine XI_conv (c_X5_leastPressure l D T hl xa qn c L qt ct Lt qh wk dr re ya yb F gq cs Ls kp ga gb f n pl ps mm past s0 hS hH) (fl_one _) ?_ ?_
  · rintro r ⟨ct2, Lt2, wk2, dr2⟩ hP
    refine ⟨XW T xa qn c L qt ct2 Lt2 qh wk2 dr2 re ya yb F gq cs Ls kp ga gb f n pl ps, fl_one _, ?_⟩
    rw [← hP]
    exact ⟨rfl, rfl, qn, c, L, qt, ct2, Lt2, qh, wk2, dr2, re, ya, yb, F, gq, cs, Ls, ga, gb, pl, ps, rfl, hS, hH, hn, hps, hC.le (by omega)⟩
  · rintro E ⟨⟩ hE
    refine ⟨XW T xa qn c L qt ct Lt qh wk dr re ya yb F gq cs Ls kp ga gb f n pl ps, fl_one _, hE, ?_⟩
    exact ⟨qn, c, L, qt, ct, Lt, qh, wk, dr, re, ya, yb, F, gq, cs, Ls, ga, gb, pl, ps, rfl, hS, hH, hn, hps, hC.le (by omega)⟩