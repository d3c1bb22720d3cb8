set_option maxHeartbeats 4000000 in
set_option maxRecDepth 100000 in
theorem d_X5_pressure (l : Launch) (D : va_G) (T : TI) (hl : l.stackTraces = false) {xa : Nat} {wb : va_W} {mm past : Nat → Int32} {kp : Nat} {f : Nat → Int32} {n K : Nat} (hI : XINV T xa wb mm past kp f n K) (hK : K ≤ 490000) (zn : Int32) (p : Int32) : XI l yX5_pressure cX5_pressure 4 .int (rmD 7 2 12) D T [.ref xa, .int zn, .int p] [wb] 2 12 (β := va_W) (βX := va_W) (fun w2 => [w2]) (QN T xa K (pressureP zn p mm past kp) (f) (n)) (fun w2 => [w2]) (QX2 T xa K (pressureP zn p mm past kp) (f) (n) XIO XIA) := by
  obtain ⟨qn, c, L, qt, ct, Lt, qh, wk, dr, re, ya, yb, F, gq, cs, Ls, ga, gb, pl, ps, rfl, hS, hH, hn, hps, hC⟩ := hI
  refine XI_conv (c_X5_pressure l D T hl xa qn c L qt ct Lt qh wk dr re ya yb F gq cs Ls kp ga gb f n pl ps mm past zn p hS hH) (fl_one _) ?_ ?_
  · rintro r ⟨c2, F2, gq2, cs2, Ls2, kp2⟩ ⟨m2, past2, hP, hS2, hH2⟩
    refine ⟨XW T xa qn c2 L qt ct Lt qh wk dr re ya yb F2 gq2 cs2 Ls2 kp2 ga gb f n pl ps, fl_one _, ?_⟩
    have hR := pressureP_ok hC hH.1 zn p
    rw [← hP] at hR ⊢
    exact ⟨rfl, rfl, qn, c2, L, qt, ct, Lt, qh, wk, dr, re, ya, yb, F2, gq2, cs2, Ls2, ga, gb, pl, ps, rfl, hS2, hH2, hn, hps, hR.1⟩
  · rintro E ⟨⟩ hE
    refine ⟨XW T xa qn c L qt ct Lt qh wk dr re ya yb F gq cs Ls kp ga gb f n pl ps, fl_one _, hE, ?_⟩
    have hR := pressureP_ok hC hH.1 zn p
    rcases hR.2 with e | e
    · rcases hE with ⟨-, q⟩ | ⟨-, q⟩ <;> exact absurd (e.symm.trans q) (by decide)
    · rw [e]
      exact ⟨qn, c, L, qt, ct, Lt, qh, wk, dr, re, ya, yb, F, gq, cs, Ls, ga, gb, pl, ps, rfl, hS, hH, hn, hps, hC.le (by omega)⟩
set_option maxHeartbeats 4000000 in
set_option maxRecDepth 100000 in
theorem d_X5_valve (l : Launch) (D : va_G) (T : TI) (hl : l.stackTraces = false) {xa : Nat} {wb : va_W} {mm past : Nat → Int32} {kp : Nat} {f : Nat → Int32} {n K : Nat} (hI : XINV T xa wb mm past kp f n K) (hK : K ≤ 490000) (zn : Int32) (ob : Bool) : XI l yX5_valve cX5_valve 4 .int (rmD 7 2 12) D T [.ref xa, .int zn, .int (bI ob)] [wb] 2 12 (β := va_W) (βX := va_W) (fun w2 => [w2]) (QN T xa K (valveP zn ob mm past kp) (f) (n)) (fun w2 => [w2]) (QX1 T xa K (valveP zn ob mm past kp) (f) (n) XIO) := by
  obtain ⟨qn, c, L, qt, ct, Lt, qh, wk, dr, re, ya, yb, F, gq, cs, Ls, ga, gb, pl, ps, rfl, hS, hH, hn, hps, hC⟩ := hI
  refine XI_conv (c_X5_valve l D T hl xa qn c L qt ct Lt qh wk dr re ya yb F gq cs Ls kp ga gb f n pl ps mm past zn ob hS hH) (fl_one _) ?_ ?_
  · rintro r ⟨c2, F2, gq2, cs2, Ls2, kp2⟩ ⟨m2, past2, hP, hS2, hH2⟩
    refine ⟨XW T xa qn c2 L qt ct Lt qh wk dr re ya yb F2 gq2 cs2 Ls2 kp2 ga gb f n pl ps, fl_one _, ?_⟩
    have hR := valveP_ok hC hH.1 zn ob
    rw [← hP] at hR ⊢
    exact ⟨rfl, rfl, qn, c2, L, qt, ct, Lt, qh, wk, dr, re, ya, yb, F2, gq2, cs2, Ls2, ga, gb, pl, ps, rfl, hS2, hH2, hn, hps, hR.1⟩
  · rintro E ⟨⟩ hE
    refine ⟨XW T xa qn c L qt ct Lt qh wk dr re ya yb F gq cs Ls kp ga gb f n pl ps, fl_one _, hE, ?_⟩
    have hR := valveP_ok hC hH.1 zn ob
    rcases hR.2 with e | e
    · exact absurd (e.symm.trans hE.2) (by decide)
    · rw [e]
      exact ⟨qn, c, L, qt, ct, Lt, qh, wk, dr, re, ya, yb, F, gq, cs, Ls, ga, gb, pl, ps, rfl, hS, hH, hn, hps, hC.le (by omega)⟩
set_option maxHeartbeats 4000000 in
set_option maxRecDepth 100000 in
theorem d_X5_dirt (l : Launch) (D : va_G) (T : TI) (hl : l.stackTraces = false) {xa : Nat} {wb : va_W} {mm past : Nat → Int32} {kp : Nat} {f : Nat → Int32} {n K : Nat} (hI : XINV T xa wb mm past kp f n K) (hK : K ≤ 490000) (zn : Int32) (p : Int32) : XI l yX5_dirt cX5_dirt 4 .int (rmD 7 2 12) D T [.ref xa, .int zn, .int p] [wb] 2 12 (β := va_W) (βX := va_W) (fun w2 => [w2]) (QN T xa K (dirtP zn p mm past kp) (f) (n)) (fun w2 => [w2]) (QX2 T xa K (dirtP zn p mm past kp) (f) (n) XIO XIA) := by
  obtain ⟨qn, c, L, qt, ct, Lt, qh, wk, dr, re, ya, yb, F, gq, cs, Ls, ga, gb, pl, ps, rfl, hS, hH, hn, hps, hC⟩ := hI
  refine XI_conv (c_X5_dirt l D T hl xa qn c L qt ct Lt qh wk dr re ya yb F gq cs Ls kp ga gb f n pl ps mm past zn p hS hH) (fl_one _) ?_ ?_
  · rintro r ⟨c2, F2, gq2, cs2, Ls2, kp2⟩ ⟨m2, past2, hP, hS2, hH2⟩
    refine ⟨XW T xa qn c2 L qt ct Lt qh wk dr re ya yb F2 gq2 cs2 Ls2 kp2 ga gb f n pl ps, fl_one _, ?_⟩
    have hR := dirtP_ok hC hH.1 zn p
    rw [← hP] at hR ⊢
    exact ⟨rfl, rfl, qn, c2, L, qt, ct, Lt, qh, wk, dr, re, ya, yb, F2, gq2, cs2, Ls2, ga, gb, pl, ps, rfl, hS2, hH2, hn, hps, hR.1⟩
  · rintro E ⟨⟩ hE
    refine ⟨XW T xa qn c L qt ct Lt qh wk dr re ya yb F gq cs Ls kp ga gb f n pl ps, fl_one _, hE, ?_⟩
    have hR := dirtP_ok hC hH.1 zn p
    rcases hR.2 with e | e
    · rcases hE with ⟨-, q⟩ | ⟨-, q⟩ <;> exact absurd (e.symm.trans q) (by decide)
    · rw [e]
      exact ⟨qn, c, L, qt, ct, Lt, qh, wk, dr, re, ya, yb, F, gq, cs, Ls, ga, gb, pl, ps, rfl, hS, hH, hn, hps, hC.le (by omega)⟩
set_option maxHeartbeats 4000000 in
set_option maxRecDepth 100000 in
theorem d_X5_hydrant (l : Launch) (D : va_G) (T : TI) (hl : l.stackTraces = false) {xa : Nat} {wb : va_W} {mm past : Nat → Int32} {kp : Nat} {f : Nat → Int32} {n K : Nat} (hI : XINV T xa wb mm past kp f n K) (hK : K ≤ 490000) (zn : Int32) (p : Int32) : XI l yX5_hydrant cX5_hydrant 4 .int (rmD 7 2 12) D T [.ref xa, .int zn, .int p] [wb] 2 12 (β := va_W) (βX := va_W) (fun w2 => [w2]) (QN T xa K (hydrantP zn p mm past kp) (f) (n)) (fun w2 => [w2]) (QX2 T xa K (hydrantP zn p mm past kp) (f) (n) XIO XIA) := by
  obtain ⟨qn, c, L, qt, ct, Lt, qh, wk, dr, re, ya, yb, F, gq, cs, Ls, ga, gb, pl, ps, rfl, hS, hH, hn, hps, hC⟩ := hI
  refine XI_conv (c_X5_hydrant l D T hl xa qn c L qt ct Lt qh wk dr re ya yb F gq cs Ls kp ga gb f n pl ps mm past zn p hS hH) (fl_one _) ?_ ?_
  · rintro r ⟨c2, F2, gq2, cs2, Ls2, kp2⟩ ⟨m2, past2, hP, hS2, hH2⟩
    refine ⟨XW T xa qn c2 L qt ct Lt qh wk dr re ya yb F2 gq2 cs2 Ls2 kp2 ga gb f n pl ps, fl_one _, ?_⟩
    have hR := hydrantP_ok hC hH.1 zn p
    rw [← hP] at hR ⊢
    exact ⟨rfl, rfl, qn, c2, L, qt, ct, Lt, qh, wk, dr, re, ya, yb, F2, gq2, cs2, Ls2, ga, gb, pl, ps, rfl, hS2, hH2, hn, hps, hR.1⟩
  · rintro E ⟨⟩ hE
    refine ⟨XW T xa qn c L qt ct Lt qh wk dr re ya yb F gq cs Ls kp ga gb f n pl ps, fl_one _, hE, ?_⟩
    have hR := hydrantP_ok hC hH.1 zn p
    rcases hR.2 with e | e
    · rcases hE with ⟨-, q⟩ | ⟨-, q⟩ <;> exact absurd (e.symm.trans q) (by decide)
    · rw [e]
      exact ⟨qn, c, L, qt, ct, Lt, qh, wk, dr, re, ya, yb, F, gq, cs, Ls, ga, gb, pl, ps, rfl, hS, hH, hn, hps, hC.le (by omega)⟩
set_option maxHeartbeats 4000000 in
set_option maxRecDepth 100000 in
theorem d_X5_send (l : Launch) (D : va_G) (T : TI) (hl : l.stackTraces = false) {xa : Nat} {wb : va_W} {mm past : Nat → Int32} {kp : Nat} {f : Nat → Int32} {n K : Nat} (hI : XINV T xa wb mm past kp f n K) (hK : K ≤ 490000) (cr : Int32) (s0 : Int32) : XI l yX5_send cX5_send 3 .int (rmD 7 3 18) D T [.ref xa, .int cr, .int s0] [wb] 3 18 (β := va_W) (βX := va_W) (fun w2 => [w2]) (QN T xa K (sendP cr s0 mm past kp) (f) (n)) (fun w2 => [w2]) (QX2 T xa K (sendP cr s0 mm past kp) (f) (n) XIO XIS) := by
  obtain ⟨qn, c, L, qt, ct, Lt, qh, wk, dr, re, ya, yb, F, gq, cs, Ls, ga, gb, pl, ps, rfl, hS, hH, hn, hps, hC⟩ := hI
  refine XI_conv (c_X5_send l D T hl xa qn c L qt ct Lt qh wk dr re ya yb F gq cs Ls kp ga gb f n pl ps mm past cr s0 hS hH) (fl_one _) ?_ ?_
  · rintro r ⟨c2, L2, F2, gq2, cs2, Ls2, kp2⟩ ⟨m2, past2, hP, hS2, hH2⟩
    refine ⟨XW T xa qn c2 L2 qt ct Lt qh wk dr re ya yb F2 gq2 cs2 Ls2 kp2 ga gb f n pl ps, fl_one _, ?_⟩
    have hR := sendP_ok hC hH.1 cr s0
    rw [← hP] at hR ⊢
    exact ⟨rfl, rfl, qn, c2, L2, qt, ct, Lt, qh, wk, dr, re, ya, yb, F2, gq2, cs2, Ls2, ga, gb, pl, ps, rfl, hS2, hH2, hn, hps, hR.1⟩
  · rintro E ⟨⟩ hE
    refine ⟨XW T xa qn c L qt ct Lt qh wk dr re ya yb F gq cs Ls kp ga gb f n pl ps, fl_one _, hE, ?_⟩
    have hR := sendP_ok hC hH.1 cr s0
    rcases hR.2 with e | e
    · rcases hE with ⟨-, q⟩ | ⟨-, q⟩ <;> exact absurd (e.symm.trans q) (by decide)
    · rw [e]
      exact ⟨qn, c, L, qt, ct, Lt, qh, wk, dr, re, ya, yb, F, gq, cs, Ls, ga, gb, pl, ps, rfl, hS, hH, hn, hps, hC.le (by omega)⟩
set_option maxHeartbeats 4000000 in
set_option maxRecDepth 100000 in
theorem d_X5_skip (l : Launch) (D : va_G) (T : TI) (hl : l.stackTraces = false) {xa : Nat} {wb : va_W} {mm past : Nat → Int32} {kp : Nat} {f : Nat → Int32} {n K : Nat} (hI : XINV T xa wb mm past kp f n K) (hK : K ≤ 490000) (cr : Int32) : XI l yX5_skip cX5_skip 3 .int (rmD 7 2 12) D T [.ref xa, .int cr] [wb] 2 12 (β := va_W) (βX := va_W) (fun w2 => [w2]) (QN T xa K (skipP cr mm past kp) (f) (n)) (fun w2 => [w2]) (QX1 T xa K (skipP cr mm past kp) (f) (n) XIO) := by
  obtain ⟨qn, c, L, qt, ct, Lt, qh, wk, dr, re, ya, yb, F, gq, cs, Ls, ga, gb, pl, ps, rfl, hS, hH, hn, hps, hC⟩ := hI
  refine XI_conv (c_X5_skip l D T hl xa qn c L qt ct Lt qh wk dr re ya yb F gq cs Ls kp ga gb f n pl ps mm past cr hS hH) (fl_one _) ?_ ?_
  · rintro r ⟨c2, L2, F2, gq2, cs2, Ls2, kp2⟩ ⟨m2, past2, hP, hS2, hH2⟩
    refine ⟨XW T xa qn c2 L2 qt ct Lt qh wk dr re ya yb F2 gq2 cs2 Ls2 kp2 ga gb f n pl ps, fl_one _, ?_⟩
    have hR := skipP_ok hC hH.1 cr
    rw [← hP] at hR ⊢
    exact ⟨rfl, rfl, qn, c2, L2, qt, ct, Lt, qh, wk, dr, re, ya, yb, F2, gq2, cs2, Ls2, ga, gb, pl, ps, rfl, hS2, hH2, hn, hps, hR.1⟩
  · rintro E ⟨⟩ hE
    refine ⟨XW T xa qn c L qt ct Lt qh wk dr re ya yb F gq cs Ls kp ga gb f n pl ps, fl_one _, hE, ?_⟩
    have hR := skipP_ok hC hH.1 cr
    rcases hR.2 with e | e
    · exact absurd (e.symm.trans hE.2) (by decide)
    · rw [e]
      exact ⟨qn, c, L, qt, ct, Lt, qh, wk, dr, re, ya, yb, F, gq, cs, Ls, ga, gb, pl, ps, rfl, hS, hH, hn, hps, hC.le (by omega)⟩
set_option maxHeartbeats 4000000 in
set_option maxRecDepth 100000 in
theorem d_X5_set (l : Launch) (D : va_G) (T : TI) (hl : l.stackTraces = false) {xa : Nat} {wb : va_W} {mm past : Nat → Int32} {kp : Nat} {f : Nat → Int32} {n K : Nat} (hI : XINV T xa wb mm past kp f n K) (hK : K ≤ 490000) (zn : Int32) (p : Int32) : XI l yX5_set cX5_set 4 .int (rmD 7 2 12) D T [.ref xa, .int zn, .int p] [wb] 2 12 (β := va_W) (βX := va_W) (fun w2 => [w2]) (QN T xa K (setP zn p mm past kp) (f) (n)) (fun w2 => [w2]) (QX2 T xa K (setP zn p mm past kp) (f) (n) XIO XIA) := by
  obtain ⟨qn, c, L, qt, ct, Lt, qh, wk, dr, re, ya, yb, F, gq, cs, Ls, ga, gb, pl, ps, rfl, hS, hH, hn, hps, hC⟩ := hI
  refine XI_conv (c_X5_set l D T hl xa qn c L qt ct Lt qh wk dr re ya yb F gq cs Ls kp ga gb f n pl ps mm past zn p hS hH) (fl_one _) ?_ ?_
  · rintro r ⟨c2, F2, gq2, cs2, Ls2, kp2⟩ ⟨m2, past2, hP, hS2, hH2⟩
    refine ⟨XW T xa qn c2 L qt ct Lt qh wk dr re ya yb F2 gq2 cs2 Ls2 kp2 ga gb f n pl ps, fl_one _, ?_⟩
    have hR := setP_ok hC hH.1 zn p
    rw [← hP] at hR ⊢
    exact ⟨rfl, rfl, qn, c2, L, qt, ct, Lt, qh, wk, dr, re, ya, yb, F2, gq2, cs2, Ls2, ga, gb, pl, ps, rfl, hS2, hH2, hn, hps, hR.1⟩
  · rintro E ⟨⟩ hE
    refine ⟨XW T xa qn c L qt ct Lt qh wk dr re ya yb F gq cs Ls kp ga gb f n pl ps, fl_one _, hE, ?_⟩
    have hR := setP_ok hC hH.1 zn p
    rcases hR.2 with e | e
    · rcases hE with ⟨-, q⟩ | ⟨-, q⟩ <;> exact absurd (e.symm.trans q) (by decide)
    · rw [e]
      exact ⟨qn, c, L, qt, ct, Lt, qh, wk, dr, re, ya, yb, F, gq, cs, Ls, ga, gb, pl, ps, rfl, hS, hH, hn, hps, hC.le (by omega)⟩
set_option maxHeartbeats 4000000 in
set_option maxRecDepth 100000 in
theorem d_X5_pass (l : Launch) (D : va_G) (T : TI) (hl : l.stackTraces = false) {xa : Nat} {wb : va_W} {mm past : Nat → Int32} {kp : Nat} {f : Nat → Int32} {n K : Nat} (hI : XINV T xa wb mm past kp f n K) (hK : K ≤ 490000) (h : Int32) : XI l yX5_pass cX5_pass 2 .int (rmD 8 2 12) D T [.ref xa, .int h] [wb] 2 12 (β := va_W) (βX := va_W) (fun w2 => [w2]) (QN T xa K (passP h mm past kp) (f) (n)) (fun w2 => [w2]) (QX1 T xa K (passP h mm past kp) (f) (n) XIA) := by
  obtain ⟨qn, c, L, qt, ct, Lt, qh, wk, dr, re, ya, yb, F, gq, cs, Ls, ga, gb, pl, ps, rfl, hS, hH, hn, hps, hC⟩ := hI
  refine XI_conv (c_X5_pass l D T hl xa qn c L qt ct Lt qh wk dr re ya yb F gq cs Ls kp ga gb f n pl ps mm past h hS hH) (fl_one _) ?_ ?_
  · rintro r ⟨c2, L2, wk2, dr2, re2, F2, gq2, cs2, Ls2, kp2⟩ ⟨m2, past2, hP, hS2, hH2⟩
    refine ⟨XW T xa qn c2 L2 qt ct Lt qh wk2 dr2 re2 ya yb F2 gq2 cs2 Ls2 kp2 ga gb f n pl ps, fl_one _, ?_⟩
    have hR := passP_ok hC hH.1 ⟨c, L, hS⟩ (by omega) h
    rw [← hP] at hR ⊢
    exact ⟨rfl, rfl, qn, c2, L2, qt, ct, Lt, qh, wk2, dr2, re2, ya, yb, F2, gq2, cs2, Ls2, ga, gb, pl, ps, rfl, hS2, hH2, hn, hps, hR.1⟩
  · rintro E ⟨⟩ hE
    refine ⟨XW T xa qn c L qt ct Lt qh wk dr re ya yb F gq cs Ls kp ga gb f n pl ps, fl_one _, hE, ?_⟩
    have hR := passP_ok hC hH.1 ⟨c, L, hS⟩ (by omega) h
    rcases hR.2 with e | e
    · exact absurd (e.symm.trans hE.2) (by decide)
    · rw [e]
      exact ⟨qn, c, L, qt, ct, Lt, qh, wk, dr, re, ya, yb, F, gq, cs, Ls, ga, gb, pl, ps, rfl, hS, hH, hn, hps, hC.le (by omega)⟩
set_option maxHeartbeats 4000000 in
set_option maxRecDepth 100000 in
theorem d_X5_undo (l : Launch) (D : va_G) (T : TI) (hl : l.stackTraces = false) {xa : Nat} {wb : va_W} {mm past : Nat → Int32} {kp : Nat} {f : Nat → Int32} {n K : Nat} (hI : XINV T xa wb mm past kp f n K) (hK : K ≤ 490000)  : XI l yX5_undo cX5_undo 1 .int (rmD 7 2 12) D T [.ref xa] [wb] 2 12 (β := va_W) (βX := va_W) (fun w2 => [w2]) (QN T xa K (undoP mm past kp) (f) (n)) (fun w2 => [w2]) (QX1 T xa K (undoP mm past kp) (f) (n) XIS) := by
  obtain ⟨qn, c, L, qt, ct, Lt, qh, wk, dr, re, ya, yb, F, gq, cs, Ls, ga, gb, pl, ps, rfl, hS, hH, hn, hps, hC⟩ := hI
  refine XI_conv (c_X5_undo l D T hl xa qn c L qt ct Lt qh wk dr re ya yb F gq cs Ls kp ga gb f n pl ps mm past hS hH) (fl_one _) ?_ ?_
  · rintro r ⟨c2, L2, kp2⟩ ⟨m2, hP, hS2, hH2⟩
    refine ⟨XW T xa qn c2 L2 qt ct Lt qh wk dr re ya yb F gq cs Ls kp2 ga gb f n pl ps, fl_one _, ?_⟩
    have hR := undoP_ok hC 
    rw [← hP] at hR ⊢
    exact ⟨rfl, rfl, qn, c2, L2, qt, ct, Lt, qh, wk, dr, re, ya, yb, F, gq, cs, Ls, ga, gb, pl, ps, rfl, hS2, hH2, hn, hps, hR.1⟩
  · rintro E ⟨⟩ hE
    refine ⟨XW T xa qn c L qt ct Lt qh wk dr re ya yb F gq cs Ls kp ga gb f n pl ps, fl_one _, hE, ?_⟩
    have hR := undoP_ok hC 
    rcases hR.2 with e | e
    · exact absurd (e.symm.trans hE.2) (by decide)
    · rw [e]
      exact ⟨qn, c, L, qt, ct, Lt, qh, wk, dr, re, ya, yb, F, gq, cs, Ls, ga, gb, pl, ps, rfl, hS, hH, hn, hps, hC.le (by omega)⟩