/-! looks that cannot throw, over one block -/
set_option maxHeartbeats 4000000 in
set_option maxRecDepth 100000 in
theorem e_X5_street (l : Launch) (D : va_G) (T : TI) {xa : Nat} {wb : va_W} {mm past : Nat → Int32} {kp : Nat} {f : Nat → Int32} {n K : Nat} (hI : XINV T xa wb mm past kp f n K) (z : Nat) (k : Nat) (hz : z < 12) (hk : k ≤ 7) : CI l yX5_street cX5_street 3 .int (rmD 7 0 0) D T [.ref xa, .int (nI z), .int (nI k)] [wb] 0 0 (β := va_W) (fun w2 => [w2]) (fun r w2 => (r = ofSt mm z k) ∧ XINV T xa w2 mm past kp f n K) := by
  obtain ⟨qn, c, L, qt, ct, Lt, qh, wk, dr, re, ya, yb, F, gq, cs, Ls, ga, gb, pl, ps, rfl, hS, hH, hn, hps, hC⟩ := hI
  refine CI_conv (c_X5_street_n l D T xa qn c L qt ct Lt qh wk dr re ya yb F gq cs Ls kp ga gb f n pl ps mm past z k hS hH hz hk) (fl_one _) ?_
  rintro r ⟨wk2, dr2⟩ hr
  exact ⟨XW T xa qn c L qt ct Lt qh wk2 dr2 re ya yb F gq cs Ls kp ga gb f n pl ps, fl_one _, hr, qn, c, L, qt, ct, Lt, qh, wk2, dr2, re, ya, yb, F, gq, cs, Ls, ga, gb, pl, ps, rfl, hS, hH, hn, hps, hC⟩
set_option maxHeartbeats 4000000 in
set_option maxRecDepth 100000 in
theorem e_X5_round (l : Launch) (D : va_G) (T : TI) {xa : Nat} {wb : va_W} {mm past : Nat → Int32} {kp : Nat} {f : Nat → Int32} {n K : Nat} (hI : XINV T xa wb mm past kp f n K) (z : Nat) (k : Nat) (hz : z < 3) (hk : k < 1000) : CI l yX5_round cX5_round 3 .int (rmD 7 0 0) D T [.ref xa, .int (nI z), .int (nI k)] [wb] 0 0 (β := va_W) (fun w2 => [w2]) (fun r w2 => (r = rdV mm z k) ∧ XINV T xa w2 mm past kp f n K) := by
  obtain ⟨qn, c, L, qt, ct, Lt, qh, wk, dr, re, ya, yb, F, gq, cs, Ls, ga, gb, pl, ps, rfl, hS, hH, hn, hps, hC⟩ := hI
  refine CI_conv (c_X5_round_n l D T xa qn c L qt ct Lt qh wk dr re ya yb F gq cs Ls kp ga gb f n pl ps mm past z k hS hH hz hk) (fl_one _) ?_
  rintro r ⟨⟩ hr
  exact ⟨XW T xa qn c L qt ct Lt qh wk dr re ya yb F gq cs Ls kp ga gb f n pl ps, fl_one _, hr, qn, c, L, qt, ct, Lt, qh, wk, dr, re, ya, yb, F, gq, cs, Ls, ga, gb, pl, ps, rfl, hS, hH, hn, hps, hC⟩
set_option maxHeartbeats 4000000 in
set_option maxRecDepth 100000 in
theorem e_X5_count (l : Launch) (D : va_G) (T : TI) {xa : Nat} {wb : va_W} {mm past : Nat → Int32} {kp : Nat} {f : Nat → Int32} {n K : Nat} (hI : XINV T xa wb mm past kp f n K) (k : Nat) (hk : k ≤ 8) : CI l yX5_count cX5_count 2 .int (rmD 7 0 0) D T [.ref xa, .int (nI k)] [wb] 0 0 (β := va_W) (fun w2 => [w2]) (fun r w2 => (r = cntd mm kp k) ∧ XINV T xa w2 mm past kp f n K) := by
  obtain ⟨qn, c, L, qt, ct, Lt, qh, wk, dr, re, ya, yb, F, gq, cs, Ls, ga, gb, pl, ps, rfl, hS, hH, hn, hps, hC⟩ := hI
  refine CI_conv (c_X5_count_n l D T xa qn c L qt ct Lt qh wk dr re ya yb F gq cs Ls kp ga gb f n pl ps mm past k hS hH hk) (fl_one _) ?_
  rintro r ⟨⟩ hr
  exact ⟨XW T xa qn c L qt ct Lt qh wk dr re ya yb F gq cs Ls kp ga gb f n pl ps, fl_one _, hr, qn, c, L, qt, ct, Lt, qh, wk, dr, re, ya, yb, F, gq, cs, Ls, ga, gb, pl, ps, rfl, hS, hH, hn, hps, hC⟩
set_option maxHeartbeats 4000000 in
set_option maxRecDepth 100000 in
theorem e_X5_setting (l : Launch) (D : va_G) (T : TI) {xa : Nat} {wb : va_W} {mm past : Nat → Int32} {kp : Nat} {f : Nat → Int32} {n K : Nat} (hI : XINV T xa wb mm past kp f n K) (z : Nat) (hz : z < 4) : CI l yX5_setting cX5_setting 2 .int (rmD 7 0 0) D T [.ref xa, .int (nI z)] [wb] 0 0 (β := va_W) (fun w2 => [w2]) (fun r w2 => (r = mm z) ∧ XINV T xa w2 mm past kp f n K) := by
  obtain ⟨qn, c, L, qt, ct, Lt, qh, wk, dr, re, ya, yb, F, gq, cs, Ls, ga, gb, pl, ps, rfl, hS, hH, hn, hps, hC⟩ := hI
  refine CI_conv (c_X5_setting_n l D T xa qn c L qt ct Lt qh wk dr re ya yb F gq cs Ls kp ga gb f n pl ps mm past z hS hH hz) (fl_one _) ?_
  rintro r ⟨⟩ hr
  exact ⟨XW T xa qn c L qt ct Lt qh wk dr re ya yb F gq cs Ls kp ga gb f n pl ps, fl_one _, hr, qn, c, L, qt, ct, Lt, qh, wk, dr, re, ya, yb, F, gq, cs, Ls, ga, gb, pl, ps, rfl, hS, hH, hn, hps, hC⟩
set_option maxHeartbeats 4000000 in
set_option maxRecDepth 100000 in
theorem e_X5_waits (l : Launch) (D : va_G) (T : TI) {xa : Nat} {wb : va_W} {mm past : Nat → Int32} {kp : Nat} {f : Nat → Int32} {n K : Nat} (hI : XINV T xa wb mm past kp f n K) (z : Nat) (hz : z < 3) : CI l yX5_waits cX5_waits 2 .int (rmD 7 0 0) D T [.ref xa, .int (nI z)] [wb] 0 0 (β := va_W) (fun w2 => [w2]) (fun r w2 => (r = (laI mm (fun _ => 0) 3).2 z) ∧ XINV T xa w2 mm past kp f n K) := by
  obtain ⟨qn, c, L, qt, ct, Lt, qh, wk, dr, re, ya, yb, F, gq, cs, Ls, ga, gb, pl, ps, rfl, hS, hH, hn, hps, hC⟩ := hI
  refine CI_conv (c_X5_waits_n l D T xa qn c L qt ct Lt qh wk dr re ya yb F gq cs Ls kp ga gb f n pl ps mm past z hS hH hz) (fl_one _) ?_
  rintro r ⟨wk2, dr2, re2⟩ hr
  exact ⟨XW T xa qn c L qt ct Lt qh wk2 dr2 re2 ya yb F gq cs Ls kp ga gb f n pl ps, fl_one _, hr (fun _ => 0), qn, c, L, qt, ct, Lt, qh, wk2, dr2, re2, ya, yb, F, gq, cs, Ls, ga, gb, pl, ps, rfl, hS, hH, hn, hps, hC⟩
set_option maxHeartbeats 4000000 in
set_option maxRecDepth 100000 in
theorem e_X5_ifPassed (l : Launch) (D : va_G) (T : TI) {xa : Nat} {wb : va_W} {mm past : Nat → Int32} {kp : Nat} {f : Nat → Int32} {n K : Nat} (hI : XINV T xa wb mm past kp f n K) (z : Nat) (k : Nat) (hz1 : 1 ≤ z) (hz : z ≤ 48) (hk : k ≤ 3) : CI l yX5_ifPassed cX5_ifPassed 4 .int (rmD 8 0 0) D T [.ref xa, .int (nI z), .int (nI k)] [wb] 0 0 (β := va_W) (fun w2 => [w2]) (fun r w2 => (r = byP mm mm z k) ∧ XINV T xa w2 mm past kp f n K) := by
  obtain ⟨qn, c, L, qt, ct, Lt, qh, wk, dr, re, ya, yb, F, gq, cs, Ls, ga, gb, pl, ps, rfl, hS, hH, hn, hps, hC⟩ := hI
  refine CI_conv (c_X5_ifPassed_n l D T xa qn c L qt ct Lt qh wk dr re ya yb F gq cs Ls kp ga gb f n pl ps mm past z k hS hH hz1 hz hk) (fl_one _) ?_
  rintro r ⟨ct2, Lt2, wk2, dr2, re2⟩ hr
  exact ⟨XW T xa qn c L qt ct2 Lt2 qh wk2 dr2 re2 ya yb F gq cs Ls kp ga gb f n pl ps, fl_one _, hr mm (fun _ _ => rfl), qn, c, L, qt, ct2, Lt2, qh, wk2, dr2, re2, ya, yb, F, gq, cs, Ls, ga, gb, pl, ps, rfl, hS, hH, hn, hps, hC⟩
set_option maxHeartbeats 4000000 in
set_option maxRecDepth 100000 in
theorem e_X5_leastPressure (l : Launch) (D : va_G) (T : TI) {xa : Nat} {wb : va_W} {mm past : Nat → Int32} {kp : Nat} {f : Nat → Int32} {n K : Nat} (hI : XINV T xa wb mm past kp f n K) (z : Nat) (hz : z < 12) : CI l yX5_leastPressure cX5_leastPressure 3 .int (rmD 7 0 0) D T [.ref xa, .int (nI z)] [wb] 0 0 (β := va_W) (fun w2 => [w2]) (fun r w2 => (r = lsG mm z 0 100) ∧ XINV T xa w2 mm past kp f n K) := by
  obtain ⟨qn, c, L, qt, ct, Lt, qh, wk, dr, re, ya, yb, F, gq, cs, Ls, ga, gb, pl, ps, rfl, hS, hH, hn, hps, hC⟩ := hI
  refine CI_conv (c_X5_leastPressure_n l D T xa qn c L qt ct Lt qh wk dr re ya yb F gq cs Ls kp ga gb f n pl ps mm past z hS hH hz) (fl_one _) ?_
  rintro r ⟨ct2, Lt2, wk2, dr2⟩ hr
  exact ⟨XW T xa qn c L qt ct2 Lt2 qh wk2 dr2 re ya yb F gq cs Ls kp ga gb f n pl ps, fl_one _, hr, qn, c, L, qt, ct2, Lt2, qh, wk2, dr2, re, ya, yb, F, gq, cs, Ls, ga, gb, pl, ps, rfl, hS, hH, hn, hps, hC⟩
set_option maxHeartbeats 4000000 in
set_option maxRecDepth 100000 in
theorem e_X5_clearIn (l : Launch) (D : va_G) (T : TI) {xa : Nat} {wb : va_W} {mm past : Nat → Int32} {kp : Nat} {f : Nat → Int32} {n K : Nat} (hI : XINV T xa wb mm past kp f n K)   : CI l yX5_clearIn cX5_clearIn 2 .int (rmD 8 0 0) D T [.ref xa] [wb] 0 0 (β := va_W) (fun w2 => [w2]) (fun r w2 => (r = clG mm 0 201) ∧ XINV T xa w2 mm past kp f n K) := by
  obtain ⟨qn, c, L, qt, ct, Lt, qh, wk, dr, re, ya, yb, F, gq, cs, Ls, ga, gb, pl, ps, rfl, hS, hH, hn, hps, hC⟩ := hI
  have hc := c_X5_clearIn l D T xa qn c L qt ct Lt qh wk dr re ya yb F gq cs Ls kp ga gb f n pl ps mm past hS hH
  generalize clG mm 0 201 = z at hc ⊢
  refine CI_conv hc (fl_one _) ?_
  rintro r ⟨ct2, Lt2, wk2, dr2, re2⟩ hr
  exact ⟨XW T xa qn c L qt ct2 Lt2 qh wk2 dr2 re2 ya yb F gq cs Ls kp ga gb f n pl ps, fl_one _, hr, qn, c, L, qt, ct2, Lt2, qh, wk2, dr2, re2, ya, yb, F, gq, cs, Ls, ga, gb, pl, ps, rfl, hS, hH, hn, hps, hC⟩
