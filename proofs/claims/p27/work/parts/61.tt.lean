/-! what comes is flushed, lost or there -/
def TT (m : Nat → Int32) : Int32 := sumM m 0 12 + sumM m 4 12 + m 11
theorem i32_1 (a b c x y : Int32) : a + (x - y) + b + c = a + b + c + (x - y) := by
  rw [I32_acm a (x - y) b, I32_acm (a + b) (x - y) c]
theorem i32_2 (a b c x y : Int32) : a + (b + (x - y)) + c = a + b + c + (x - y) := by
  rw [← Int32.add_assoc a b, I32_acm (a + b) (x - y) c]
theorem i32_3 (a x y : Int32) : a + (y + x - y) = a + x := by
  rw [Int32.add_comm y x, Int32.add_sub_cancel]
theorem i32_3' (a x y : Int32) : a + (y + x - y) = a + x := i32_3 a x y
theorem i32_4 (t x y z : Int32) : t + (x - y) + (y - z) = t + (x - z) := by
  rw [Int32.add_assoc, Int32.sub_eq_add_neg, Int32.sub_eq_add_neg, Int32.sub_eq_add_neg, Int32.add_assoc x, ← Int32.add_assoc (-y) y, Int32.add_left_neg, Int32.zero_add]
theorem i32_5 (t x : Int32) : t + (x - x) = t := by rw [Int32.sub_self, Int32.add_zero]
theorem i32_6 (x y : Int32) : x - y - x = -y := by
  rw [Int32.sub_eq_add_neg, Int32.sub_eq_add_neg, I32_acm, Int32.add_right_neg, Int32.zero_add]
theorem i32_add_sub (a x : Int32) : a + (x - a) = x := by rw [Int32.add_comm, Int32.sub_add_cancel]
theorem i32_7 (t g : Int32) : t + -g + g = t := by rw [Int32.add_assoc, Int32.add_left_neg, Int32.add_zero]
theorem i32_8 (t g : Int32) : t + -g + g = t := i32_7 t g
theorem sum_n (m : Nat → Int32) {w s : Nat} (hw : w < 6) (x : Int32) : ∀ n, sumM (upd m (12 + 6 * s + w) x) w n = if s < n then sumM m w n + (x - m (12 + 6 * s + w)) else sumM m w n
  | 0 => by rw [if_neg (by omega)]; rfl
  | n + 1 => by
    rw [sumM, sumM, sum_n m hw x n]
    by_cases e : n = s
    · subst e
      rw [if_neg (by omega), if_pos (by omega), pk_us, Int32.add_assoc, i32_add_sub]
    · rw [pk_un (by omega)]
      by_cases q : s < n
      · rw [if_pos q, if_pos (by omega), I32_acm]
      · rw [if_neg q, if_neg (by omega)]
theorem sum_u (m : Nat → Int32) {w s : Nat} (hw : w < 6) (hs : s < 12) (x : Int32) : sumM (upd m (12 + 6 * s + w) x) w 12 = sumM m w 12 + (x - m (12 + 6 * s + w)) := by
  rw [sum_n m hw x 12, if_pos hs]
theorem sum_un (m : Nat → Int32) {w k : Nat} (hw : w < 6) (x : Int32) (h : ∀ s, s < 12 → 12 + 6 * s + w ≠ k) : sumM (upd m k x) w 12 = sumM m w 12 := sumM_congr hw (fun s hs => pk_un (h s hs)) 12 (Nat.le_refl 12)
theorem TT_dirt (m : Nat → Int32) {s : Nat} (hs : s < 12) (x : Int32) : TT (upd m (12 + 6 * s) x) = TT m + (x - m (12 + 6 * s)) := by
  unfold TT
  rw [show upd m (12 + 6 * s) x = upd m (12 + 6 * s + 0) x from rfl, sum_u m (by omega) hs x, sum_un m (by omega) x (fun y hy => by omega), pk_un (by omega)]
  exact i32_1 _ _ _ _ _
theorem TT_fl (m : Nat → Int32) {s : Nat} (hs : s < 12) (x : Int32) : TT (upd m (12 + 6 * s + 4) x) = TT m + (x - m (12 + 6 * s + 4)) := by
  unfold TT
  rw [sum_u m (by omega) hs x, sum_un m (by omega) x (fun y hy => by omega), pk_un (by omega)]
  exact i32_2 _ _ _ _ _
theorem TT_lost (m : Nat → Int32) (x : Int32) : TT (upd m 11 x) = TT m + (x - m 11) := by
  unfold TT
  rw [sum_un m (by omega) x (fun y hy => by omega), sum_un m (by omega) x (fun y hy => by omega), pk_us, Int32.add_assoc (sumM m 0 12 + sumM m 4 12) (m 11), i32_add_sub]
theorem TT_un (m : Nat → Int32) {k : Nat} (x : Int32) (h : k ≠ 11 ∧ (k < 12 ∨ (k - 12) % 6 = 1 ∨ (k - 12) % 6 = 2 ∨ (k - 12) % 6 = 3 ∨ (k - 12) % 6 = 5 ∨ 84 ≤ k)) : TT (upd m k x) = TT m := by
  unfold TT
  rw [sum_un m (by omega) x (fun y hy => by omega), sum_un m (by omega) x (fun y hy => by omega), pk_un (by omega)]
theorem TT_congr {m m2 : Nat → Int32} (h : ∀ j, j < 84 → j ≠ 10 → m2 j = m j) : TT m2 = TT m := by
  unfold TT
  rw [sumM_congr (m1 := m) (by omega) (fun s hs => h _ (by omega) (by omega)) 12 (Nat.le_refl 12), sumM_congr (m := m2) (m1 := m) (w := 4) (by omega) (fun s hs => h _ (by omega) (by omega)) 12 (Nat.le_refl 12), h 11 (by omega) (by omega)]
theorem TT_hf (m : Nat → Int32) {k : Nat} (hk : k < 12) (g : Int32) : TT (hfA m k g) = TT m := by
  unfold hfA
  try dsimp only
  rw [TT_un _ _ (by omega), TT_fl _ hk, TT_dirt _ hk, pk_un (by omega), i32_6, i32_3, i32_7]
theorem TT_hfI (o : Int32) (m : Nat → Int32) : ∀ n, n ≤ 12 → TT (hfI o m n).1 = TT m
  | 0, _ => rfl
  | n + 1, hn => by
    have ih := TT_hfI o m n (by omega)
    rw [hfI]
    unfold hfS
    split
    · exact (TT_hf _ (by omega) _).trans ih
    · exact ih
theorem TT_cm (m : Nat → Int32) {s : Nat} (hs : s < 12) (d : Int32) : TT (cmM m s d) = TT m + d := by
  have h1 : TT (upd m (12 + 6 * s) (m (12 + 6 * s) + d)) = TT m + d := by rw [TT_dirt m hs, i32_3]
  unfold cmM
  try dsimp only
  split
  · exact h1
  · rw [TT_dirt _ hs, TT_lost, h1, pk_un (show (12 + 6 * s) ≠ 11 by omega)]
    generalize upd m (12 + 6 * s) (m (12 + 6 * s) + d) (12 + 6 * s) = x
    generalize upd m (12 + 6 * s) (m (12 + 6 * s) + d) 11 = y
    rw [i32_3 _ (x - nI 999) y, i32_4 _ x (nI 999) x, i32_5]
theorem TT_hcI (o : Int32) (m : Nat → Int32) : ∀ d, d ≤ 11 → TT (hcI o m d) = TT m
  | 0, _ => rfl
  | d + 1, hd => by
    have ih := TT_hcI o m d (by omega)
    rw [hcI]
    revert ih
    generalize hcI o m d = a
    intro ih
    unfold hcS
    split
    · split
      · rw [TT_cm _ (by omega), TT_dirt _ (by omega), i32_6, show a (12 + 6 * (10 - d) + 0) = a (12 + 6 * (10 - d)) from rfl, i32_8]
        exact ih
      · exact ih
    · exact ih
theorem hg_lo (m : Nat → Int32) {j : Nat} (hj : j < 11) : ∀ k, hgI m k j = m j
  | 0 => rfl
  | k + 1 => by
    have ih := hg_lo m hj k
    rw [hgI]
    revert ih
    generalize hgI m k = a
    intro ih
    unfold hgS
    try dsimp only
    split
    · rw [pk_un (by omega), pk_un (by omega), cm_lo hj]; exact ih
    · rw [pk_un (by omega), pk_un (by omega), cm_lo hj]; exact ih
theorem hc_lo (o : Int32) (m : Nat → Int32) {j : Nat} (hj : j < 11) : ∀ k, hcI o m k j = m j
  | 0 => rfl
  | k + 1 => by
    have ih := hc_lo o m hj k
    rw [hcI]
    revert ih
    generalize hcI o m k = a
    intro ih
    unfold hcS
    split
    · split
      · rw [cm_lo hj, pk_un (by omega)]; exact ih
      · exact ih
    · exact ih
theorem hf_lo (o : Int32) (m : Nat → Int32) {j : Nat} (hj : j < 11) : ∀ k, (hfI o m k).1 j = m j
  | 0 => rfl
  | k + 1 => by
    have ih := hf_lo o m hj k
    rw [hfI]
    unfold hfS
    split
    · show hfA _ _ _ j = m j
      unfold hfA
      try dsimp only
      rw [pk_un (by omega), pk_un (by omega), pk_un (by omega)]; exact ih
    · exact ih
theorem TT_hgI (m : Nat → Int32) : ∀ k, k ≤ 12 → TT (hgI m k) = TT m + nI k * m 3
  | 0, _ => by
    rw [show nI 0 * m 3 = 0 from Int32.zero_mul, Int32.add_zero]
    rfl
  | k + 1, hk => by
    have ih := TT_hgI m k (by omega)
    have e3 := hg_lo m (show 3 < 11 by omega) k
    rw [hgI]
    have key : TT (cmM (hgI m k) k (hgI m k 3)) = TT m + nI (k + 1) * m 3 := by
      rw [TT_cm _ (by omega), ih, e3, ← nI_add, Int32.add_mul, show nI 1 * m 3 = m 3 from Int32.one_mul _, Int32.add_assoc]
    unfold hgS
    try dsimp only
    split
    · rw [TT_un _ _ (by omega), TT_un _ _ (by omega)]; exact key
    · rw [TT_un _ _ (by omega), TT_un _ _ (by omega)]; exact key
theorem hour_lo (m : Nat → Int32) {j : Nat} (hj : j < 9) : hourF m j = m j := by
  unfold hourF hourM
  try dsimp only
  rw [pk_un (by omega), hw_lo _ _ _ (by omega) (by omega), hg_lo _ (by omega), hc_lo _ _ (by omega), hf_lo _ _ (by omega)]
theorem TT_hour (m : Nat → Int32) : TT (hourF m) = TT m + nI 12 * m 3 := by
  unfold hourF hourM
  try dsimp only
  rw [TT_un _ _ (by omega), TT_congr (fun j hj h10 => hw_lo _ _ _ hj h10 3), TT_hgI _ 12 (by omega), TT_hcI _ _ 11 (by omega), TT_hfI _ _ 12 (by omega), hc_lo _ _ (by omega), hf_lo _ _ (by omega)]
theorem hourN_lo (m : Nat → Int32) {j : Nat} (hj : j < 9) : ∀ n, hourN m n j = m j
  | 0 => rfl
  | n + 1 => by rw [hourN, hour_lo _ hj, hourN_lo m hj n]
theorem TT_hourN (m : Nat → Int32) : ∀ n, TT (hourN m n) = TT m + nI (12 * n) * m 3
  | 0 => by
    rw [show nI (12 * 0) * m 3 = 0 from Int32.zero_mul, Int32.add_zero]
    rfl
  | n + 1 => by rw [hourN, TT_hour, TT_hourN m n, hourN_lo m (by omega) n, show 12 * (n + 1) = 12 * n + 12 by omega, ← nI_add, Int32.add_mul, Int32.add_assoc]
