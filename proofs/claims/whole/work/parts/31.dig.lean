/-! digests -/
def mixL (x y : Int64) : Int64 := 31 * x + y
def mixN (g : Nat → Int32) : Nat → Int64 → Int64
  | 0, h => h
  | n + 1, h => mixL (mixN g n h) (g n).toInt64
theorem mixN_congr {g k : Nat → Int32} : ∀ n, (∀ j, j < n → g j = k j) → ∀ h, mixN g n h = mixN k n h
  | 0, _, _ => rfl
  | n + 1, e, h => by rw [mixN, mixN, mixN_congr n (fun j hj => e j (by omega)) h, e n (by omega)]
theorem mixN_add (g : Nat → Int32) (a : Nat) (h : Int64) : ∀ b, mixN g (a + b) h = mixN (fun j => g (a + j)) b (mixN g a h)
  | 0 => rfl
  | b + 1 => by
    show mixL (mixN g (a + b) h) (g (a + b)).toInt64 = _
    rw [mixN_add g a h b]
    rfl
set_option maxHeartbeats 4000000 in
set_option maxRecDepth 100000 in
theorem c_X5_mixed (l : Launch) (D : va_G) (T : TI) (x : Int64) (y : Int64)  : OL l yX5_mixed cX5_mixed 4 (rmD 0 0 0) D T [.long x, .long y] [] (fun r => r = mixL x y) := by
  refine met_ro rfl (Nat.le_of_ble_eq_true rfl) ?_
  intro pX eX sX mX bX mtX cX hC hP0 hS0 ls0 hl0 TG hTG
  obtain ⟨hx, hb, hr, hml, hown, hts, hlocks, hin, hK⟩ := hC
  have hown : sX.vm.findClass RX5 = some mX.cls := hown
  have hl0 : lv_has ls0 4 [(0, .long x), (2, .long y)] := hl0
  refine lv_ldc2 (v := 31) hx hb hown (hts _ kw_422) dX5_mixed_0 ?_
  refine lv_lload_n hx hb dX5_mixed_3 rfl (lv_at hl0 0 rfl) ?_
  refine lv_lmul hx hb dX5_mixed_4 ?_
  refine lv_lload_n hx hb dX5_mixed_5 rfl (lv_at hl0 1 rfl) ?_
  refine lv_ladd hx hb dX5_mixed_6 ?_
  refine ro_l hTG (Nat.le_refl _) (Nat.le_refl _) hx hb hr hlocks hS0 dX5_mixed_7 ?_
  first | rfl | trivial
