set_option maxHeartbeats 4000000 in
set_option maxRecDepth 100000 in
/-- the law comes to its end with true -/
theorem whole_start {p : Program} {e : Env} {s : State} {m : MethodId} {below : List Frame} {meth : Method} {c : Code} (l : Launch) (hflags : l.flags = flags0) {b L : Nat} {xs : Nat → Int32} (hL : L ≤ 260) (C0 : lw_At p s m meth c b L xs) : W p l e room_1 s m #[Value.ref b] below meth c s.heap [] 0 0 (lw_Z below #[Value.ref b] s) (entryFrame m ([Value.ref b] : List Value).toArray 16) := by
  obtain ⟨hx, hb, hr, hml, hown, hts0, hX, hbl, hlocks, hgv⟩ := C0
  obtain ⟨D, T, hK, hST⟩ := kn_start hts0 hgv
  have hl : l.stackTraces = false := by
    unfold Launch.stackTraces
    rw [hflags]
    decide
  have hd0 := Drawn.sameBut.refl s.drawn lw_cs
  rw [lg_entry_eq]
  exact law_entry (A := fun z => s.heap.size ≤ z) (xs := xs) (L := L) ⟨hx, hb, hml, hown, W0_hts hts0, ⟨hX, hbl, Nat.not_le.mpr hbl⟩, hK, hST, fun z h => h, hl, hL⟩ (fun z h => h) (fun H ls => lw_ret hd0 hx hb hr hlocks dL_law_419) _ (lv_entry [.ref b] (n := 16) (Nat.le_of_ble_eq_true rfl))
