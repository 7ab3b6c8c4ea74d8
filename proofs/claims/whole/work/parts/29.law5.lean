/-! the law's entry: out of the body -/
theorem z_law_of {p : Program} {e : Env} {s : State} {m : MethodId} {below : List Frame} {meth : Method} {c : Code} (l : Launch) {b L : Nat} {xs : Nat → Int32} (C0 : lw_At p s m meth c b L xs) (body : ∀ (X : z_X) (G : z_G) (q v : Nat), z_C X l G RL cL_law 4 room_1 → z_SX X b L xs → z_LX X q v → z_LQ X b → z_J X 0 0 [] [(0, .ref b)] 0 []) : W p l e room_1 s m #[Value.ref b] below meth c s.heap [] 0 0 (lw_Z below #[Value.ref b] s) (entryFrame m ([Value.ref b] : List Value).toArray 4) := by
  obtain ⟨hx, hb, hr, hml, hown, hts, hX, hbl, hlocks, hgv⟩ := C0
  obtain ⟨G, hK⟩ := z_known hts
  obtain ⟨q, v, hlit⟩ := z_litof hts hgv
  have hl := lv_entry ([.ref b]) (n := 4) (Nat.le_of_ble_eq_true rfl)
  rw [lg_entry_eq]
  exact body (p, l, e, room_1, s, m, #[Value.ref b], below, meth, c, G, (fun a => s.heap.size ≤ a), s.heap, lw_Z below #[Value.ref b] s, 4) G q v ⟨hx, hb, hml, hown, fun w hw => hts w (z_W_tbl hw), hK, fun q h => h, rfl, rfl, rfl, rfl⟩ ⟨hX, hbl, Nat.not_le.mpr hbl⟩ ⟨rfl, hlit⟩ ⟨rfl, rfl, hr, hlocks, fun q h => h⟩ s.heap [] _ (fun k q h => by simp at h) ⟨fun i j p q h => by simp at h, fun k q h => by simp at h⟩ va_S.rf hl
