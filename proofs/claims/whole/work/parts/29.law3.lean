/-! the law's entry: what the tables say of classes and arrays -/
theorem z_arr {args : Array Value} {s : State} {t : FieldType} (h : (Cond.arrayClass t).before args s = true) (hra : ∀ (U : State) (c1 : ClassId), va_RA U c1 t ↔ U.vm.findClass ("[" ++ t.toString) = some c1) : ∃ cA : ClassId, ArrOfT s cA t ∧ va_RA s cA t := by
  obtain ⟨c, k, comp, h1, h2, h3⟩ := Cond.arrayClass_spec h
  exact ⟨c, fun n z => ⟨fun k h => (by cases h), k, h2, comp, h3⟩, (hra s c).mpr h1⟩
theorem z_known {args : Array Value} {s : State} (hts : ∀ w ∈ lw_tbl, w.before args s = true) : ∃ G : z_G, z_K G s := by
  have hz : ∀ w ∈ z_W, w.before args s = true := fun w hw => hts w (z_W_tbl hw)
  obtain ⟨c0, i0, k0⟩ := u_known (C := RX0) (T := TX0) (N := 6) (n := 6) hz z_inX0 (hz _ (z_mem 89 (by decide +kernel) rfl))
  obtain ⟨c1, i1, k1⟩ := u_known (C := RX1) (T := TX1) (N := 4) (n := 4) hz z_inX1 (hz _ (z_mem 176 (by decide +kernel) rfl))
  obtain ⟨c2, i2, k2⟩ := u_known (C := RX2) (T := TX2) (N := 5) (n := 5) hz z_inX2 (hz _ (z_mem 153 (by decide +kernel) rfl))
  obtain ⟨c3, i3, k3⟩ := u_known (C := RX3) (T := TX3) (N := 3) (n := 3) hz z_inX3 (hz _ (z_mem 71 (by decide +kernel) rfl))
  obtain ⟨c4, i4, k4⟩ := u_known (C := RX4) (T := TX4) (N := 4) (n := 4) hz z_inX4 (hz _ (z_mem 125 (by decide +kernel) rfl))
  obtain ⟨c5, i5, k5⟩ := u_known (C := RX5) (T := TX5) (N := 11) (n := 11) hz z_inX5 (hz _ (z_mem 63 (by decide +kernel) rfl))
  obtain ⟨c6, i6, k6⟩ := u_known (C := RX6) (T := TX6) (N := 17) (n := 17) hz z_inX6 (hz _ (z_mem 651 (by decide +kernel) rfl))
  obtain ⟨qa, ra, sa⟩ := z_arr (t := .int) (hz _ (z_mem 122 (by decide +kernel) rfl)) (fun _ _ => Iff.rfl)
  obtain ⟨qb, rb, sb⟩ := z_arr (t := .long) (hz _ (z_mem 123 (by decide +kernel) rfl)) (fun _ _ => Iff.rfl)
  obtain ⟨qc, rc, sc⟩ := z_arr (t := .char) (hz _ (z_mem 87 (by decide +kernel) rfl)) (fun _ _ => Iff.rfl)
  obtain ⟨qd, rd, sd⟩ := z_arr (t := .boolean) (hz _ (z_mem 747 (by decide +kernel) rfl)) (fun _ _ => Iff.rfl)
  refine ⟨((fun k => match k with | 0 => c0 | 1 => c1 | 2 => c2 | 3 => c3 | 4 => c4 | 5 => c5 | _ => c6, fun k => match k with | 0 => i0 | 1 => i1 | 2 => i2 | 3 => i3 | 4 => i4 | 5 => i5 | _ => i6), qa, qb, qc, qd), ⟨fun k q hq => ?_, fun k q hq => ?_⟩, fun w hw => ?_⟩
  · match k, hq with
    | 0, hq => cases hq; exact k0
    | 1, hq => cases hq; exact k1
    | 2, hq => cases hq; exact k2
    | 3, hq => cases hq; exact k3
    | 4, hq => cases hq; exact k4
    | 5, hq => cases hq; exact k5
    | 6, hq => cases hq; exact k6
    | k + 7, hq => simp [vwCl] at hq
  · match k, hq with
    | 0, hq => cases hq; exact ⟨ra, sa⟩
    | 1, hq => cases hq; exact ⟨rb, sb⟩
    | 2, hq => cases hq; exact ⟨rc, sc⟩
    | 3, hq => cases hq; exact ⟨rd, sd⟩
    | k + 4, hq => simp [z_T] at hq
  · have mem : w ∈ lw_tbl := by
      simp only [z_nest, List.mem_cons, List.not_mem_nil, or_false] at hw
      rcases hw with rfl | rfl | rfl | rfl | rfl | rfl | rfl
      · exact List.mem_of_getElem? (i := 72) (by decide +kernel)
      · exact List.mem_of_getElem? (i := 90) (by decide +kernel)
      · exact List.mem_of_getElem? (i := 126) (by decide +kernel)
      · exact List.mem_of_getElem? (i := 154) (by decide +kernel)
      · exact List.mem_of_getElem? (i := 177) (by decide +kernel)
      · exact List.mem_of_getElem? (i := 264) (by decide +kernel)
      · exact List.mem_of_getElem? (i := 291) (by decide +kernel)
    obtain ⟨a, i, x, hh, rfl⟩ := z_nest_form hw
    exact va_Nw.of rfl (hts _ mem)
