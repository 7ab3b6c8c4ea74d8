/-! the law's entry: the String constant -/
theorem z_litof {b : Nat} {s : State} (hts : ∀ w ∈ lw_tbl, w.before #[Value.ref b] s = true) (hgv : (Jvm.Cond.and given_1 narrow_1).before #[Value.ref b] s = true) : ∃ q v : Nat, z_lit q v (fun a => s.heap.size ≤ a) s s.heap := by
  have hz : ∀ w ∈ z_W, w.before #[Value.ref b] s = true := fun w hw => hts w (z_W_tbl hw)
  have hs := flat_of_before _ hgv
  have hA : ∀ a : Nat, a < s.heap.size → ¬ (fun a => s.heap.size ≤ a) a := fun a h => Nat.not_le.mpr h
  have mem : ∀ j : Nat, j < 70 → Cond.eq (.elem (.field (.string RX5 64) "java/lang/String" "value" "[B") (.int (Int32.ofNat j))) (.int ((([s_txt.map Int32.ofInt] : List (List Int32)).getD 0 []).getD j 0)) ∈ flatC (Jvm.Cond.and given_1 narrow_1) := by decide +kernel
  obtain ⟨adK, adV, h1, h2⟩ := vk_Sof (args := #[Value.ref b]) (s := s) (N := 1) (tm := fun _ => .string RX5 64) (len := [70]) (byt := [s_txt.map Int32.ofInt]) (A := fun a => s.heap.size ≤ a) (fun i hi => by
      obtain rfl : i = 0 := by omega
      decide) (fun i hi => hs _ (by decide +kernel)) (fun i hi => hs _ (by decide +kernel)) (fun i hi => hs _ (by decide +kernel)) (fun i hi => by
      obtain rfl : i = 0 := by omega
      exact hs _ (by decide +kernel)) (fun i hi j hj => by
      obtain rfl : i = 0 := by omega
      exact hs _ (mem j hj)) (fun i j hi hj hij => by omega) hA
  refine ⟨adK 0, adV 0, ⟨fun i hi => ?_, fun i j hi hj _ => by omega⟩, ?_, ?_, ?_⟩
  · obtain rfl : i = 0 := by omega
    exact h1.1 0 (by decide)
  · exact va_Zof (hts _ (List.mem_of_getElem? (i := 205) (by decide +kernel))) (hz _ (z_mem 53 (by decide +kernel) rfl)) (va_eqi (hs _ (by decide +kernel))) hA
  · exact va_Zqof (hts _ (List.mem_of_getElem? (i := 221) (by decide +kernel))) (hz _ (z_mem 55 (by decide +kernel) rfl)) (hs _ (by decide +kernel)) hA
  · exact vk_R.of (hts _ (List.mem_of_getElem? (i := 195) (by decide +kernel))) (h2 0 (by decide))
