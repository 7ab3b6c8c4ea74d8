/-! longs as sets of cells -/
def s_bit (b : Int64) (y : Int) : Prop := b.toBitVec.getLsbD y.toNat = true
theorem s_bit_or (a b : Int64) (y : Int) : s_bit (a ||| b) y ↔ s_bit a y ∨ s_bit b y := by
  unfold s_bit
  rw [Int64.toBitVec_or, BitVec.getLsbD_or, Bool.or_eq_true]
theorem s_bit_and (a b : Int64) (y : Int) : s_bit (a &&& b) y ↔ s_bit a y ∧ s_bit b y := by
  unfold s_bit
  rw [Int64.toBitVec_and, BitVec.getLsbD_and, Bool.and_eq_true]
theorem s_bit_0 (y : Int) : ¬ s_bit 0 y := by
  unfold s_bit
  intro h
  rw [show (0 : Int64).toBitVec = 0#64 from rfl, BitVec.getLsbD_zero] at h
  cases h
theorem s_one : ∀ k : Nat, k < 64 → (z_lshl (1 : Int64) (k : Int)).toBitVec = BitVec.twoPow 64 k := by decide +kernel
theorem s_bit_one {x y : Int} (hx : 0 ≤ x ∧ x < 64) (hy : 0 ≤ y) : s_bit (z_lshl (1 : Int64) x) y ↔ y = x := by
  obtain ⟨k, rfl⟩ := Int.eq_ofNat_of_zero_le hx.1
  obtain ⟨j, rfl⟩ := Int.eq_ofNat_of_zero_le hy
  have hk : k < 64 := by omega
  unfold s_bit
  rw [s_one k hk, BitVec.getLsbD_twoPow]
  simp only [Int.toNat_natCast, Bool.and_eq_true, decide_eq_true_eq]
  omega
theorem s_bit_not {x y : Int} (hx : 0 ≤ x ∧ x < 64) (hy : 0 ≤ y ∧ y < 64) : s_bit ((z_lshl (1 : Int64) x) ^^^ (-1 : Int64)) y ↔ y ≠ x := by
  obtain ⟨k, rfl⟩ := Int.eq_ofNat_of_zero_le hx.1
  obtain ⟨j, rfl⟩ := Int.eq_ofNat_of_zero_le hy.1
  have hk : k < 64 := by omega
  have hj : j < 64 := by omega
  have ha : (-1 : Int64).toBitVec = BitVec.allOnes 64 := by decide
  unfold s_bit
  rw [Int64.toBitVec_xor, s_one k hk, ha, BitVec.getLsbD_xor, BitVec.getLsbD_twoPow, BitVec.getLsbD_allOnes]
  simp only [Int.toNat_natCast, hj, hk, decide_true, Bool.true_and]
  by_cases e : k = j
  · subst e; simp
  · simp [e]; omega
theorem s_cnt : ∀ k : Nat, k < 64 → (((Int32.ofInt (k : Int)).toInt64 &&& 63).toBitVec.smod 64).toNat = k := by decide +kernel
theorem s_lcmp (a b : Int64) : z_lcmp a b = 0 ↔ a = b := by
  unfold z_lcmp
  rw [← lg_cmp_eq a b]
  constructor
  · intro h
    exact Int32.toInt_inj.mp (by rw [h]; rfl)
  · intro h
    rw [h]; rfl
theorem s_tst {r : Int64} {x : Int} (hx : 0 ≤ x ∧ x < 64) : z_lcmp ((z_lshr r x) &&& (1 : Int64)) (1 : Int64) = 0 ↔ s_bit r x := by
  obtain ⟨k, rfl⟩ := Int.eq_ofNat_of_zero_le hx.1
  have hk : k < 64 := by omega
  rw [s_lcmp]
  have e : (z_lshr r (k : Int)).toBitVec.getLsbD 0 = r.toBitVec.getLsbD k := by
    unfold z_lshr
    rw [Int64.toBitVec_shiftRight]
    show (r.toBitVec.sshiftRight (((Int32.ofInt (k : Int)).toInt64 &&& 63).toBitVec.smod 64).toNat).getLsbD 0 = _
    rw [s_cnt k hk, BitVec.getLsbD_sshiftRight]
    simp [hk]
  unfold s_bit
  rw [Int.toNat_natCast, ← e, ← Int64.toBitVec_inj, Int64.toBitVec_and]
  generalize (z_lshr r (k : Int)).toBitVec = w
  show w &&& 1#64 = 1#64 ↔ _
  constructor
  · intro h
    have t := congrArg (fun x => x.getLsbD 0) h
    simpa using t
  · intro h
    apply BitVec.eq_of_getLsbD_eq
    intro i hi
    cases i with
    | zero => simp [h]
    | succ i => simp
theorem s_empty {r : Int64} : r = 0 ↔ ∀ y : Int, 0 ≤ y → y < 64 → ¬ s_bit r y := by
  constructor
  · rintro rfl y _ _
    exact s_bit_0 y
  · intro h
    rw [← Int64.toBitVec_inj]
    apply BitVec.eq_of_getLsbD_eq
    intro i hi
    have := h (i : Int) (by omega) (by omega)
    unfold s_bit at this
    rw [Int.toNat_natCast] at this
    rw [show (0 : Int64).toBitVec = 0#64 from rfl, BitVec.getLsbD_zero]
    simpa using this
