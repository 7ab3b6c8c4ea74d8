/-! FLOW: where a drop goes, one step, one round -/
def s_lv (h D : Int → Int) (x : Int) : Int := h x + D x
def s_bc (nb : Int → Int → Int) (K h D : Int → Int) (x s : Int) (p : Int × Int) : Int × Int := if 0 < D x ∧ 0 ≤ nb x s ∧ s_lv h D (nb x s) + (if K (nb x s) = 2 then 1 else 2) ≤ s_lv h D x ∧ (p.1 < 0 ∨ s_lv h D (nb x s) ≤ p.2) then (nb x s, s_lv h D (nb x s)) else p
def s_tgt (nb : Int → Int → Int) (K h D : Int → Int) (x : Int) : Int := (s_bc nb K h D x 0 (s_bc nb K h D x 1 (s_bc nb K h D x 2 (s_bc nb K h D x 3 (-1, 0))))).1
def s_fc (nb : Int → Int → Int) (K h D : Int → Int) (x s : Int) (p : Int × Int) : Int × Int := if 0 ≤ nb x s ∧ (s_lv h D (nb x s) ≤ s_lv h D x - 2 ∨ K (nb x s) = 2) ∧ s_lv h D (nb x s) < p.2 then (nb x s, s_lv h D (nb x s)) else p
def s_drop (K D : Int → Int) (x t : Int) : Int → Int := if K t ≠ 2 ∧ z_up D x (D x - 1) t < 60 then z_up (z_up D x (D x - 1)) t (z_up D x (D x - 1) t + 1) else z_up D x (D x - 1)
def s_step (nb : Int → Int → Int) (K h D : Int → Int) (x : Int) : Int → Int := if s_tgt nb K h D x < 0 then D else s_drop K D x (s_tgt nb K h D x)
def s_rd (nb : Int → Int → Int) (K h : Int → Int) : Nat → (Int → Int) → (Int → Int)
  | 0, D => D
  | k + 1, D => s_step nb K h (s_rd nb K h k D) k
/-- a water that can lie: heights and drops in their bounds, none where none can be -/
def s_ok (n : Int) (K h D : Int → Int) : Prop := ∀ x, 0 ≤ x → x < 36 → (0 ≤ h x ∧ h x ≤ 20) ∧ (0 ≤ D x ∧ D x ≤ 60) ∧ ((n ≤ x ∨ K x = 2 ∨ K x = 3) → D x = 0)
def s_nbok (n : Int) (nb : Int → Int → Int) (K : Int → Int) : Prop := ∀ x s, nb x s = -1 ∨ (0 ≤ nb x s ∧ nb x s < n ∧ K (nb x s) ≠ 3)
theorem s_scan (y0 y1 y2 y3 l0 l1 l2 l3 L : Int) (v0 v1 v2 v3 : Prop) [Decidable v0] [Decidable v1] [Decidable v2] [Decidable v3] (h0 : v0 → 0 ≤ y0 ∧ l0 < L) (h1 : v1 → 0 ≤ y1 ∧ l1 < L) (h2 : v2 → 0 ≤ y2 ∧ l2 < L) (h3 : v3 → 0 ≤ y3 ∧ l3 < L) (t3 t2 t1 t0 b0 b1 b2 b3 : Int × Int) (e3 : t3 = if v3 then (y3, l3) else (-1, 0)) (e2 : t2 = if v2 ∧ (t3.1 < 0 ∨ l2 ≤ t3.2) then (y2, l2) else t3) (e1 : t1 = if v1 ∧ (t2.1 < 0 ∨ l1 ≤ t2.2) then (y1, l1) else t2) (e0 : t0 = if v0 ∧ (t1.1 < 0 ∨ l0 ≤ t1.2) then (y0, l0) else t1)
    (f0 : b0 = if v0 ∧ l0 < L then (y0, l0) else (-4, L)) (f1 : b1 = if v1 ∧ l1 < b0.2 then (y1, l1) else b0) (f2 : b2 = if v2 ∧ l2 < b1.2 then (y2, l2) else b1) (f3 : b3 = if v3 ∧ l3 < b2.2 then (y3, l3) else b2) : b3.1 = if t0.1 < 0 then -4 else t0.1 := by
  by_cases g0 : v0 <;> by_cases g1 : v1 <;> by_cases g2 : v2 <;> by_cases g3 : v3 <;> simp only [g0, g1, g2, g3, true_and, false_and, if_true, if_false] at * <;> subst e3 <;> grind (splits := 40)
theorem p_where_step (N : Nat) (nb : Int → Int → Int) (K h D be : Int → Int) (n : Int) (hn : 0 ≤ n ∧ n ≤ 36) (hok : s_ok n K h D) (hnb : s_nbok n nb K) (x s : Int) (hx : 0 ≤ x ∧ x < n) (hs : 0 ≤ s ∧ s ≤ 3) (hbe : be (x * 4 + s) = s_be (nb x s)) (f : Nat) (p : Int × Int) : m_X4_whereTo_l1 N (x * 4) be h D (h x + D x) K (f + 1) p.1 p.2 (x * 4 + s) = m_X4_whereTo_l1 N (x * 4) be h D (h x + D x) K f (s_fc nb K h D x s p).1 (s_fc nb K h D x s p).2 (x * 4 + (s + 1)) := by
  rw [m_X4_whereTo_l1, hbe]
  have q1 := hok x hx.1 (by omega)
  have q2 := hnb x s
  unfold s_fc s_be s_lv
  generalize nb x s = y at *
  rw [z_chk_pos (by omega), if_neg (by omega), z_chk_pos (by omega)]
  rw [show x * 4 + (s + 1) = x * 4 + s + 1 by omega]
  rcases q2 with q2 | q2
  · subst q2
    simp (disch := omega) only [if_pos, if_neg, z_chk_pos]
  · have q3 := hok y q2.1 (by omega)
    rw [if_neg (show ¬ y < 0 by omega), if_neg (show ¬ y < 0 by omega), if_neg (show ¬ 36 ≤ y by omega)]
    rw [z_chk_pos (by omega), z_chk_pos (by omega), z_chk_pos (by omega), z_chk_pos (by omega)]
    grind (splits := 40) [z_chk, p_b1]
theorem p_whereTo (N : Nat) (hN : 10 ≤ N) (nb : Int → Int → Int) (K h D be : Int → Int) (n : Int) (hn : 0 ≤ n ∧ n ≤ 36) (hok : s_ok n K h D) (hnb : s_nbok n nb K) (x : Int) (hx : 0 ≤ x ∧ x < n) (hbe : ∀ s, 0 ≤ s → s ≤ 3 → be (x * 4 + s) = s_be (nb x s)) : m_X4_whereTo N h D n K be x = some (if s_tgt nb K h D x < 0 then -4 else s_tgt nb K h D x) := by
  have q1 := hok x hx.1 (by omega)
  obtain ⟨M, rfl⟩ : ∃ M, N = M + 5 := ⟨N - 5, by omega⟩
  have st := fun s hs f p => p_where_step (M + 5) nb K h D be n hn hok hnb x s hx hs (hbe s hs.1 hs.2) f p
  unfold m_X4_whereTo
  have e0 : m_X0_holds (M + 5) n x = some 1 := by rw [p_holds, if_pos (by omega)]
  rw [e0, z_chk_pos (by omega), p_b1, if_neg (by decide), z_chk_pos (by omega)]
  by_cases hd : D x ≤ 0
  · rw [if_pos hd]
    have : s_tgt nb K h D x = -1 := by
      unfold s_tgt
      have e : ∀ s p, s_bc nb K h D x s p = p := fun s p => if_neg (by omega)
      rw [e, e, e, e]
    rw [this]
    rfl
  · rw [if_neg hd, z_chk_pos (by omega), if_pos (by omega), z_chk_pos (by omega), z_chk_pos (by omega), z_chk_pos (by omega)]
    have e1 := st 0 (by omega) (M + 4) (-4, h x + D x)
    have e2 := fun p => st 1 (by omega) (M + 3) p
    have e3 := fun p => st 2 (by omega) (M + 2) p
    have e4 := fun p => st 3 (by omega) (M + 1) p
    simp only [Int.add_zero, Int.zero_add, show (1 : Int) + 1 = 2 from rfl, show (2 : Int) + 1 = 3 from rfl, show (3 : Int) + 1 = 4 from rfl] at e1 e2 e3 e4
    show z_b1 (m_X4_whereTo_l1 (M + 5) (x * 4) be h D (h x + D x) K (M + 4 + 1) (-4, h x + D x).1 (-4, h x + D x).2 (x * 4)) _ = _
    rw [e1, e2, e3, e4, m_X4_whereTo_l1, z_chk_pos (by omega), if_pos (by omega), p_b1]
    congr 1
    have vv : ∀ s, (0 ≤ nb x s ∧ (s_lv h D (nb x s) ≤ s_lv h D x - 2 ∨ K (nb x s) = 2) ∧ s_lv h D (nb x s) < s_lv h D x) ↔ (0 ≤ nb x s ∧ s_lv h D (nb x s) + (if K (nb x s) = 2 then 1 else 2) ≤ s_lv h D x) := fun s => by
      by_cases hk : K (nb x s) = 2
      · rw [if_pos hk]; omega
      · rw [if_neg hk]; omega
    have fc : ∀ s p, p.2 ≤ s_lv h D x → s_fc nb K h D x s p = if (0 ≤ nb x s ∧ s_lv h D (nb x s) + (if K (nb x s) = 2 then 1 else 2) ≤ s_lv h D x) ∧ s_lv h D (nb x s) < p.2 then (nb x s, s_lv h D (nb x s)) else p := fun s p hp => by
      unfold s_fc
      have := vv s
      congr 1
      apply propext
      constructor
      · intro q
        exact ⟨this.mp ⟨q.1, q.2.1, by omega⟩, q.2.2⟩
      · intro q
        have z := this.mpr q.1
        exact ⟨z.1, z.2.1, q.2⟩
    have fl : ∀ s p, p.2 ≤ s_lv h D x → (s_fc nb K h D x s p).2 ≤ s_lv h D x := fun s p hp => by
      unfold s_fc
      split
      · omega
      · exact hp
    have bc : ∀ s p, s_bc nb K h D x s p = if (0 ≤ nb x s ∧ s_lv h D (nb x s) + (if K (nb x s) = 2 then 1 else 2) ≤ s_lv h D x) ∧ (p.1 < 0 ∨ s_lv h D (nb x s) ≤ p.2) then (nb x s, s_lv h D (nb x s)) else p := fun s p => by
      unfold s_bc
      congr 1
      apply propext
      constructor
      · intro q
        exact ⟨⟨q.2.1, q.2.2.1⟩, q.2.2.2⟩
      · intro q
        exact ⟨by omega, q.1.1, q.1.2, q.2⟩
    have hv : ∀ s, (0 ≤ nb x s ∧ s_lv h D (nb x s) + (if K (nb x s) = 2 then 1 else 2) ≤ s_lv h D x) → 0 ≤ nb x s ∧ s_lv h D (nb x s) < s_lv h D x := fun s q => by
      have z := (vv s).mpr q
      exact ⟨z.1, z.2.2⟩
    have p0 : ((-4, h x + D x) : Int × Int).2 ≤ s_lv h D x := Int.le_refl _
    have p1 := fl 0 _ p0
    have p2 := fl 1 _ p1
    have p3 := fl 2 _ p2
    unfold s_tgt
    exact s_scan _ _ _ _ _ _ _ _ (s_lv h D x) _ _ _ _ (hv 0) (hv 1) (hv 2) (hv 3) _ _ _ _ _ _ _ _ (by rw [bc]; simp) (bc 2 _) (bc 1 _) (bc 0 _) (fc 0 _ p0) (fc 1 _ p1) (fc 2 _ p2) (fc 3 _ p3)
