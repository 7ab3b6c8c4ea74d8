/-! the text, held in two arrays that agree as far as it goes -/
def s_tt (T T6 : Int → Int) (n : Int) : Prop := s_tx T n ∧ ∀ j, 0 ≤ j → j < n → T6 j = T j
theorem p6_letterAt2 (N : Nat) {T T6 : Int → Int} {n : Int} (h : ∀ j, 0 ≤ j → j < n → T6 j = T j) (a : Int) : m_X6_letterAt N T6 n a = m_X6_letterAt N T n a := by
  rw [m_X6_letterAt, m_X6_letterAt]
  by_cases h1 : n ≤ a
  · rw [if_pos h1, if_pos h1]
  · rw [if_neg h1, if_neg h1]
    unfold z_chk
    by_cases h2 : 0 ≤ a ∧ a < 200
    · rw [if_pos h2, if_pos h2, h a h2.1 (by omega)]
    · rw [if_neg h2, if_neg h2]
theorem p6_number2 (N : Nat) {T T6 : Int → Int} {n : Int} (h : ∀ j, 0 ≤ j → j < n → T6 j = T j) (a lo hi c : Int) : m_X6_number N T6 n a lo hi c = m_X6_number N T n a lo hi c := by
  simp only [m_X6_number, p6_letterAt2 N h]
theorem p6_readsItem2 (N : Nat) {T T6 : Int → Int} {n : Int} (h : ∀ j, 0 ≤ j → j < n → T6 j = T j) (d b : Int → Int) (a l : Int) : m_X6_readsItem N T6 n d b a l = m_X6_readsItem N T n d b a l := by
  simp only [m_X6_readsItem, p6_number2 N h]
theorem p6_readsAll_l1 (N : Nat) {T T6 : Int → Int} {n : Int} (h : ∀ j, 0 ≤ j → j < n → T6 j = T j) : ∀ (f : Nat) (d b : Int → Int) (a : Int), m_X6_readsAll_l1 N n T6 f d b a = m_X6_readsAll_l1 N n T f d b a := by
  intro f
  induction f with
  | zero => intro d b a; rfl
  | succ f ih =>
    intro d b a
    rw [m_X6_readsAll_l1, m_X6_readsAll_l1]
    by_cases h1 : n ≤ a
    · rw [if_pos h1, if_pos h1]
    · rw [if_neg h1, if_neg h1]
      by_cases h2 : 0 ≤ a ∧ a < 200
      · rw [h a h2.1 (by omega), z_chk_pos (by omega), z_chk_pos (by omega), z_chk_pos (by omega), z_chk_pos (by omega), p6_readsItem2 N h]
        have e : (fun (r7 : Int) (r_draft_8 : (Int → Int)) (r_begun_9 : (Int → Int)) (r_at_10 : Int) => if r7 ≠ 0 then (m_X6_readsAll_l1 N n T6 f r_draft_8 r_begun_9 r_at_10) else (some (a, r_draft_8, r_begun_9, r_at_10))) = (fun (r7 : Int) (r_draft_8 : (Int → Int)) (r_begun_9 : (Int → Int)) (r_at_10 : Int) => if r7 ≠ 0 then (m_X6_readsAll_l1 N n T f r_draft_8 r_begun_9 r_at_10) else (some (a, r_draft_8, r_begun_9, r_at_10))) := by
          funext r d b a2
          rw [ih]
        rw [e]
      · have e : ∀ {α : Type} (k : Option α), z_chk (0 ≤ a ∧ a < 200) k = none := fun k => if_neg h2
        rw [e, e]
theorem p6_readsAll2 (N : Nat) {T T6 : Int → Int} {n : Int} (h : ∀ j, 0 ≤ j → j < n → T6 j = T j) (d b : Int → Int) (a : Int) : m_X6_readsAll N T6 n d b a = m_X6_readsAll N T n d b a := by
  simp only [m_X6_readsAll, p6_readsAll_l1 N h]
theorem p6_fault2 (N : Nat) {T T6 : Int → Int} {n : Int} (h : ∀ j, 0 ≤ j → j < n → T6 j = T j) (d b : Int → Int) (a : Int) : m_X6_fault N T6 n d b a = m_X6_fault N T n d b a := by
  rw [m_X6_fault, m_X6_fault, p6_readsAll2 N h]
theorem p6_lay2 (N : Nat) {T T6 : Int → Int} {n : Int} (h : ∀ j, 0 ≤ j → j < n → T6 j = T j) (t d b s : Int → Int) (k1 k2 k3 a : Int) : m_X6_lay N T6 n t d b s k1 k2 k3 a = m_X6_lay N T n t d b s k1 k2 k3 a := by
  rw [m_X6_lay, m_X6_lay, p6_readsAll2 N h]
theorem o_write2 (N : Nat) (T T6 : Int → Int) (n x1 : Int) (ht : s_tt T T6 n) : ∃ a T' T6' n', m_X5_write N T n x1 = some (a, T', n') ∧ m_X6_write N T6 n x1 = some (a, T6', n') ∧ s_tt T' T6' n' := by
  obtain ⟨a, T', n', e1, e2, h⟩ := o_write N T n x1 ht.1
  have nn := ht.1.1
  rw [m_X6_write, p_in, p_b1] at e2
  rw [e1, m_X6_write, p_in, p_b1]
  by_cases h1 : 32 ≤ x1 ∧ x1 ≤ 126
  · rw [if_pos h1, if_pos p_t1] at e2 ⊢
    by_cases h2 : n ≠ 200
    · rw [if_pos h2, z_chk_pos (by omega), z_chk_pos (by omega)] at e2 ⊢
      cases e2
      refine ⟨_, _, _, _, rfl, rfl, h, fun j p q => ?_⟩
      unfold z_up
      by_cases w : j = n
      · rw [if_pos w, if_pos w]
      · rw [if_neg w, if_neg w]; exact ht.2 j p (by omega)
    · rw [if_neg h2] at e2 ⊢
      cases e2
      exact ⟨_, _, _, _, rfl, rfl, ht⟩
  · rw [if_neg h1, if_neg p_f0] at e2 ⊢
    cases e2
    exact ⟨_, _, _, _, rfl, rfl, ht⟩
