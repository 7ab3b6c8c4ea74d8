/-! the text -/
theorem p_b6 {α β γ ε ζ η δ : Type} (a : α) (b : β) (c : γ) (d : ε) (e : ζ) (g : η) (f : α → β → γ → ε → ζ → η → Option δ) : z_b6 (some (a, b, c, d, e, g)) f = f a b c d e g := rfl
theorem p_b5 {α β γ ε ζ δ : Type} (a : α) (b : β) (c : γ) (d : ε) (e : ζ) (f : α → β → γ → ε → ζ → Option δ) : z_b5 (some (a, b, c, d, e)) f = f a b c d e := rfl
abbrev s_fig (T : Int → Int) (n a : Int) : Prop := a < n ∧ 48 ≤ T a ∧ T a ≤ 57
def s_num (T : Int → Int) (n a : Int) : Int × Int := if s_fig T n a then (if s_fig T n (a + 1) then ((T a - 48) * 10 + (T (a + 1) - 48), a + 2) else (T a - 48, a + 1)) else (-4, a)
def s_tx (T : Int → Int) (n : Int) : Prop := (0 ≤ n ∧ n ≤ 200) ∧ ∀ j, 0 ≤ j → j < n → 32 ≤ T j ∧ T j ≤ 126
theorem s_num_or (T : Int → Int) (n a : Int) (ht : s_tx T n) (ha : 0 ≤ a) : (s_num T n a).2 ≤ a + 2 ∧ a ≤ (s_num T n a).2 ∧ ((s_fig T n a ∧ 0 ≤ (s_num T n a).1 ∧ (s_num T n a).1 ≤ 99 ∧ (s_num T n a).2 ≤ n) ∨ (¬ s_fig T n a ∧ s_num T n a = (-4, a))) := by
  unfold s_num
  by_cases h : s_fig T n a
  · rw [if_pos h]
    by_cases h2 : s_fig T n (a + 1)
    · rw [if_pos h2]
      unfold s_fig at h h2
      refine ⟨by show a + 2 ≤ a + 2; omega, by show a ≤ a + 2; omega, Or.inl ⟨h, ?_, ?_, ?_⟩⟩
      · show 0 ≤ (T a - 48) * 10 + (T (a + 1) - 48); omega
      · show (T a - 48) * 10 + (T (a + 1) - 48) ≤ 99; omega
      · show a + 2 ≤ n; omega
    · rw [if_neg h2]
      have h' := h
      unfold s_fig at h
      refine ⟨by show a + 1 ≤ a + 2; omega, by show a ≤ a + 1; omega, Or.inl ⟨h', ?_, ?_, ?_⟩⟩
      · show 0 ≤ T a - 48; omega
      · show T a - 48 ≤ 99; omega
      · show a + 1 ≤ n; omega
  · rw [if_neg h]
    exact ⟨by show a ≤ a + 2; omega, by show a ≤ a; omega, Or.inr ⟨h, rfl⟩⟩
theorem p_peek (N : Nat) (T : Int → Int) (n a : Int) (ht : s_tx T n) (ha : 0 ≤ a) : m_X3_peek N T n a = some (if a < n then T a else -4) := by
  have := ht.1
  rw [m_X3_peek, if_neg (by omega)]
  by_cases h : a < n
  · rw [if_neg (by omega), if_neg (by omega), z_chk_pos (by omega), if_pos h]
  · rw [if_pos (by omega), if_neg h]
theorem p_nextFigure (N : Nat) (T : Int → Int) (n a : Int) (ht : s_tx T n) (ha : 0 ≤ a ∧ a ≤ 1000) : m_X3_nextFigure N T n a = some (if s_fig T n a then (T a - 48, a + 1) else (-4, a)) := by
  rw [m_X3_nextFigure, p_peek N T n a ht ha.1, p_b1, p_isFrom, p_b1]
  unfold s_fig
  by_cases h : a < n
  · rw [if_pos h]
    by_cases h2 : 48 ≤ T a ∧ T a ≤ 57
    · rw [if_pos h2, if_pos (by decide), z_chk_pos (by omega), z_chk_pos (by omega), if_pos ⟨h, h2⟩]
    · rw [if_neg h2, if_neg (by decide), if_neg (fun z => h2 z.2)]
  · rw [if_neg h, if_neg (show ¬((48 : Int) ≤ -4 ∧ (-4 : Int) ≤ 57) by decide), if_neg (show ¬((0 : Int) ≠ 0) by decide), if_neg (fun z : a < n ∧ _ => h z.1)]
theorem p_nextNumber (N : Nat) (T : Int → Int) (n a : Int) (ht : s_tx T n) (ha : 0 ≤ a ∧ a ≤ 900) : m_X3_nextNumber N T n a = some (s_num T n a) := by
  rw [m_X3_nextNumber, p_nextFigure N T n a ht (by omega)]
  unfold s_num
  by_cases h : s_fig T n a
  · have q := h
    unfold s_fig at q
    rw [if_pos h, p_b2, if_pos (by omega), p_nextFigure N T n (a + 1) ht (by omega), if_pos h]
    by_cases h2 : s_fig T n (a + 1)
    · have q2 := h2
      unfold s_fig at q2
      rw [if_pos h2, p_b2, p_b2, if_pos (by omega), z_chk_pos (by omega), z_chk_pos (by omega), if_pos h2]
      rw [show a + 1 + 1 = a + 2 by omega]
    · rw [if_neg h2, p_b2, p_b2, if_neg (by omega), if_neg h2]
  · rw [if_neg h, p_b2, if_neg (by omega), p_b2, if_neg (by omega), if_neg h]
theorem p_skip (N : Nat) (T : Int → Int) (n a c : Int) (ht : s_tx T n) (ha : 0 ≤ a ∧ a ≤ 900) (hc : 0 ≤ c) : m_X3_skip N T n a c = some (if a < n ∧ T a = c then (1, a + 1) else (0, a)) := by
  rw [m_X3_skip, p_peek N T n a ht ha.1, p_b1]
  by_cases h : a < n
  · rw [if_pos h]
    by_cases h2 : T a = c
    · rw [if_neg (fun z => z h2), p_b1, if_neg (by decide), z_chk_pos (by omega), if_pos ⟨h, h2⟩]
    · rw [if_pos h2, p_b1, if_pos rfl, if_neg (fun z => h2 z.2)]
  · rw [if_neg h, if_pos (by omega), p_b1, if_pos rfl, if_neg (fun z => h z.1)]
theorem p6_letterAt (N : Nat) (T : Int → Int) (n a : Int) (ht : s_tx T n) (ha : 0 ≤ a) : m_X6_letterAt N T n a = some (if a < n then T a else -1) := by
  have := ht.1
  rw [m_X6_letterAt]
  by_cases h : a < n
  · rw [if_neg (by omega), z_chk_pos (by omega), if_pos h]
  · rw [if_pos (by omega), if_neg h]
theorem p6_isFigure (N : Nat) (T : Int → Int) (n a : Int) : m_X6_isFigure N (if a < n then T a else -1) = some (if s_fig T n a then 1 else 0) := by
  rw [m_X6_isFigure, p_in, p_b1]
  unfold s_fig
  by_cases h : a < n
  · rw [if_pos h]
    by_cases h2 : 48 ≤ T a ∧ T a ≤ 57
    · rw [if_pos h2, if_pos ⟨h, h2⟩]
    · rw [if_neg h2, if_neg (fun z => h2 z.2)]
  · rw [if_neg h, if_neg (by omega), if_neg (fun z => h z.1)]
theorem p6_number (N : Nat) (T : Int → Int) (n a lo hi c : Int) (ht : s_tx T n) (ha : 0 ≤ a ∧ a ≤ 900) (hc : 0 ≤ c) : ∃ b, m_X6_number N T n a lo hi c = some (if s_fig T n a ∧ ((s_num T n a).2 < n ∧ T (s_num T n a).2 = c) ∧ lo ≤ (s_num T n a).1 ∧ (s_num T n a).1 ≤ hi then ((s_num T n a).1, (s_num T n a).2 + 1) else (-1, b)) ∧ 0 ≤ b ∧ b ≤ a + 3 := by
  have so := s_num_or T n a ht ha.1
  rw [m_X6_number, p6_letterAt N T n a ht ha.1, p_b1, p6_isFigure, p_b1]
  by_cases h : s_fig T n a
  · have q := h
    unfold s_fig at q
    have key : ∀ v b, (v, b) = s_num T n a → ∃ e, (z_b1 (m_X6_letterAt N T n b) fun (r24 : Int) => z_b1 (if r24 ≠ c then (some (0)) else (z_b1 (m_X6_in N v lo hi) (fun (r27 : Int) => if r27 = 0 then (some (0)) else (some (1))))) (fun (s30 : Int) => z_chk (z_n (b + 1)) (if s30 = 0 then (some (((-1) : Int), (b + 1))) else (some (v, (b + 1)))))) = some (if s_fig T n a ∧ ((s_num T n a).2 < n ∧ T (s_num T n a).2 = c) ∧ lo ≤ (s_num T n a).1 ∧ (s_num T n a).1 ≤ hi then ((s_num T n a).1, (s_num T n a).2 + 1) else (-1, e)) ∧ 0 ≤ e ∧ e ≤ a + 3 := by
      intro v b hvb
      rw [← hvb] at so ⊢
      have so1 : b ≤ a + 2 := so.1
      have so2 : a ≤ b := so.2.1
      refine ⟨b + 1, ?_, by omega, by omega⟩
      show _ = some (if s_fig T n a ∧ (b < n ∧ T b = c) ∧ lo ≤ v ∧ v ≤ hi then (v, b + 1) else (-1, b + 1))
      rw [p6_letterAt N T n b ht (by omega), p_b1]
      by_cases hb : b < n
      · rw [if_pos hb]
        by_cases hT : T b = c
        · rw [if_neg (fun z => z hT), p_in, p_b1]
          by_cases hl : lo ≤ v ∧ v ≤ hi
          · rw [if_pos hl, if_neg (by decide), p_b1, z_chk_pos (by omega), if_neg (by decide), if_pos ⟨h, ⟨hb, hT⟩, hl⟩]
          · rw [if_neg hl, if_pos rfl, p_b1, z_chk_pos (by omega), if_pos rfl, if_neg (fun z => hl z.2.2)]
        · rw [if_pos hT, p_b1, z_chk_pos (by omega), if_pos rfl, if_neg (fun z => hT z.2.1.2)]
      · rw [if_neg hb, if_pos (by omega), p_b1, z_chk_pos (by omega), if_pos rfl, if_neg (fun z => hb z.2.1.1)]
    rw [if_pos h, if_pos (by decide), p_b1, if_pos q.1, z_chk_pos (by omega), z_chk_pos (by omega), p6_letterAt N T n (a + 1) ht (by omega), p_b1, p6_isFigure, p_b1]
    by_cases h2 : s_fig T n (a + 1)
    · have q2 := h2
      unfold s_fig at q2
      rw [if_pos h2, if_neg (by decide), z_chk_pos (by omega), p_b1, if_pos q2.1, z_chk_pos (by omega), z_chk_pos (by omega), z_chk_pos (by omega), p_b2]
      refine key _ _ ?_
      unfold s_num
      rw [if_pos h, if_pos h2]
      congr 1
      · omega
      · omega
    · rw [if_neg h2, if_pos rfl, p_b2]
      refine key _ _ ?_
      unfold s_num
      rw [if_pos h, if_neg h2]
  · rw [if_neg h, if_neg (by decide)]
    exact ⟨a, by rw [if_neg (fun z => h z.1)], by omega, by omega⟩
/-- one item of the text that begins at a: its letter, its two numbers and where the next begins -/
def s_item (T : Int → Int) (n a : Int) (x y e : Int) : Prop :=
  s_fig T n (a + 1) ∧ x = (s_num T n (a + 1)).1 ∧ ((s_num T n (a + 1)).2 < n ∧ T (s_num T n (a + 1)).2 = 44) ∧
  s_fig T n ((s_num T n (a + 1)).2 + 1) ∧ y = (s_num T n ((s_num T n (a + 1)).2 + 1)).1 ∧ ((s_num T n ((s_num T n (a + 1)).2 + 1)).2 < n ∧ T (s_num T n ((s_num T n (a + 1)).2 + 1)).2 = 59) ∧ e = (s_num T n ((s_num T n (a + 1)).2 + 1)).2 + 1
theorem s_item_b {T : Int → Int} {n a x y e : Int} (ht : s_tx T n) (ha : 0 ≤ a) (h : s_item T n a x y e) : (0 ≤ x ∧ x ≤ 99) ∧ (0 ≤ y ∧ y ≤ 99) ∧ a + 1 ≤ e ∧ e ≤ n := by
  obtain ⟨h1, h2, h3, h4, h5, h6, h7⟩ := h
  have a1 := s_num_or T n (a + 1) ht (by omega)
  have b1 := a1.2.2.resolve_right (fun z => z.1 h1)
  have a2 := s_num_or T n ((s_num T n (a + 1)).2 + 1) ht (by omega)
  have b2 := a2.2.2.resolve_right (fun z => z.1 h4)
  omega
/-- how the text is read: what stands of the cells before an item -/
def s_dr (R C os : Int) (K h D d b : Int → Int) : Prop := s_dim R C ∧ d 0 = R ∧ d 1 = C ∧ ((os = 1 ∧ d 2 = 0 ∧ ∀ i, 0 ≤ i → i < 36 → D i = 0) ∨ (os = 0 ∧ d 2 = 1)) ∧ (∀ i, 0 ≤ i → i < 36 → d (3 + i) = K i ∧ b i = D i ∧ b (36 + i) = h i ∧ (0 ≤ K i ∧ K i ≤ 4) ∧ (0 ≤ h i ∧ h i ≤ 20) ∧ (0 ≤ D i ∧ D i ≤ 20) ∧ (R * C ≤ i → D i = 0 ∧ K i = 0)) ∧ b 72 = 0 ∧ (os = 1 → ∀ i, 0 ≤ i → i < 36 → K i = 0)
/-- the item may be told -/
def s_okI (R C os l x y : Int) : Prop := (l = 115 ∧ os = 1 ∧ (2 ≤ x ∧ x ≤ 6) ∧ 2 ≤ y ∧ y ≤ 6) ∨ (l = 104 ∧ x < R * C ∧ y ≤ 20) ∨ (l = 107 ∧ x < R * C ∧ y ≤ 4) ∨ (l = 119 ∧ x < R * C ∧ y ≤ 20)
theorem p_tell (N : Nat) (n : Int) (K h D : Int → Int) (l x y : Int) (hn : n ≤ 36) (hx : 0 ≤ x) (hy : 0 ≤ y) : m_X3_tellCell N n K h D l x y = if l = 104 ∧ x < n ∧ y ≤ 20 then some (1, K, z_up h x y, D) else if l = 107 ∧ x < n ∧ y ≤ 4 then some (1, z_up K x y, h, D) else if l = 119 ∧ x < n ∧ y ≤ 20 then some (1, K, h, z_up D x y) else some (0, K, h, D) := by
  rw [m_X3_tellCell, p_holds, p_b1]
  by_cases hxn : x < n
  · rw [if_pos (show 0 ≤ x ∧ x < n ∧ x < 36 by omega), if_pos (by decide)]
    by_cases l1 : l = 104
    · subst l1
      rw [if_neg (by decide), p_isFrom, p_b1]
      by_cases y1 : y ≤ 20
      · rw [if_pos (show 0 ≤ y ∧ y ≤ 20 by omega), if_neg (by decide), z_chk_pos (by omega), if_pos ⟨rfl, hxn, y1⟩]
      · rw [if_neg (show ¬(0 ≤ y ∧ y ≤ 20) by omega), if_pos rfl, if_pos (by decide), if_pos (by decide), if_neg (by omega), if_neg (by omega), if_neg (by omega)]
    · rw [if_pos l1]
      by_cases l2 : l = 107
      · subst l2
        rw [if_neg (by decide), p_isFrom, p_b1]
        by_cases y1 : y ≤ 4
        · rw [if_pos (show 0 ≤ y ∧ y ≤ 4 by omega), if_neg (by decide), z_chk_pos (by omega), if_neg (by omega), if_pos ⟨rfl, hxn, y1⟩]
        · rw [if_neg (show ¬(0 ≤ y ∧ y ≤ 4) by omega), if_pos rfl, if_pos (by decide), if_neg (by omega), if_neg (by omega), if_neg (by omega)]
      · rw [if_pos l2]
        by_cases l3 : l = 119
        · subst l3
          rw [if_neg (by decide), p_isFrom, p_b1]
          by_cases y1 : y ≤ 20
          · rw [if_pos (show 0 ≤ y ∧ y ≤ 20 by omega), if_neg (by decide), z_chk_pos (by omega), if_neg (by omega), if_neg (by omega), if_pos ⟨rfl, hxn, y1⟩]
          · rw [if_neg (show ¬(0 ≤ y ∧ y ≤ 20) by omega), if_pos rfl, if_neg (by omega), if_neg (by omega), if_neg (by omega)]
        · rw [if_pos l3, if_neg (by omega), if_neg (by omega), if_neg (by omega)]
  · rw [if_neg (show ¬(0 ≤ x ∧ x < n ∧ x < 36) by omega), if_neg (by decide), if_neg (by omega), if_neg (by omega), if_neg (by omega)]
theorem p_shape (N : Nat) (R C n x y : Int) : m_X0_shape N R C n x y = if (2 ≤ x ∧ x ≤ 6) ∧ 2 ≤ y ∧ y ≤ 6 then some (1, x, y, x * y) else some (0, R, C, n) := by
  rw [m_X0_shape, p_isFrom, p_b1]
  by_cases h : 2 ≤ x ∧ x ≤ 6
  · rw [if_pos h, if_neg (by decide), p_isFrom, p_b1]
    by_cases h2 : 2 ≤ y ∧ y ≤ 6
    · have : 0 ≤ x * y ∧ x * y ≤ 36 := by
        have q : x = 2 ∨ x = 3 ∨ x = 4 ∨ x = 5 ∨ x = 6 := by omega
        rcases q with rfl | rfl | rfl | rfl | rfl <;> omega
      rw [if_pos h2, if_pos (by decide), z_chk_pos (by omega), if_pos ⟨h, h2⟩]
    · rw [if_neg h2, if_neg (by decide), if_neg (fun z => h2 z.2)]
  · rw [if_neg h, if_pos rfl, if_neg (fun z => h z.1)]
theorem p6_itemS (N : Nat) (T d b : Int → Int) (n a : Int) (ht : s_tx T n) (ha : 0 ≤ a ∧ a ≤ 400) : (∃ x y e, s_item T n a x y e ∧ (2 ≤ x ∧ x ≤ 6) ∧ (2 ≤ y ∧ y ≤ 6) ∧ d 2 = 0 ∧ m_X6_readsItem N T n d b (a + 1) 115 = some (1, z_up (z_up d 0 x) 1 y, b, e)) ∨ ((∀ x y e, s_item T n a x y e → ¬ ((2 ≤ x ∧ x ≤ 6) ∧ (2 ≤ y ∧ y ≤ 6) ∧ d 2 = 0)) ∧ ∃ d' b' a', m_X6_readsItem N T n d b (a + 1) 115 = some (0, d', b', a')) := by
  have so := s_num_or T n (a + 1) ht (by omega)
  obtain ⟨b1, e1, i1⟩ := p6_number N T n (a + 1) 2 6 44 ht (by omega) (by omega)
  have d2 : ∀ x y, z_up (z_up d 0 x) 1 y 2 = d 2 := fun x y => rfl
  rw [m_X6_readsItem, if_neg (by decide), e1]
  by_cases c1 : s_fig T n (a + 1) ∧ ((s_num T n (a + 1)).2 < n ∧ T (s_num T n (a + 1)).2 = 44) ∧ 2 ≤ (s_num T n (a + 1)).1 ∧ (s_num T n (a + 1)).1 ≤ 6
  · have g := so.2.2.resolve_right (fun z => z.1 c1.1)
    obtain ⟨b2, e2, i2⟩ := p6_number N T n ((s_num T n (a + 1)).2 + 1) 2 6 59 ht (by omega) (by omega)
    have so2 := s_num_or T n ((s_num T n (a + 1)).2 + 1) ht (by omega)
    rw [if_pos c1, p_b2, if_pos (by omega), e2]
    by_cases c2 : s_fig T n ((s_num T n (a + 1)).2 + 1) ∧ ((s_num T n ((s_num T n (a + 1)).2 + 1)).2 < n ∧ T (s_num T n ((s_num T n (a + 1)).2 + 1)).2 = 59) ∧ 2 ≤ (s_num T n ((s_num T n (a + 1)).2 + 1)).1 ∧ (s_num T n ((s_num T n (a + 1)).2 + 1)).1 ≤ 6
    · rw [if_pos c2, p_b2, p_b2, z_chk_pos (by omega), z_chk_pos (by omega), if_neg (by omega), z_chk_pos (by omega), d2]
      by_cases c3 : d 2 = 0
      · rw [if_neg (fun z => z c3)]
        exact Or.inl ⟨_, _, _, ⟨c1.1, rfl, c1.2.1, c2.1, rfl, c2.2.1, rfl⟩, c1.2.2, c2.2.2, c3, rfl⟩
      · rw [if_pos c3]
        exact Or.inr ⟨fun x y e _ z => c3 z.2.2, _, _, _, rfl⟩
    · rw [if_neg c2, p_b2, p_b2, z_chk_pos (by omega), z_chk_pos (by omega), if_pos (by omega)]
      refine Or.inr ⟨fun x y e hi z => c2 ?_, _, _, _, rfl⟩
      obtain ⟨h1, h2, h3, h4, h5, h6, h7⟩ := hi
      exact ⟨h4, h6, by rw [← h5]; exact z.2.1⟩
  · rw [if_neg c1, p_b2, if_neg (by omega), p_b2, z_chk_pos (by omega), z_chk_pos (by omega), if_pos (by omega)]
    refine Or.inr ⟨fun x y e hi z => c1 ?_, _, _, _, rfl⟩
    obtain ⟨h1, h2, h3, h4, h5, h6, h7⟩ := hi
    exact ⟨h1, h3, by rw [← h2]; exact z.1⟩
