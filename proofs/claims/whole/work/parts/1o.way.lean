/-! the way -/
theorem p_withBeside_l1 (N : Nat) (n : Int) (nb : Int → Int → Int) (be : Int → Int) (bb : Int → Int64) (b : Int64) (hn : 0 ≤ n ∧ n ≤ 36) (hg : s_gb n nb be bb) : ∀ (f : Nat) (v : Int) (w : Int64), 0 ≤ v → v ≤ n → (n - v).toNat < f → (∀ y, 0 ≤ y → y < 64 → (s_bit w y ↔ s_bit b y ∨ ∃ x s, (0 ≤ x ∧ x < v) ∧ s_bit b x ∧ (0 ≤ s ∧ s ≤ 3) ∧ nb x s = y)) → ∃ w', m_X0_withBeside_l1 N n b bb f w v = some w' ∧ ∀ y, 0 ≤ y → y < 64 → (s_bit w' y ↔ s_bit b y ∨ ∃ x s, (0 ≤ x ∧ x < n) ∧ s_bit b x ∧ (0 ≤ s ∧ s ≤ 3) ∧ nb x s = y) := by
  intro f
  induction f with
  | zero => intro v w _ _ hf; omega
  | succ f ih =>
    intro v w g0 g1 hf hw
    rw [m_X0_withBeside_l1]
    by_cases hc : n ≤ v
    · have : v = n := by omega
      subst this
      rw [if_pos hc]
      exact ⟨w, rfl, hw⟩
    · rw [if_neg hc, if_neg (by omega)]
      by_cases ht : s_bit b v
      · have tt := (s_tst (r := b) (x := v) (by omega)).mpr ht
        rw [if_neg (fun z => z tt), z_chk_pos (by omega), z_chk_pos (by omega)]
        refine ih (v + 1) _ (by omega) (by omega) (by omega) (fun y a c => ?_)
        rw [s_bit_or, hw y a c, hg.2.1 v y g0 (by omega) a c]
        constructor
        · rintro ((h | ⟨x, s, h1, h2, h3, h4⟩) | ⟨s, h3, h4⟩)
          · exact Or.inl h
          · exact Or.inr ⟨x, s, by omega, h2, h3, h4⟩
          · exact Or.inr ⟨v, s, by omega, ht, h3, h4⟩
        · rintro (h | ⟨x, s, h1, h2, h3, h4⟩)
          · exact Or.inl (Or.inl h)
          · by_cases e : x = v
            · rw [e] at h4; exact Or.inr ⟨s, h3, h4⟩
            · exact Or.inl (Or.inr ⟨x, s, by omega, h2, h3, h4⟩)
      · have tt : ¬ z_lcmp ((z_lshr b v) &&& (1 : Int64)) (1 : Int64) = 0 := fun z => ht ((s_tst (r := b) (x := v) (by omega)).mp z)
        rw [if_pos tt, z_chk_pos (by omega)]
        refine ih (v + 1) _ (by omega) (by omega) (by omega) (fun y a c => ?_)
        rw [hw y a c]
        constructor
        · rintro (h | ⟨x, s, h1, h2, h3, h4⟩)
          · exact Or.inl h
          · exact Or.inr ⟨x, s, by omega, h2, h3, h4⟩
        · rintro (h | ⟨x, s, h1, h2, h3, h4⟩)
          · exact Or.inl h
          · by_cases e : x = v
            · rw [e] at h2; exact absurd h2 ht
            · exact Or.inr ⟨x, s, by omega, h2, h3, h4⟩
theorem p_withBeside (N : Nat) (hN : 100 ≤ N) (n : Int) (nb : Int → Int → Int) (be : Int → Int) (bb : Int → Int64) (b : Int64) (hn : 0 ≤ n ∧ n ≤ 36) (hg : s_gb n nb be bb) : ∃ w', m_X0_withBeside N n bb b = some w' ∧ ∀ y, 0 ≤ y → y < 64 → (s_bit w' y ↔ s_bit b y ∨ ∃ x s, (0 ≤ x ∧ x < n) ∧ s_bit b x ∧ (0 ≤ s ∧ s ≤ 3) ∧ nb x s = y) := by
  obtain ⟨w', e, h⟩ := p_withBeside_l1 N n nb be bb b hn hg N 0 b (by omega) (by omega) (by omega) (fun y a c => ⟨fun z => Or.inl z, fun z => z.elim id (fun ⟨x, s, h1, _⟩ => by omega)⟩)
  exact ⟨w', by rw [m_X0_withBeside, e, p_b1], h⟩
/-- the array here is a set -/
def s_set1 (n : Int) (a : Int → Int) (S : Int → Prop) : Prop := ∀ y, 0 ≤ y → y < n → (a y = 1 ∧ S y) ∨ (a y = 0 ∧ ¬ S y)
theorem p6_way_l1 (N : Nat) (R C : Int) (K t : Int → Int) (x1 : Int) (ht : s_tk R C K t) : ∀ (f : Nat) (v : Int) (a : Int → Int), 0 ≤ v → v ≤ R * C → (R * C - v).toNat < f → s_set1 v a (fun y => y = x1) → ∃ a', m_X6_way_l1 N t x1 f v a = some a' ∧ s_set1 (R * C) a' (fun y => y = x1) := by
  have hn := s_dim_n ht.1
  intro f
  induction f with
  | zero => intro v a _ _ hf; omega
  | succ f ih =>
    intro v a g0 g1 hf ha
    rw [m_X6_way_l1, p6_cells N ht, p_b1]
    by_cases hc : R * C ≤ v
    · have : v = R * C := by omega
      subst this
      rw [if_pos hc]
      exact ⟨a, rfl, ha⟩
    · rw [if_neg hc]
      by_cases he : v = x1
      · rw [if_neg (fun z => z he), z_chk_pos (by omega), z_chk_pos (by omega)]
        refine ih (v + 1) _ (by omega) (by omega) (by omega) (fun y p q => ?_)
        unfold z_up
        by_cases w : y = v
        · rw [if_pos w]; exact Or.inl ⟨rfl, w.trans he⟩
        · rw [if_neg w]; exact ha y p (by omega)
      · rw [if_pos he, z_chk_pos (by omega), z_chk_pos (by omega)]
        refine ih (v + 1) _ (by omega) (by omega) (by omega) (fun y p q => ?_)
        unfold z_up
        by_cases w : y = v
        · rw [if_pos w]; exact Or.inr ⟨rfl, fun z => he (w.symm.trans z)⟩
        · rw [if_neg w]; exact ha y p (by omega)
theorem p6_way_l4 (N : Nat) (R C : Int) (K t here : Int → Int) (S : Int → Prop) (ht : s_tk R C K t) (hh : s_set1 (R * C) here S) (x : Int) (hx : 0 ≤ x ∧ x < R * C) : ∀ (f : Nat) (v : Int) (a : Int → Int), 0 ≤ v → v ≤ 4 → (4 - v).toNat < f → ((a x = 1 ∧ (S x ∨ ∃ s, (0 ≤ s ∧ s < v) ∧ 0 ≤ s_nb R C K x s ∧ S (s_nb R C K x s))) ∨ (a x = 0 ∧ ¬ (S x ∨ ∃ s, (0 ≤ s ∧ s < v) ∧ 0 ≤ s_nb R C K x s ∧ S (s_nb R C K x s)))) → ∃ a', m_X6_way_l4 N t x here f v a = some a' ∧ (∀ y, y ≠ x → a' y = a y) ∧ ((a' x = 1 ∧ (S x ∨ ∃ s, (0 ≤ s ∧ s ≤ 3) ∧ 0 ≤ s_nb R C K x s ∧ S (s_nb R C K x s))) ∨ (a' x = 0 ∧ ¬ (S x ∨ ∃ s, (0 ≤ s ∧ s ≤ 3) ∧ 0 ≤ s_nb R C K x s ∧ S (s_nb R C K x s)))) := by
  have hn := s_dim_n ht.1
  intro f
  induction f with
  | zero => intro v a _ _ hf; omega
  | succ f ih =>
    intro v a g0 g1 hf ha
    rw [m_X6_way_l4]
    by_cases hc : 4 ≤ v
    · rw [if_pos hc]
      have : v = 4 := by omega
      subst this
      refine ⟨a, rfl, fun _ _ => rfl, ha.imp (fun z => ⟨z.1, z.2.imp id (fun ⟨s, h1, h2⟩ => ⟨s, by omega, h2⟩)⟩) (fun z => ⟨z.1, fun u => z.2 (u.imp id (fun ⟨s, h1, h2⟩ => ⟨s, by omega, h2⟩))⟩)⟩
    · have nbv := s_nb_in (R := R) (C := C) (K := K) (x := x) (s := v)
      have step : ∀ u : Int, ((u = 1 ∧ (S x ∨ ∃ s, (0 ≤ s ∧ s < v + 1) ∧ 0 ≤ s_nb R C K x s ∧ S (s_nb R C K x s))) ∨ (u = 0 ∧ ¬ (S x ∨ ∃ s, (0 ≤ s ∧ s < v + 1) ∧ 0 ≤ s_nb R C K x s ∧ S (s_nb R C K x s)))) → ∃ a', m_X6_way_l4 N t x here f (v + 1) (z_up a x u) = some a' ∧ (∀ y, y ≠ x → a' y = a y) ∧ ((a' x = 1 ∧ (S x ∨ ∃ s, (0 ≤ s ∧ s ≤ 3) ∧ 0 ≤ s_nb R C K x s ∧ S (s_nb R C K x s))) ∨ (a' x = 0 ∧ ¬ (S x ∨ ∃ s, (0 ≤ s ∧ s ≤ 3) ∧ 0 ≤ s_nb R C K x s ∧ S (s_nb R C K x s)))) := fun u hu => by
        obtain ⟨a', e, h1, h2⟩ := ih (v + 1) (z_up a x u) (by omega) (by omega) (by omega) (by unfold z_up; rw [if_pos rfl]; exact hu)
        refine ⟨a', e, fun y hy => ?_, h2⟩
        rw [h1 y hy]
        unfold z_up
        rw [if_neg hy]
      rw [if_neg hc, p6_nb N ht x v hx (by omega), p_b1, z_chk_pos (by omega)]
      by_cases h1 : a x ≠ 0
      · have h2 := ha.resolve_right (fun z => h1 z.1)
        rw [if_pos h1, z_chk_pos (by omega), z_chk_pos (by omega)]
        exact step 1 (Or.inl ⟨rfl, h2.2.imp id (fun ⟨s, q1, q2⟩ => ⟨s, by omega, q2⟩)⟩)
      · have h2 := ha.resolve_left (fun z => by omega)
        rw [if_neg h1]
        by_cases h3 : s_nb R C K x v < 0
        · rw [if_pos h3, z_chk_pos (by omega), z_chk_pos (by omega)]
          refine step 0 (Or.inr ⟨rfl, fun z => h2.2 (z.imp id (fun ⟨s, q1, q2⟩ => ⟨s, ?_, q2⟩))⟩)
          by_cases e : s = v
          · rw [e] at q2; omega
          · omega
        · have hs := hh (s_nb R C K x v) (by omega) (by omega)
          rw [if_neg h3, z_chk_pos (by omega)]
          by_cases h4 : here (s_nb R C K x v) = 0
          · have ns := hs.resolve_left (fun z => by omega)
            rw [if_pos h4, z_chk_pos (by omega), z_chk_pos (by omega)]
            refine step 0 (Or.inr ⟨rfl, fun z => h2.2 (z.imp id (fun ⟨s, q1, q2⟩ => ⟨s, ?_, q2⟩))⟩)
            by_cases e : s = v
            · rw [e] at q2; exact absurd q2.2 ns.2
            · omega
          · have ps := hs.resolve_right (fun z => h4 z.1)
            rw [if_neg h4, z_chk_pos (by omega), z_chk_pos (by omega)]
            exact step 1 (Or.inl ⟨rfl, Or.inr ⟨v, by omega, by omega, ps.2⟩⟩)
def s_nx (nb : Int → Int → Int) (D : Int → Int) (S : Int → Prop) (y : Int) : Prop := (S y ∨ ∃ s, (0 ≤ s ∧ s ≤ 3) ∧ 0 ≤ nb y s ∧ S (nb y s)) ∧ 0 < D y
theorem p6_way_l3 (N : Nat) (hN : 100 ≤ N) (R C hr : Int) (K t here s h D : Int → Int) (S : Int → Prop) (ht : s_tk R C K t) (hh : s_set1 (R * C) here S) (ha : s_ag s h D hr) : ∀ (f : Nat) (x : Int) (a : Int → Int), 0 ≤ x → x ≤ R * C → (R * C - x).toNat < f → s_set1 x a (s_nx (s_nb R C K) D S) → ∃ a', m_X6_way_l3 N t here s f x a = some a' ∧ s_set1 (R * C) a' (s_nx (s_nb R C K) D S) := by
  have hn := s_dim_n ht.1
  intro f
  induction f with
  | zero => intro v a _ _ hf; omega
  | succ f ih =>
    intro x a g0 g1 hf hs
    rw [m_X6_way_l3, p6_cells N ht, p_b1]
    by_cases hc : R * C ≤ x
    · have : x = R * C := by omega
      subst this
      rw [if_pos hc]
      exact ⟨a, rfl, hs⟩
    · have hx := hh x g0 (by omega)
      obtain ⟨a1, e1, k1, k2⟩ := p6_way_l4 N R C K t here S ht hh x ⟨g0, by omega⟩ N 0 (z_up a x (here x)) (by omega) (by omega) (by omega) (by
        unfold z_up
        rw [if_pos rfl]
        exact hx.imp (fun z => ⟨z.1, Or.inl z.2⟩) (fun z => ⟨z.1, fun w => w.elim z.2 (fun ⟨s, q, _⟩ => by omega)⟩))
      have step : ∀ u : Int, ((u = 1 ∧ s_nx (s_nb R C K) D S x) ∨ (u = 0 ∧ ¬ s_nx (s_nb R C K) D S x)) → ∃ a', m_X6_way_l3 N t here s f (x + 1) (z_up a1 x u) = some a' ∧ s_set1 (R * C) a' (s_nx (s_nb R C K) D S) := fun u hu => by
        refine ih (x + 1) _ (by omega) (by omega) (by omega) (fun y p q => ?_)
        unfold z_up
        by_cases w : y = x
        · rw [if_pos w, w]; exact hu
        · rw [if_neg w, k1 y w]
          unfold z_up
          rw [if_neg w]
          exact hs y p (by omega)
      rw [if_neg hc, z_chk_pos (by omega), z_chk_pos (by omega), z_chk_pos (by omega), e1, p_b1, z_chk_pos (by omega)]
      by_cases h1 : a1 x = 0
      · have h2 := k2.resolve_left (fun z => by omega)
        rw [if_pos h1, z_chk_pos (by omega), z_chk_pos (by omega)]
        exact step 0 (Or.inr ⟨rfl, fun z => h2.2 z.1⟩)
      · have h2 := k2.resolve_right (fun z => h1 z.1)
        rw [if_neg h1, z_chk_pos (by omega), ha.1 x g0 (by omega)]
        by_cases h3 : D x ≤ 0
        · rw [if_pos h3, z_chk_pos (by omega), z_chk_pos (by omega)]
          exact step 0 (Or.inr ⟨rfl, fun z => by have := z.2; omega⟩)
        · rw [if_neg h3, z_chk_pos (by omega), z_chk_pos (by omega)]
          exact step 1 (Or.inl ⟨rfl, h2.2, by omega⟩)
theorem p6_way_l5 (N : Nat) (R C hr : Int) (K t there s h D : Int → Int) (S : Int → Prop) (ht : s_tk R C K t) (hh : s_set1 (R * C) there S) (ha : s_ag s h D hr) : ∀ (f : Nat) (x : Int) (a : Int → Int), 0 ≤ x → x ≤ R * C → (R * C - x).toNat < f → s_set1 x a (fun y => S y ∧ 0 < D y) → ∃ a', m_X6_way_l5 N t there s f x a = some a' ∧ s_set1 (R * C) a' (fun y => S y ∧ 0 < D y) := by
  have hn := s_dim_n ht.1
  intro f
  induction f with
  | zero => intro v a _ _ hf; omega
  | succ f ih =>
    intro x a g0 g1 hf hs
    rw [m_X6_way_l5, p6_cells N ht, p_b1]
    by_cases hc : R * C ≤ x
    · have : x = R * C := by omega
      subst this
      rw [if_pos hc]
      exact ⟨a, rfl, hs⟩
    · have hx := hh x g0 (by omega)
      have step : ∀ u : Int, ((u = 1 ∧ S x ∧ 0 < D x) ∨ (u = 0 ∧ ¬ (S x ∧ 0 < D x))) → ∃ a', m_X6_way_l5 N t there s f (x + 1) (z_up a x u) = some a' ∧ s_set1 (R * C) a' (fun y => S y ∧ 0 < D y) := fun u hu => by
        refine ih (x + 1) _ (by omega) (by omega) (by omega) (fun y p q => ?_)
        unfold z_up
        by_cases w : y = x
        · rw [if_pos w, w]; exact hu
        · rw [if_neg w]
          exact hs y p (by omega)
      rw [if_neg hc, z_chk_pos (by omega)]
      by_cases h1 : there x = 0
      · have h2 := hx.resolve_left (fun z => by omega)
        rw [if_pos h1, z_chk_pos (by omega), z_chk_pos (by omega)]
        exact step 0 (Or.inr ⟨rfl, fun z => h2.2 z.1⟩)
      · have h2 := hx.resolve_right (fun z => h1 z.1)
        rw [if_neg h1, z_chk_pos (by omega), ha.1 x g0 (by omega)]
        by_cases h3 : D x ≤ 0
        · rw [if_pos h3, z_chk_pos (by omega), z_chk_pos (by omega)]
          exact step 0 (Or.inr ⟨rfl, fun z => by have := z.2; omega⟩)
        · rw [if_neg h3, z_chk_pos (by omega), z_chk_pos (by omega)]
          exact step 1 (Or.inl ⟨rfl, h2.2, by omega⟩)
theorem o_way_l (N : Nat) (hN : 1000000 ≤ N) {R C : Int} {K be : Int → Int} {bb : Int → Int64} {h told : Int → Int} (hg : s_gb (R * C) (s_nb R C K) be bb) (ht : s_tk R C K told) (x2 : Int) (hx : 0 ≤ x2 ∧ x2 < R * C) : ∀ (f : Nat) (v : Int) (b : Int64) (D s here there : Int → Int) (hr : Int) (r : Int64) (f' : Nat) (ans : Int), 0 ≤ v → v ≤ 40 → (41 - v).toNat < f → (41 - v).toNat < f' → 0 ≤ hr → hr + (41 - v) ≤ 800000 → s_ag s h D hr → s_ok (R * C) K h D → (∀ y, 0 ≤ y → y < 64 → s_bit b y → y < R * C ∧ 0 < D y) → s_set1 (R * C) here (s_bit b) → ((ans = v ∧ s_bit b x2) ∨ (ans = -4 ∧ ¬ s_bit b x2)) → ∃ a o s' h1 t1, m_X5_way_l1 N h x2 (R * C) bb K be f b v D hr r = some (a, o) ∧ m_X6_way_l2 N told x2 f' ans (v + 1) s here there = some (a, s', h1, t1) := by
  have hn := s_dim_n ht.1
  have hE := s_env_nb K ht.1
  intro f
  induction f with
  | zero => intro v b D s here there hr r f' ans _ _ hf; omega
  | succ f ih =>
    intro v b D s here there hr r f' ans g0 g1 hf hf' i0 i1 ha hok hb hh hans
    obtain ⟨f2, rfl⟩ : ∃ f2, f' = f2 + 1 := ⟨f' - 1, by omega⟩
    rw [m_X5_way_l1, m_X6_way_l2, if_neg (show ¬ 40 < v by omega)]
    rcases hans with ⟨q1, q2⟩ | ⟨q1, q2⟩
    · have tt := (s_tst (r := b) (x := x2) (by omega)).mpr q2
      rw [if_neg (fun z => z tt), q1]
      by_cases h41 : 41 ≤ v + 1
      · rw [if_pos h41]
        exact ⟨_, _, _, _, _, rfl, rfl⟩
      · rw [if_neg h41, if_pos (show v ≠ -4 by omega)]
        exact ⟨_, _, _, _, _, rfl, rfl⟩
    · have tt : ¬ z_lcmp ((z_lshr b x2) &&& (1 : Int64)) (1 : Int64) = 0 := fun z => q2 ((s_tst (r := b) (x := x2) (by omega)).mp z)
      obtain ⟨w1, e1, k1⟩ := p_withBeside N (by omega) (R * C) (s_nb R C K) be bb b (by omega) hg
      obtain ⟨w2, e2, k2⟩ := p_wetBits N (by omega) (R * C) D (by omega)
      obtain ⟨r', e3⟩ := p_pass1 N hN (R * C) (s_nb R C K) K h D be bb hE hok hg r hr (by omega)
      have ok2 := s_hour_ok (R * C) (s_nb R C K) K h D hr hE hok
      obtain ⟨w3, e4, k3⟩ := p_wetBits N (by omega) (R * C) (s_hour (R * C) (s_nb R C K) K h hr D) (by omega)
      rw [if_pos tt, e1, p_b1, e2, p_b1, e3, p_b3, e4, p_b1, z_chk_pos (by omega)]
      by_cases h41 : 41 ≤ v + 1
      · obtain ⟨f3, rfl⟩ : ∃ f3, f = f3 + 1 := ⟨f - 1, by omega⟩
        rw [if_pos h41, m_X5_way_l1, if_pos (show 40 < v + 1 by omega), q1]
        exact ⟨_, _, _, _, _, rfl, rfl⟩
      · have hG := s_gr_of hE hok
        obtain ⟨t1, e5, l5⟩ := p6_way_l3 N (by omega) R C hr K told here s h D (s_bit b) ht hh ha N 0 there (by omega) (by omega) (by omega) (fun y a c => by omega)
        obtain ⟨s1, e6, a6⟩ := p6_shines N hN R C hr K told s h D ht ha hok (by omega)
        obtain ⟨h1, e7, l7⟩ := p6_way_l5 N R C (hr + 1) K told t1 s1 h _ _ ht l5 a6 N 0 here (by omega) (by omega) (by omega) (fun y a c => by omega)
        have same : ∀ y, 0 ≤ y → y < R * C → ((s_nx (s_nb R C K) D (s_bit b) y ∧ 0 < s_hour (R * C) (s_nb R C K) K h hr D y) ↔ s_bit ((w1 &&& w2) &&& w3) y) := fun y a c => by
          rw [s_bit_and, s_bit_and, k1 y a (by omega), k2 y a (by omega), k3 y a (by omega)]
          unfold s_nx
          constructor
          · rintro ⟨⟨z1, z2⟩, z3⟩
            refine ⟨⟨z1.imp id (fun ⟨s, p1, p2, p3⟩ => ?_), c, z2⟩, c, z3⟩
            have nbx := hG.2.1 y s
            obtain ⟨s', p4, p5⟩ := hG.2.2 y s a c z2 p1.1 p1.2 p2
            exact ⟨s_nb R C K y s, s', by omega, p3, p4, p5⟩
          · rintro ⟨⟨z1, z2⟩, z3⟩
            refine ⟨⟨z1.imp id (fun ⟨x, s, p1, p2, p3, p4⟩ => ?_), z2.2⟩, z3.2⟩
            have bx := hb x p1.1 (by omega) p2
            obtain ⟨s', p5, p6⟩ := hG.2.2 x s p1.1 p1.2 bx.2 p3.1 p3.2 (by omega)
            rw [p4] at p6
            exact ⟨s', p5, by omega, by rw [p6]; exact p2⟩
        have hh1 : s_set1 (R * C) h1 (s_bit ((w1 &&& w2) &&& w3)) := fun y a c => (l7 y a c).imp (fun z => ⟨z.1, (same y a c).mp z.2⟩) (fun z => ⟨z.1, fun w => z.2 ((same y a c).mpr w)⟩)
        have hb1 : ∀ y, 0 ≤ y → y < 64 → s_bit ((w1 &&& w2) &&& w3) y → y < R * C ∧ 0 < s_hour (R * C) (s_nb R C K) K h hr D y := fun y a c z => by
          rw [s_bit_and] at z
          exact (k3 y a c).mp z.2
        have hx1 := hh1 x2 hx.1 hx.2
        rw [if_neg h41, q1, if_neg (show ¬ (-4 : Int) ≠ -4 by omega), e5, p_b1, e6, p_b1, e7, p_b1, z_chk_pos (by omega)]
        by_cases h0 : h1 x2 = 0
        · rw [if_pos h0, z_chk_pos (by omega)]
          exact ih (v + 1) _ _ s1 h1 t1 (hr + 1) r' f2 (-4) (by omega) (by omega) (by omega) (by omega) (by omega) (by omega) a6 ok2 hb1 hh1 (Or.inr ⟨rfl, (hx1.resolve_left (fun z => by omega)).2⟩)
        · rw [if_neg h0, z_chk_pos (by omega)]
          exact ih (v + 1) _ _ s1 h1 t1 (hr + 1) r' f2 (v + 1) (by omega) (by omega) (by omega) (by omega) (by omega) (by omega) a6 ok2 hb1 hh1 (Or.inl ⟨rfl, (hx1.resolve_right (fun z => h0 z.1)).2⟩)
theorem o_way (N : Nat) (hN : 1000000 ≤ N) {R C B : Int} {K be : Int → Int} {bb : Int → Int64} {h D : Int → Int} {hr : Int} {told s : Int → Int} (hB : B ≤ 700000) (c : s_cw R C B K be bb h D hr told s) (lh lD : Int → Int) (lhr : Int) (lr : Int64) (held here there : Int → Int) (x1 x2 : Int) : ∃ a o s' held' here' there', m_X5_way N (R * C) K be bb h D hr lh lD lhr lr x1 x2 = some (a, o) ∧ m_X6_way N told s held here there x1 x2 = some (a, s', held', here', there') ∧ s_cw R C B K be bb h D hr told s' := by
  have cc := c
  obtain ⟨hd, hg, ht, hk, hw⟩ := c
  have hn := s_dim_n hd
  have hE := s_env_nb K hd
  rw [m_X5_way, m_X6_way, p_holds, p6_isCell N ht, p_b1, p_b1]
  by_cases h1 : 0 ≤ x1 ∧ x1 < R * C
  · rw [if_pos (show 0 ≤ x1 ∧ x1 < R * C ∧ x1 < 36 by omega), if_pos h1, if_neg p_f1, if_neg p_f1, p_holds, p6_isCell N ht, p_b1, p_b1]
    by_cases h2 : 0 ≤ x2 ∧ x2 < R * C
    · rw [if_pos (show 0 ≤ x2 ∧ x2 < R * C ∧ x2 < 36 by omega), if_pos h2, if_pos p_t1, if_pos p_t1, z_chk_pos (by omega), z_chk_pos (by omega), hw.1.1 x1 h1.1 (by omega)]
      by_cases h0 : D x1 ≠ 0
      · obtain ⟨ha, hok, hs, hh⟩ := s_later hE.1.2 hE.2.1 hw lh lD
        have q1 := (hw.2.1 x1 h1.1 (by omega)).2.1
        have d1 : z_cpy D lD 0 0 36 x1 = D x1 := s_cpy D lD 36 x1 h1.1 (by omega)
        obtain ⟨held', e3, l3⟩ := p6_holdsS N (by omega) s held
        obtain ⟨here1, e4, l4⟩ := p6_way_l1 N R C K told x1 ht N 0 here (by omega) (by omega) (by omega) (fun y a c => by omega)
        have bit1 : ∀ y, 0 ≤ y → (s_bit (z_lshl (1 : Int64) x1) y ↔ y = x1) := fun y a => s_bit_one (by omega) a
        have hh1 : s_set1 (R * C) here1 (s_bit (z_lshl (1 : Int64) x1)) := fun y a c => (l4 y a c).imp (fun z => ⟨z.1, (bit1 y a).mpr z.2⟩) (fun z => ⟨z.1, fun w => z.2 ((bit1 y a).mp w)⟩)
        have e5 : (if x1 ≠ x2 then some (-4 : Int) else some 0) = some (if x1 ≠ x2 then -4 else 0) := by split <;> rfl
        obtain ⟨a, o, s1, h3, t3, e6, e7⟩ := o_way_l N hN hg ht x2 h2 N 0 (z_lshl (1 : Int64) x1) _ s here1 there hr lr N (if x1 ≠ x2 then -4 else 0) (by omega) (by omega) (by omega) (by omega) (by omega) (by omega) ha hok (fun y a c z => by
          have := (bit1 y a).mp z
          subst this
          rw [d1]
          omega) hh1 (by
          by_cases e : x1 = x2
          · rw [if_neg (fun z => z e)]
            exact Or.inl ⟨rfl, (bit1 x2 h2.1).mpr e.symm⟩
          · rw [if_pos e]
            exact Or.inr ⟨rfl, fun z => e ((bit1 x2 h2.1).mp z).symm⟩)
        obtain ⟨s', e8, l8⟩ := p6_lets N (by omega) held' s1
        have fin := s_cw_same cc (fun x p q => (l8 x p q).trans (l3 x p q))
        rw [if_pos h0, if_pos h0, p_copyNow, p_b3, e6, e3, p_b1, e4, p_b1, e5, p_b1, show m_X6_way_l2 N told x2 N (if x1 ≠ x2 then -4 else 0) 1 s here1 there = _ from e7, p_b4, e8, p_b1]
        exact ⟨_, _, _, _, _, _, rfl, rfl, fin⟩
      · rw [if_neg h0, if_neg h0]
        exact ⟨_, _, _, _, _, _, rfl, rfl, cc⟩
    · rw [if_neg (show ¬(0 ≤ x2 ∧ x2 < R * C ∧ x2 < 36) by omega), if_neg h2, if_neg p_f0, if_neg p_f0]
      exact ⟨_, _, _, _, _, _, rfl, rfl, cc⟩
  · rw [if_neg (show ¬(0 ≤ x1 ∧ x1 < R * C ∧ x1 < 36) by omega), if_neg h1, if_pos p_t0, if_pos p_t0]
    exact ⟨_, _, _, _, _, _, rfl, rfl, cc⟩
