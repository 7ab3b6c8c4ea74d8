/-! hours, steps, sums, copies -/
theorem p_b3 {α β γ δ : Type} (a : α) (b : β) (c : γ) (f : α → β → γ → Option δ) : z_b3 (some (a, b, c)) f = f a b c := rfl
theorem p_b4 {α β γ ε δ : Type} (a : α) (b : β) (c : γ) (d : ε) (f : α → β → γ → ε → Option δ) : z_b4 (some (a, b, c, d)) f = f a b c d := rfl
theorem s_ag_same {s s' h D : Int → Int} {hr : Int} (ha : s_ag s h D hr) (e : ∀ x, 0 ≤ x → x < 73 → s' x = s x) : s_ag s' h D hr :=
  ⟨fun x a b => by rw [e x a (by omega), ha.1 x a b], fun x a b => by rw [e (36 + x) (by omega) (by omega), ha.2.1 x a b], by rw [e 72 (by omega) (by omega), ha.2.2]⟩
theorem s_ag_fn {s h D h' D' : Int → Int} {hr : Int} (ha : s_ag s h D hr) (e : ∀ x, 0 ≤ x → x < 36 → h' x = h x) (e2 : ∀ x, 0 ≤ x → x < 36 → D' x = D x) : s_ag s h' D' hr :=
  ⟨fun x a b => by rw [e2 x a b, ha.1 x a b], fun x a b => by rw [e x a b, ha.2.1 x a b], ha.2.2⟩
theorem s_ok_fn {n : Int} {K K' h D h' D' : Int → Int} (ha : s_ok n K h D) (k : ∀ x, 0 ≤ x → x < 36 → K' x = K x) (e : ∀ x, 0 ≤ x → x < 36 → h' x = h x) (e2 : ∀ x, 0 ≤ x → x < 36 → D' x = D x) : s_ok n K' h' D' := fun x a b => by
  rw [e x a b, e2 x a b, k x a b]; exact ha x a b
theorem s_cpy {α : Type} (f g : Int → α) (m x : Int) (h0 : 0 ≤ x) (h1 : x < m) : z_cpy f g 0 0 m x = f x := by
  unfold z_cpy
  rw [if_pos (by omega)]
  congr 1
  omega
theorem p_copyNow (N : Nat) (h D h2 D2 : Int → Int) (a b : Int) : m_X4_copyFrom N h D a h2 D2 b = some (z_cpy h2 h 0 0 36, z_cpy D2 D 0 0 36, b) := by
  rw [m_X4_copyFrom, z_chk_pos (by decide), z_chk_pos (by decide)]
theorem p6_copy (s : Int → Int) (F : Nat → Int → (Int → Int) → Option (Int → Int)) (h0 : ∀ f v t, F (f + 1) v t = if 73 ≤ v then some t else (z_chk (0 ≤ v ∧ v < 73) (z_chk (0 ≤ v ∧ v < 73) (z_chk (z_n (v + 1)) (F f (v + 1) (z_up t v (s v))))))) : ∀ (f : Nat) (v : Int) (t : Int → Int), 0 ≤ v → v ≤ 73 → (73 - v).toNat < f → (∀ x, 0 ≤ x → x < v → t x = s x) → ∃ t', F f v t = some t' ∧ ∀ x, 0 ≤ x → x < 73 → t' x = s x := by
  intro f
  induction f with
  | zero => intro v t _ _ hf; omega
  | succ f ih =>
    intro v t g0 g1 hf ht
    rw [h0]
    by_cases hc : 73 ≤ v
    · rw [if_pos hc]
      exact ⟨t, rfl, fun x a b => ht x a (by omega)⟩
    · rw [if_neg hc, z_chk_pos (by omega), z_chk_pos (by omega), z_chk_pos (by omega)]
      refine ih (v + 1) _ (by omega) (by omega) (by omega) (fun x a b => ?_)
      unfold z_up
      by_cases hx : x = v
      · rw [if_pos hx, hx]
      · rw [if_neg hx]; exact ht x a (by omega)
theorem p6_holdsS (N : Nat) (hN : 100 ≤ N) (s t : Int → Int) : ∃ t', m_X6_holds N s t = some t' ∧ ∀ x, 0 ≤ x → x < 73 → t' x = s x := by
  obtain ⟨t', e, h⟩ := p6_copy s (m_X6_holds_l1 N s) (fun f v t => by rw [m_X6_holds_l1]) N 0 t (by omega) (by omega) (by omega) (fun x a b => by omega)
  exact ⟨t', by rw [m_X6_holds, e, p_b1], h⟩
theorem p6_lets (N : Nat) (hN : 100 ≤ N) (s t : Int → Int) : ∃ t', m_X6_lets N t s = some t' ∧ ∀ x, 0 ≤ x → x < 73 → t' x = s x := by
  obtain ⟨t', e, h⟩ := p6_copy s (m_X6_lets_l1 N s) (fun f v t => by rw [m_X6_lets_l1]) N 0 t (by omega) (by omega) (by omega) (fun x a b => by omega)
  exact ⟨t', by rw [m_X6_lets, e, p_b1], h⟩
/-! hours -/
theorem p_passHours_l1 (N : Nat) (hN : 1000000 ≤ N) (n : Int) (nb : Int → Int → Int) (K h D be : Int → Int) (bb : Int → Int64) (hE : s_env n nb K) (hok : s_ok n K h D) (hg : s_gb n nb be bb) (hr k : Int) (hh : 0 ≤ hr ∧ hr ≤ 900000) (hk : k ≤ 10000) : ∀ (f : Nat) (v : Nat) (r : Int64), (v : Int) ≤ k → (k - v).toNat < f → ∃ r', m_X4_passHours_l1 N k h n K be bb f v (s_hs n nb K h hr v D) (hr + v) r = some (s_hs n nb K h hr k.toNat D, hr + k, r') := by
  intro f
  induction f with
  | zero => intro v r _ hf; omega
  | succ f ih =>
    intro v r g1 hf
    rw [m_X4_passHours_l1]
    by_cases hc : k ≤ v
    · rw [if_pos hc]
      have : k = v := by omega
      subst this
      exact ⟨r, rfl⟩
    · obtain ⟨r', e⟩ := p_passHour N hN n nb K h (s_hs n nb K h hr v D) be bb hE (s_hs_ok n nb K h D hr hE hok v) hg r (hr + v) (by omega)
      rw [if_neg hc, e, p_b3, z_chk_pos (by omega), show (v : Int) + 1 = ((v + 1 : Nat) : Int) from rfl, show hr + (v : Int) + 1 = hr + ((v + 1 : Nat) : Int) by omega]
      exact ih (v + 1) r' (by omega) (by omega)
theorem p_passHours (N : Nat) (hN : 1000000 ≤ N) (n : Int) (nb : Int → Int → Int) (K h D be : Int → Int) (bb : Int → Int64) (hE : s_env n nb K) (hok : s_ok n K h D) (hg : s_gb n nb be bb) (r : Int64) (hr k : Int) (hh : 0 ≤ hr ∧ hr ≤ 900000) (hk : 0 ≤ k ∧ k ≤ 10000) : ∃ r', m_X4_passHours N h D hr r n K be bb k = some (s_hs n nb K h hr k.toNat D, hr + k, r') := by
  obtain ⟨r', e⟩ := p_passHours_l1 N hN n nb K h D be bb hE hok hg hr k hh hk.2 N 0 r (by omega) (by omega)
  rw [show hr + ((0 : Nat) : Int) = hr by omega] at e
  refine ⟨r', ?_⟩
  rw [m_X4_passHours, show m_X4_passHours_l1 N k h n K be bb N 0 D hr r = _ from e, p_b3]
theorem s_ag_hr {s h D : Int → Int} {hr v : Int} (ha : s_ag s h D hr) : s_ag (z_up s 72 v) h D v := by
  refine ⟨fun x a b => ?_, fun x a b => ?_, ?_⟩
  · unfold z_up; rw [if_neg (by omega)]; exact ha.1 x a b
  · unfold z_up; rw [if_neg (by omega)]; exact ha.2.1 x a b
  · unfold z_up; rw [if_pos rfl]
theorem p6_shines_l1 (N : Nat) (R C hr : Int) (K t h D : Int → Int) (ht : s_tk R C K t) (hok : s_ok (R * C) K h D) (hh : 0 ≤ hr ∧ hr ≤ 1000000) : ∀ (f : Nat) (x : Int) (s : Int → Int), 0 ≤ x → x ≤ R * C → (R * C - x).toNat < f → s_ag s h (s_upto (s_dF K hr D) D x) hr → ∃ s', m_X6_shines_l1 N t f x s = some s' ∧ s_ag s' h (s_upto (s_dF K hr D) D (R * C)) hr := by
  have hn := s_dim_n ht.1
  have et : Int.tmod hr 2 = hr % 2 := Int.tmod_eq_emod_of_nonneg (by omega)
  intro f
  induction f with
  | zero => intro x s _ _ hf; omega
  | succ f ih =>
    intro x s g0 g1 hf ha
    rw [m_X6_shines_l1, p6_cells N ht, p_b1]
    by_cases hc : R * C ≤ x
    · rw [if_pos hc]
      have : x = R * C := by omega
      subst this
      exact ⟨s, rfl, ha⟩
    · have q := hok x g0 (by omega)
      have sx := ha.1 x g0 (by omega)
      have kx := ht.2.2.2 x g0 (by omega)
      rw [s_upto_at] at sx
      rw [if_neg hc, z_chk_pos (by omega), sx, ha.2.2, et, kx]
      have up : ∀ v, v = s_dF K hr D x → s_ag (z_up s x v) h (s_upto (s_dF K hr D) D (x + 1)) hr := fun v hv => by
        rw [← s_upto_up _ _ _ _ g0 hv]
        exact s_ag_up _ _ _ _ _ _ _ ha ⟨g0, by omega⟩ rfl
      have z0 : D x - 0 = s_dF K hr D x → ∃ s', (z_b1 (some (0 : Int)) (fun (s15 : Int) => z_chk (0 ≤ x ∧ x < 73) (if s15 = 0 then (z_chk (z_n ((D x) - 0)) (z_chk (0 ≤ x ∧ x < 73) (z_chk (z_n (x + 1)) (m_X6_shines_l1 N t f (x + 1) (z_up s x ((D x) - 0)))))) else (z_chk (z_n ((D x) - 1)) (z_chk (0 ≤ x ∧ x < 73) (z_chk (z_n (x + 1)) (m_X6_shines_l1 N t f (x + 1) (z_up s x ((D x) - 1))))))))) = some s' ∧ s_ag s' h (s_upto (s_dF K hr D) D (R * C)) hr := by
        intro e
        rw [p_b1, z_chk_pos (by omega), if_pos rfl, z_chk_pos (by omega), z_chk_pos (by omega), z_chk_pos (by omega)]
        exact ih (x + 1) _ (by omega) (by omega) (by omega) (up _ e)
      have z1 : D x - 1 = s_dF K hr D x → ∃ s', (z_b1 (some (1 : Int)) (fun (s15 : Int) => z_chk (0 ≤ x ∧ x < 73) (if s15 = 0 then (z_chk (z_n ((D x) - 0)) (z_chk (0 ≤ x ∧ x < 73) (z_chk (z_n (x + 1)) (m_X6_shines_l1 N t f (x + 1) (z_up s x ((D x) - 0)))))) else (z_chk (z_n ((D x) - 1)) (z_chk (0 ≤ x ∧ x < 73) (z_chk (z_n (x + 1)) (m_X6_shines_l1 N t f (x + 1) (z_up s x ((D x) - 1))))))))) = some s' ∧ s_ag s' h (s_upto (s_dF K hr D) D (R * C)) hr := by
        intro e
        rw [p_b1, z_chk_pos (by omega), if_neg (by decide), z_chk_pos (by omega), z_chk_pos (by omega), z_chk_pos (by omega)]
        exact ih (x + 1) _ (by omega) (by omega) (by omega) (up _ e)
      by_cases hd : D x ≤ 0
      · rw [if_pos hd]
        exact z0 (by unfold s_dF; rw [if_neg (by omega)]; omega)
      · rw [if_neg hd, z_chk_pos (by omega), z_chk_pos (by omega)]
        by_cases h1 : K x = 1
        · rw [if_neg (fun z => z h1), z_chk_pos (by omega), z_chk_pos (by omega)]
          by_cases h2 : hr % 2 = 0
          · rw [if_neg (fun z => z h2)]
            exact z1 (by unfold s_dF; rw [if_pos (by omega)])
          · rw [if_pos h2]
            exact z0 (by unfold s_dF; rw [if_neg (by omega)]; omega)
        · rw [if_pos h1]
          exact z1 (by unfold s_dF; rw [if_pos (by omega)])
theorem p6_shines_l2 (N : Nat) (R C hr : Int) (K t h D : Int → Int) (ht : s_tk R C K t) (hok : s_ok (R * C) K h D) : ∀ (f : Nat) (x : Int) (s : Int → Int), 0 ≤ x → x ≤ R * C → (R * C - x).toNat < f → s_ag s h (s_upto (s_mF K D) D x) hr → ∃ s', m_X6_shines_l2 N t f x s = some s' ∧ s_ag s' h (s_upto (s_mF K D) D (R * C)) hr := by
  have hn := s_dim_n ht.1
  intro f
  induction f with
  | zero => intro x s _ _ hf; omega
  | succ f ih =>
    intro x s g0 g1 hf ha
    rw [m_X6_shines_l2, p6_cells N ht, p_b1]
    by_cases hc : R * C ≤ x
    · rw [if_pos hc]
      have : x = R * C := by omega
      subst this
      exact ⟨s, rfl, ha⟩
    · have q := hok x g0 (by omega)
      have sx := ha.1 x g0 (by omega)
      have kx := ht.2.2.2 x g0 (by omega)
      rw [s_upto_at] at sx
      rw [if_neg hc, z_chk_pos (by omega), z_chk_pos (by omega), z_chk_pos (by omega), sx, kx]
      have up : ∀ v, v = s_mF K D x → s_ag (z_up s x v) h (s_upto (s_mF K D) D (x + 1)) hr := fun v hv => by
        rw [← s_upto_up _ _ _ _ g0 hv]
        exact s_ag_up _ _ _ _ _ _ _ ha ⟨g0, by omega⟩ rfl
      by_cases h4 : K x = 4
      · rw [if_neg (fun z => z h4), z_chk_pos (by omega)]
        by_cases h6 : 60 ≤ D x
        · rw [if_pos h6, z_chk_pos (by omega), z_chk_pos (by omega), z_chk_pos (by omega)]
          exact ih (x + 1) _ (by omega) (by omega) (by omega) (up _ (by unfold s_mF; rw [if_neg (by omega)]; omega))
        · rw [if_neg h6, z_chk_pos (by omega), z_chk_pos (by omega), z_chk_pos (by omega)]
          exact ih (x + 1) _ (by omega) (by omega) (by omega) (up _ (by unfold s_mF; rw [if_pos (by omega)]))
      · rw [if_pos h4, z_chk_pos (by omega), z_chk_pos (by omega), z_chk_pos (by omega)]
        exact ih (x + 1) _ (by omega) (by omega) (by omega) (up _ (by unfold s_mF; rw [if_neg (by omega)]; omega))
theorem s_hrD_two (n : Int) (K : Int → Int) (hr : Int) (D : Int → Int) : s_upto (s_mF K (s_upto (s_dF K hr D) D n)) (s_upto (s_dF K hr D) D n) n = s_hrD n K hr D := by
  funext y
  unfold s_hrD s_hF s_mF
  unfold s_upto
  by_cases h : 0 ≤ y ∧ y < n
  · simp only [if_pos h]
  · simp only [if_neg h]
theorem s_dF_ok (n m : Int) (K h D : Int → Int) (hr : Int) (hok : s_ok n K h D) : s_ok n K h (s_upto (s_dF K hr D) D m) := by
  intro x a b
  have q := hok x a b
  unfold s_upto s_dF
  refine ⟨q.1, ?_, ?_⟩ <;> grind
theorem p6_shines (N : Nat) (hN : 1000000 ≤ N) (R C hr : Int) (K t s h D : Int → Int) (ht : s_tk R C K t) (ha : s_ag s h D hr) (hok : s_ok (R * C) K h D) (hh : 0 ≤ hr ∧ hr ≤ 900000) : ∃ s', m_X6_shines N t s = some s' ∧ s_ag s' h (s_hour (R * C) (s_nb R C K) K h hr D) (hr + 1) := by
  have hn := s_dim_n ht.1
  have e0 := ha.2.2
  obtain ⟨s1, e1, a1⟩ := p6_shines_l1 N R C (hr + 1) K t h D ht hok (by omega) N 0 (z_up s 72 (hr + 1)) (by omega) (by omega) (by omega) (by rw [s_upto_0]; exact s_ag_hr ha)
  obtain ⟨s2, e2, a2⟩ := p6_shines_l2 N R C (hr + 1) K t h _ ht (s_dF_ok _ (R * C) K h D (hr + 1) hok) N 0 s1 (by omega) (by omega) (by omega) (by rw [s_upto_0]; exact a1)
  rw [s_hrD_two] at a2
  obtain ⟨s3, e3, a3⟩ := p6_flows N hN R C (hr + 1) K t s2 h _ ht a2 (s_hrD_ok _ K h D _ hok)
  exact ⟨s3, by rw [m_X6_shines, e0, z_chk_pos (by omega), z_chk_pos (by omega), z_chk_pos (by omega), e1, p_b1, e2, p_b1, e3, p_b1], a3⟩
theorem p6_hours (N : Nat) (hN : 1000000 ≤ N) (R C hr k : Int) (K t h D : Int → Int) (F : Nat → Int → (Int → Int) → Option (Int → Int)) (h0 : ∀ f v s, F (f + 1) v s = if k ≤ v then some s else (z_b1 (m_X6_shines N t s) (fun s2 => z_chk (z_n (v + 1)) (F f (v + 1) s2)))) (ht : s_tk R C K t) (hok : s_ok (R * C) K h D) (hh : 0 ≤ hr ∧ hr ≤ 800000) (hk : k ≤ 10000) : ∀ (f : Nat) (v : Nat) (s : Int → Int), (v : Int) ≤ k → (k - v).toNat < f → s_ag s h (s_hs (R * C) (s_nb R C K) K h hr v D) (hr + v) → ∃ s', F f v s = some s' ∧ s_ag s' h (s_hs (R * C) (s_nb R C K) K h hr k.toNat D) (hr + k) := by
  have hn := s_dim_n ht.1
  have hE := s_env_nb K ht.1
  intro f
  induction f with
  | zero => intro v s _ hf; omega
  | succ f ih =>
    intro v s g1 hf ha
    rw [h0]
    by_cases hc : k ≤ v
    · rw [if_pos hc]
      have : k = v := by omega
      subst this
      exact ⟨s, rfl, ha⟩
    · obtain ⟨s', e, ha'⟩ := p6_shines N hN R C (hr + v) K t s h _ ht ha (s_hs_ok _ _ K h D hr hE hok v) (by omega)
      rw [if_neg hc, e, p_b1, z_chk_pos (by omega), show (v : Int) + 1 = ((v + 1 : Nat) : Int) from rfl]
      refine ih (v + 1) s' (by omega) (by omega) ?_
      rw [show hr + ((v + 1 : Nat) : Int) = hr + v + 1 by omega]
      exact ha'
/-! one step of the boot -/
def s_bt (nb : Int → Int → Int) (K : Int → Int) (x : Int) : Nat → (Int → Int) → (Int → Int)
  | 0, D => D
  | v + 1, D => if 0 ≤ nb x v ∧ 0 < s_bt nb K x v D x then s_drop K (s_bt nb K x v D) x (nb x v) else s_bt nb K x v D
def s_boot (n : Int) (nb : Int → Int → Int) (K h : Int → Int) (x : Int) (D : Int → Int) : Int → Int := s_flow n nb K h (s_bt nb K x 4 D)
theorem s_drop_ok (n : Int) (K h D : Int → Int) (hn : n ≤ 36) (hok : s_ok n K h D) (x y : Int) (hx : 0 ≤ x ∧ x < n) (hy : 0 ≤ y ∧ y < n) (hK : K y ≠ 3) (hxy : x ≠ y) (hd : 0 < D x) : s_ok n K h (s_drop K D x y) := by
  intro z a b
  have q := hok z a b
  have qx := hok x hx.1 (by omega)
  have qy := hok y hy.1 (by omega)
  rw [s_drop_at K D x y z hxy]
  refine ⟨q.1, ?_, ?_⟩ <;> grind
theorem s_bt_ok (n : Int) (nb : Int → Int → Int) (K h D : Int → Int) (hE : s_env n nb K) (hok : s_ok n K h D) (x : Int) (hx : 0 ≤ x ∧ x < n) (hne : ∀ v, 0 ≤ v → v ≤ 3 → 0 ≤ nb x v → nb x v ≠ x) : ∀ v : Nat, v ≤ 4 → s_ok n K h (s_bt nb K x v D) := by
  intro v
  induction v with
  | zero => intro _; exact hok
  | succ v ih =>
    intro hv
    have i := ih (by omega)
    rw [s_bt]
    have nbv := hE.2.1 x v
    by_cases hc : 0 ≤ nb x v ∧ 0 < s_bt nb K x v D x
    · rw [if_pos hc]
      exact s_drop_ok n K h _ hE.1.2 i x _ hx (by omega) (by omega) (fun z => hne v (by omega) (by omega) hc.1 z.symm) hc.2
    · rw [if_neg hc]; exact i
theorem s_boot_ok (n : Int) (nb : Int → Int → Int) (K h D : Int → Int) (hE : s_env n nb K) (hok : s_ok n K h D) (x : Int) (hx : 0 ≤ x ∧ x < n) (hne : ∀ v, 0 ≤ v → v ≤ 3 → 0 ≤ nb x v → nb x v ≠ x) : s_ok n K h (s_boot n nb K h x D) := s_flow_ok n nb K h _ hE (s_bt_ok n nb K h D hE hok x hx hne 4 (by omega))
theorem p_cellBeside (N : Nat) (n : Int) (nb : Int → Int → Int) (be : Int → Int) (bb : Int → Int64) (hn : n ≤ 36) (hg : s_gb n nb be bb) (x s : Int) (hx : 0 ≤ x ∧ x < n) (hs : 0 ≤ s ∧ s ≤ 3) : m_X0_cellBeside N be x s = some (s_be (nb x s)) := by
  rw [m_X0_cellBeside, z_chk_pos (by omega), z_chk_pos (by omega), if_neg (by omega), if_neg (by omega), z_chk_pos (by omega), hg.1 x s hx.1 hx.2 hs.1 hs.2]
theorem p_stepInto_l1 (N : Nat) (n : Int) (nb : Int → Int → Int) (K h D be : Int → Int) (bb : Int → Int64) (hE : s_env n nb K) (hok : s_ok n K h D) (hg : s_gb n nb be bb) (x : Int) (hx : 0 ≤ x ∧ x < n) (hne : ∀ v, 0 ≤ v → v ≤ 3 → 0 ≤ nb x v → nb x v ≠ x) : ∀ (f : Nat) (v : Nat), v ≤ 4 → 4 - v < f → m_X4_stepInto_l1 N be x n K f v (s_bt nb K x v D) = some (s_bt nb K x 4 D) := by
  have hn := hE.1
  intro f
  induction f with
  | zero => intro v _ hf; omega
  | succ f ih =>
    intro v g1 hf
    rw [m_X4_stepInto_l1]
    by_cases hc : 4 ≤ v
    · rw [if_pos (by omega)]
      have : v = 4 := by omega
      subst this
      rfl
    · have i := s_bt_ok n nb K h D hE hok x hx hne v (by omega)
      have nbv := hE.2.1 x v
      have ev : s_bt nb K x (v + 1) D = if 0 ≤ nb x v ∧ 0 < s_bt nb K x v D x then s_drop K (s_bt nb K x v D) x (nb x v) else s_bt nb K x v D := rfl
      have go := ih (v + 1) (by omega) (by omega)
      rw [show ((v + 1 : Nat) : Int) = (v : Int) + 1 from rfl, ev] at go
      rw [if_neg (by omega), p_cellBeside N n nb be bb hn.2 hg x v hx (by omega), p_b1]
      generalize s_bt nb K x v D = d at *
      have hy0 : nb x v < 0 ∨ (0 ≤ nb x v ∧ nb x v < n ∧ K (nb x v) ≠ 3) := by omega
      by_cases hy : nb x v < 0
      · have e0 : m_X0_holds N n (s_be (nb x v)) = some 0 := by rw [p_holds, if_neg (by unfold s_be; rw [if_pos hy]; omega)]
        rw [if_neg (by omega)] at go
        rw [e0, p_b1, if_pos rfl, z_chk_pos (by omega)]
        exact go
      · have eb : s_be (nb x v) = nb x v := if_neg hy
        have e0 : m_X0_holds N n (nb x v) = some 1 := by rw [p_holds, if_pos (by omega)]
        have e1 : m_X0_holds N n x = some 1 := by rw [p_holds, if_pos (by omega)]
        rw [eb, e0, p_b1, if_neg (by decide), e1, p_b1, if_neg (by decide), z_chk_pos (by omega)]
        by_cases hd : d x ≤ 0
        · rw [if_neg (by omega)] at go
          rw [if_pos hd, z_chk_pos (by omega)]
          exact go
        · have qx := i x hx.1 (by omega)
          have ne := hne v (by omega) (by omega) (by omega)
          rw [if_pos (by omega)] at go
          rw [if_neg hd, z_chk_pos (by omega), z_chk_pos (by omega), z_chk_pos (by omega), p_putDrop N _ n K (nb x v) (fun z a b => by
            have qz := i z a b
            unfold z_up
            by_cases hz : z = x
            · rw [if_pos hz]; omega
            · rw [if_neg hz]; omega), p_b1, z_chk_pos (by omega)]
          have ed : (if 0 ≤ nb x v ∧ nb x v < n ∧ nb x v < 36 ∧ K (nb x v) ≠ 3 ∧ K (nb x v) ≠ 2 ∧ z_up d x (d x - 1) (nb x v) < 60 then z_up (z_up d x (d x - 1)) (nb x v) (z_up d x (d x - 1) (nb x v) + 1) else z_up d x (d x - 1)) = s_drop K d x (nb x v) := by
            unfold s_drop
            by_cases h6 : K (nb x v) ≠ 2 ∧ z_up d x (d x - 1) (nb x v) < 60
            · rw [if_pos h6, if_pos ⟨by omega, by omega, by omega, by omega, h6.1, h6.2⟩]
            · rw [if_neg h6, if_neg (fun z => h6 z.2.2.2.2)]
          rw [ed]
          exact go
theorem p_stepInto (N : Nat) (hN : 1000000 ≤ N) (n : Int) (nb : Int → Int → Int) (K h D be : Int → Int) (bb : Int → Int64) (hE : s_env n nb K) (hok : s_ok n K h D) (hg : s_gb n nb be bb) (r : Int64) (x : Int) (hx : 0 ≤ x ∧ x < n) (hne : ∀ v, 0 ≤ v → v ≤ 3 → 0 ≤ nb x v → nb x v ≠ x) : ∃ r', m_X4_stepInto N h D r n K be bb x = some (s_boot n nb K h x D, r') := by
  have e := p_stepInto_l1 N n nb K h D be bb hE hok hg x hx hne N 0 (by omega) (by omega)
  obtain ⟨r', e2⟩ := p_flow N hN n nb K h _ be bb hE (s_bt_ok n nb K h D hE hok x hx hne 4 (by omega)) hg r
  refine ⟨r', ?_⟩
  rw [m_X4_stepInto, show m_X4_stepInto_l1 N be x n K N 0 D = _ from e, p_b1, e2, p_b2]
  rfl
theorem s_nb_ne {R C : Int} {K : Int → Int} (h : s_dim R C) {x s : Int} (hs : 0 ≤ s ∧ s ≤ 3) (hn : 0 ≤ s_nb R C K x s) : s_nb R C K x s ≠ x := by
  have hc : 2 ≤ C := by have := h.2; omega
  unfold s_nb s_next at *
  grind
theorem p6_boot_l1 (N : Nat) (R C hr : Int) (K t h D : Int → Int) (ht : s_tk R C K t) (hok : s_ok (R * C) K h D) (x : Int) (hx : 0 ≤ x ∧ x < R * C) : ∀ (f : Nat) (v : Nat) (s : Int → Int), v ≤ 4 → 4 - v < f → s_ag s h (s_bt (s_nb R C K) K x v D) hr → ∃ s', m_X6_boot_l1 N t x f v s = some s' ∧ s_ag s' h (s_bt (s_nb R C K) K x 4 D) hr := by
  have hn := s_dim_n ht.1
  have hE := s_env_nb K ht.1
  have hne : ∀ v, 0 ≤ v → v ≤ 3 → 0 ≤ s_nb R C K x v → s_nb R C K x v ≠ x := fun v a b c => s_nb_ne ht.1 ⟨a, b⟩ c
  intro f
  induction f with
  | zero => intro v s _ hf; omega
  | succ f ih =>
    intro v s g1 hf ha
    rw [m_X6_boot_l1]
    by_cases hc : 4 ≤ v
    · rw [if_pos (by omega)]
      have : v = 4 := by omega
      subst this
      exact ⟨s, rfl, ha⟩
    · have i := s_bt_ok _ _ K h D hE hok x hx hne v (by omega)
      have nbv := hE.2.1 x v
      have ev : s_bt (s_nb R C K) K x (v + 1) D = if 0 ≤ s_nb R C K x v ∧ 0 < s_bt (s_nb R C K) K x v D x then s_drop K (s_bt (s_nb R C K) K x v D) x (s_nb R C K x v) else s_bt (s_nb R C K) K x v D := rfl
      have go := fun s => ih (v + 1) s (by omega) (by omega)
      rw [show ((v + 1 : Nat) : Int) = (v : Int) + 1 from rfl, ev] at go
      rw [if_neg (by omega), p6_nb N ht x v hx (by omega), p_b1]
      generalize s_bt (s_nb R C K) K x v D = d at *
      have ax := ha.1 x hx.1 (by omega)
      by_cases hy : s_nb R C K x v < 0
      · rw [if_neg (by omega)] at go
        rw [if_pos hy, z_chk_pos (by omega)]
        exact go s ha
      · rw [if_neg hy, z_chk_pos (by omega), ax]
        by_cases hd : d x ≤ 0
        · rw [if_neg (by omega)] at go
          rw [if_pos hd, z_chk_pos (by omega)]
          exact go s ha
        · rw [if_pos (by omega)] at go
          obtain ⟨s', e, ha'⟩ := p6_drops N (R * C) hr K t s h d ht.2.2.2 ha i x _ (by omega) (by omega) (fun z => hne v (by omega) (by omega) (by omega) z.symm) (by omega)
          rw [if_neg hd, e, p_b1, z_chk_pos (by omega)]
          exact go s' ha'
/-! sums and counts -/
def s_sum (D : Int → Int) : Nat → Int
  | 0 => 0
  | k + 1 => s_sum D k + D k
def s_wet (D : Int → Int) : Nat → Int
  | 0 => 0
  | k + 1 => s_wet D k + (if 0 < D k then 1 else 0)
theorem s_sum_b (D : Int → Int) (hD : ∀ x, 0 ≤ x → x < 36 → 0 ≤ D x ∧ D x ≤ 60) : ∀ k : Nat, k ≤ 36 → 0 ≤ s_sum D k ∧ s_sum D k ≤ 60 * k
  | 0, _ => by rw [s_sum]; omega
  | k + 1, h => by
    have := s_sum_b D hD k (by omega)
    have := hD k (by omega) (by omega)
    rw [s_sum]; omega
theorem s_wet_b (D : Int → Int) : ∀ k : Nat, 0 ≤ s_wet D k ∧ s_wet D k ≤ k
  | 0 => by rw [s_wet]; omega
  | k + 1 => by
    have := s_wet_b D k
    rw [s_wet]; split <;> omega
theorem p_allDrops_l1 (N : Nat) (n : Int) (D : Int → Int) (hn : 0 ≤ n ∧ n ≤ 36) (hD : ∀ x, 0 ≤ x → x < 36 → 0 ≤ D x ∧ D x ≤ 60) : ∀ (f : Nat) (x : Nat), (x : Int) ≤ n → (n - x).toNat < f → m_X4_allDrops_l1 N n D f (s_sum D x) x = some (s_sum D n.toNat) := by
  intro f
  induction f with
  | zero => intro x _ hf; omega
  | succ f ih =>
    intro x g1 hf
    rw [m_X4_allDrops_l1]
    by_cases hc : n ≤ x
    · rw [if_pos hc, show n.toNat = x by omega]
    · have q := hD x (by omega) (by omega)
      have b := s_sum_b D hD x (by omega)
      rw [if_neg hc, if_neg (by omega), z_chk_pos (by omega), z_chk_pos (by omega), z_chk_pos (by omega)]
      exact ih (x + 1) (by omega) (by omega)
theorem p_allDrops (N : Nat) (hN : 100 ≤ N) (n : Int) (D : Int → Int) (hn : 0 ≤ n ∧ n ≤ 36) (hD : ∀ x, 0 ≤ x → x < 36 → 0 ≤ D x ∧ D x ≤ 60) : m_X4_allDrops N D n = some (s_sum D n.toNat) := by
  rw [m_X4_allDrops, show m_X4_allDrops_l1 N n D N 0 0 = _ from p_allDrops_l1 N n D hn hD N 0 (by omega) (by omega), p_b1]
theorem p_wetCells_l1 (N : Nat) (n : Int) (D : Int → Int) (hn : 0 ≤ n ∧ n ≤ 36) : ∀ (f : Nat) (x : Nat), (x : Int) ≤ n → (n - x).toNat < f → m_X4_wetCells_l1 N n D f (s_wet D x) x = some (s_wet D n.toNat) := by
  intro f
  induction f with
  | zero => intro x _ hf; omega
  | succ f ih =>
    intro x g1 hf
    rw [m_X4_wetCells_l1]
    by_cases hc : n ≤ x
    · rw [if_pos hc, show n.toNat = x by omega]
    · have b := s_wet_b D x
      have go := ih (x + 1) (by omega) (by omega)
      rw [s_wet, show ((x + 1 : Nat) : Int) = (x : Int) + 1 from rfl] at go
      rw [if_neg hc, if_neg (by omega), z_chk_pos (by omega)]
      by_cases hd : D x ≤ 0
      · rw [if_neg (by omega), Int.add_zero] at go
        rw [if_pos hd, z_chk_pos (by omega)]
        exact go
      · rw [if_pos (by omega)] at go
        rw [if_neg hd, z_chk_pos (by omega), z_chk_pos (by omega)]
        exact go
theorem p_wetCells (N : Nat) (hN : 100 ≤ N) (n : Int) (D : Int → Int) (hn : 0 ≤ n ∧ n ≤ 36) : m_X4_wetCells N D n = some (s_wet D n.toNat) := by
  rw [m_X4_wetCells, show m_X4_wetCells_l1 N n D N 0 0 = _ from p_wetCells_l1 N n D hn N 0 (by omega) (by omega), p_b1]
theorem p6_all_l1 (N : Nat) (R C hr : Int) (K t s h D : Int → Int) (ht : s_tk R C K t) (ha : s_ag s h D hr) (hok : s_ok (R * C) K h D) : ∀ (f : Nat) (x : Nat), (x : Int) ≤ R * C → (R * C - x).toNat < f → m_X6_all_l1 N t s f (s_sum D x) x = some (s_sum D (R * C).toNat) := by
  have hn := s_dim_n ht.1
  intro f
  induction f with
  | zero => intro x _ hf; omega
  | succ f ih =>
    intro x g1 hf
    rw [m_X6_all_l1, p6_cells N ht, p_b1]
    by_cases hc : R * C ≤ x
    · rw [if_pos hc, show (R * C).toNat = x by omega]
    · have q := hok x (by omega) (by omega)
      have b := s_sum_b D (fun y a b => (hok y a b).2.1) x (by omega)
      rw [if_neg hc, z_chk_pos (by omega), ha.1 x (by omega) (by omega), z_chk_pos (by omega), z_chk_pos (by omega)]
      exact ih (x + 1) (by omega) (by omega)
theorem p6_all (N : Nat) (hN : 100 ≤ N) (R C hr : Int) (K t s h D : Int → Int) (ht : s_tk R C K t) (ha : s_ag s h D hr) (hok : s_ok (R * C) K h D) : m_X6_all N t s = some (s_sum D (R * C).toNat) := by
  have hn := s_dim_n ht.1
  rw [m_X6_all, show m_X6_all_l1 N t s N 0 0 = _ from p6_all_l1 N R C hr K t s h D ht ha hok N 0 (by omega) (by omega), p_b1]
theorem p6_wet_l1 (N : Nat) (R C hr : Int) (K t s h D : Int → Int) (ht : s_tk R C K t) (ha : s_ag s h D hr) : ∀ (f : Nat) (x : Nat), (x : Int) ≤ R * C → (R * C - x).toNat < f → m_X6_wet_l1 N t s f (s_wet D x) x = some (s_wet D (R * C).toNat) := by
  have hn := s_dim_n ht.1
  intro f
  induction f with
  | zero => intro x _ hf; omega
  | succ f ih =>
    intro x g1 hf
    rw [m_X6_wet_l1, p6_cells N ht, p_b1]
    by_cases hc : R * C ≤ x
    · rw [if_pos hc, show (R * C).toNat = x by omega]
    · have b := s_wet_b D x
      have go := ih (x + 1) (by omega) (by omega)
      rw [s_wet, show ((x + 1 : Nat) : Int) = (x : Int) + 1 from rfl] at go
      rw [if_neg hc, z_chk_pos (by omega), ha.1 x (by omega) (by omega)]
      by_cases hd : D x ≤ 0
      · rw [if_neg (by omega)] at go
        rw [if_pos hd, z_chk_pos (by omega), z_chk_pos (by omega)]
        exact go
      · rw [if_pos (by omega)] at go
        rw [if_neg hd, z_chk_pos (by omega), z_chk_pos (by omega)]
        exact go
theorem p6_wet (N : Nat) (hN : 100 ≤ N) (R C hr : Int) (K t s h D : Int → Int) (ht : s_tk R C K t) (ha : s_ag s h D hr) : m_X6_wet N t s = some (s_wet D (R * C).toNat) := by
  have hn := s_dim_n ht.1
  rw [m_X6_wet, show m_X6_wet_l1 N t s N 0 0 = _ from p6_wet_l1 N R C hr K t s h D ht ha N 0 (by omega) (by omega), p_b1]
/-! the lowest wet cell -/
def s_low (n : Int) (D : Int → Int) (v : Int) : Prop := (v = -4 ∧ ∀ y, 0 ≤ y → y < n → D y ≤ 0) ∨ (0 ≤ v ∧ v < n ∧ 0 < D v ∧ ∀ y, 0 ≤ y → y < v → D y ≤ 0)
theorem s_low_one {n : Int} {D : Int → Int} {v w : Int} (a : s_low n D v) (b : s_low n D w) : v = w := by
  rcases a with ⟨a, a2⟩ | ⟨a, a2, a3, a4⟩ <;> rcases b with ⟨b, b2⟩ | ⟨b, b2, b3, b4⟩
  · omega
  · have := a2 w b b2; omega
  · have := b2 v a a2; omega
  · by_cases h : v < w
    · have := b4 v a h; omega
    · by_cases h2 : w < v
      · have := a4 w b h2; omega
      · omega
theorem p_firstWet_l1 (N : Nat) (n : Int) (D : Int → Int) (hn : 0 ≤ n ∧ n ≤ 36) : ∀ (f : Nat) (x : Int), 0 ≤ x → x ≤ n → (n - x).toNat < f → (∀ y, 0 ≤ y → y < x → D y ≤ 0) → ∃ v, m_X4_firstWet_l1 N n D f x = some v ∧ s_low n D v := by
  intro f
  induction f with
  | zero => intro x _ _ hf; omega
  | succ f ih =>
    intro x g0 g1 hf hy
    rw [m_X4_firstWet_l1]
    by_cases hc : n ≤ x
    · rw [if_pos hc]
      exact ⟨-4, rfl, Or.inl ⟨rfl, fun y a b => hy y a (by omega)⟩⟩
    · rw [if_neg hc, if_neg (by omega), z_chk_pos (by omega)]
      by_cases hd : D x ≤ 0
      · rw [if_pos hd, z_chk_pos (by omega)]
        refine ih (x + 1) (by omega) (by omega) (by omega) (fun y a b => ?_)
        by_cases e : y = x
        · rw [e]; exact hd
        · exact hy y a (by omega)
      · rw [if_neg hd]
        exact ⟨x, rfl, Or.inr ⟨g0, by omega, by omega, hy⟩⟩
theorem p_firstWet (N : Nat) (hN : 100 ≤ N) (n : Int) (D : Int → Int) (hn : 0 ≤ n ∧ n ≤ 36) : ∃ v, m_X4_firstWet N D n = some v ∧ s_low n D v := by
  rw [m_X4_firstWet]
  exact p_firstWet_l1 N n D hn N 0 (by omega) (by omega) (by omega) (fun y a b => by omega)
theorem p6_lowest_l1 (N : Nat) (n : Int) (s D : Int → Int) (hn : 0 ≤ n ∧ n ≤ 36) (ha : ∀ x, 0 ≤ x → x < 36 → s x = D x) : ∀ (f : Nat) (v x : Int), -1 ≤ x → x < n → (x + 1).toNat < f → ((v = -4 ∧ ∀ y, x < y → y < n → D y ≤ 0) ∨ (x < v ∧ v < n ∧ 0 < D v ∧ ∀ y, x < y → y < v → D y ≤ 0)) → ∃ v', m_X6_lowest_l1 N s f v x = some v' ∧ s_low n D v' := by
  intro f
  induction f with
  | zero => intro v x _ _ hf; omega
  | succ f ih =>
    intro v x g0 g1 hf hv
    rw [m_X6_lowest_l1]
    by_cases hc : x < 0
    · rw [if_pos hc]
      refine ⟨v, rfl, ?_⟩
      rcases hv with ⟨e, q⟩ | ⟨a, b, c, q⟩
      · exact Or.inl ⟨e, fun y i j => q y (by omega) j⟩
      · exact Or.inr ⟨by omega, b, c, fun y i j => q y (by omega) j⟩
    · rw [if_neg hc, z_chk_pos (by omega), ha x (by omega) (by omega)]
      by_cases hd : D x ≤ 0
      · rw [if_pos hd, z_chk_pos (by omega)]
        refine ih v (x + -1) (by omega) (by omega) (by omega) ?_
        rcases hv with ⟨e, q⟩ | ⟨a, b, c, q⟩
        · refine Or.inl ⟨e, fun y i j => ?_⟩
          by_cases hyx : y = x
          · rw [hyx]; exact hd
          · exact q y (by omega) j
        · refine Or.inr ⟨by omega, b, c, fun y i j => ?_⟩
          by_cases hyx : y = x
          · rw [hyx]; exact hd
          · exact q y (by omega) j
      · rw [if_neg hd, z_chk_pos (by omega)]
        exact ih x (x + -1) (by omega) (by omega) (by omega) (Or.inr ⟨by omega, g1, by omega, fun y i j => by omega⟩)
theorem p6_lowest (N : Nat) (hN : 100 ≤ N) (R C hr : Int) (K t s h D : Int → Int) (ht : s_tk R C K t) (ha : s_ag s h D hr) : ∃ v, m_X6_lowest N t s = some v ∧ s_low (R * C) D v := by
  have hn := s_dim_n ht.1
  obtain ⟨v, e, hv⟩ := p6_lowest_l1 N (R * C) s D (by omega) ha.1 N (-4) (R * C - 1) (by omega) (by omega) (by omega) (Or.inl ⟨rfl, fun y i j => by omega⟩)
  exact ⟨v, by rw [m_X6_lowest, p6_cells N ht, p_b1, z_chk_pos (by omega), e, p_b1], hv⟩
