/-! states: which wet cells are one -/
def s_cn (nb : Int → Int → Int) (D : Int → Int) (x y : Int) : Prop := ∀ S : Int → Prop, S x → (∀ a s, S a → 0 ≤ s → s ≤ 3 → 0 ≤ nb a s → 0 < D (nb a s) → S (nb a s)) → S y
theorem s_cn_refl (nb : Int → Int → Int) (D : Int → Int) (x : Int) : s_cn nb D x x := fun _ h _ => h
theorem s_cn_step {nb : Int → Int → Int} {D : Int → Int} {x y s : Int} (h : s_cn nb D x y) (hs : 0 ≤ s ∧ s ≤ 3) (hn : 0 ≤ nb y s) (hd : 0 < D (nb y s)) : s_cn nb D x (nb y s) := fun S a b => b y s (h S a b) hs.1 hs.2 hn hd
def s_gr (n : Int) (nb : Int → Int → Int) (D : Int → Int) : Prop := (0 ≤ n ∧ n ≤ 36) ∧ (∀ y s, nb y s = -1 ∨ (0 ≤ nb y s ∧ nb y s < n)) ∧ ∀ y s, 0 ≤ y → y < n → 0 < D y → 0 ≤ s → s ≤ 3 → 0 ≤ nb y s → ∃ s', (0 ≤ s' ∧ s' ≤ 3) ∧ nb (nb y s) s' = y
theorem s_gr_of {n : Int} {nb : Int → Int → Int} {K h D : Int → Int} (hE : s_env n nb K) (hok : s_ok n K h D) : s_gr n nb D := by
  refine ⟨hE.1, fun y s => ?_, fun y s a b c d e f => ?_⟩
  · have := hE.2.1 y s
    omega
  · have q := hok y a (by have := hE.1; omega)
    exact hE.2.2 y s a b (fun z => by have := q.2.2 (by omega); omega) d e f
def s_lab (e n : Int) (nb : Int → Int → Int) (D L : Int → Int) : Prop := ∀ x, 0 ≤ x → x < n → (D x ≤ 0 → L x = e) ∧ (0 < D x → (0 ≤ L x ∧ L x ≤ x ∧ 0 < D (L x) ∧ s_cn nb D (L x) x) ∧ ∀ s, 0 ≤ s → s ≤ 3 → 0 ≤ nb x s → 0 < D (nb x s) → L (nb x s) = L x)
theorem s_lab_cn {e n : Int} {nb : Int → Int → Int} {D L : Int → Int} (hg : s_gr n nb D) (hl : s_lab e n nb D L) {x y : Int} (hx : 0 ≤ x ∧ x < n) (hd : 0 < D x) (h : s_cn nb D x y) : (0 ≤ y ∧ y < n) ∧ 0 < D y ∧ L y = L x := by
  refine h (fun y => (0 ≤ y ∧ y < n) ∧ 0 < D y ∧ L y = L x) ⟨hx, hd, rfl⟩ (fun a s q g0 g1 g2 g3 => ?_)
  have b := hg.2.1 a s
  exact ⟨by omega, g3, by rw [((hl a q.1.1 q.1.2).2 q.2.1).2 s g0 g1 g2 g3]; exact q.2.2⟩
theorem s_lab_one {e1 e2 n : Int} {nb : Int → Int → Int} {D L1 L2 : Int → Int} (hg : s_gr n nb D) (h1 : s_lab e1 n nb D L1) (h2 : s_lab e2 n nb D L2) {x : Int} (hx : 0 ≤ x ∧ x < n) (hd : 0 < D x) : L1 x = L2 x := by
  have a := ((h1 x hx.1 hx.2).2 hd).1
  have b := ((h2 x hx.1 hx.2).2 hd).1
  have c := s_lab_cn hg h1 (x := L2 x) (by omega) b.2.2.1 b.2.2.2
  have d := s_lab_cn hg h2 (x := L1 x) (by omega) a.2.2.1 a.2.2.2
  have c2 := ((h1 (L2 x) b.1 (by omega)).2 b.2.2.1).1
  have d2 := ((h2 (L1 x) a.1 (by omega)).2 a.2.2.1).1
  omega
/-- how many of the first k have the label c -/
def s_ct (L : Int → Int) (c : Int) : Nat → Int
  | 0 => 0
  | k + 1 => s_ct L c k + (if L k = c then 1 else 0)
theorem s_ct_b (L : Int → Int) (c : Int) : ∀ k : Nat, 0 ≤ s_ct L c k ∧ s_ct L c k ≤ k
  | 0 => by rw [s_ct]; omega
  | k + 1 => by
    have := s_ct_b L c k
    rw [s_ct]; split <;> omega
theorem s_ct_same (L L' : Int → Int) (c : Int) : ∀ k : Nat, (∀ y : Int, 0 ≤ y → y < k → (L y = c ↔ L' y = c)) → s_ct L c k = s_ct L' c k
  | 0, _ => rfl
  | k + 1, h => by
    have := s_ct_same L L' c k (fun y a b => h y a (by omega))
    have e := h k (by omega) (by omega)
    rw [s_ct, s_ct, this]
    by_cases q : L k = c
    · rw [if_pos q, if_pos (e.mp q)]
    · rw [if_neg q, if_neg (fun z => q (e.mpr z))]
theorem s_ct_up (L : Int → Int) (c z : Int) (hz : 0 ≤ z) (hL : L z ≠ c) : ∀ k : Nat, s_ct (z_up L z c) c k = s_ct L c k + (if z < k then 1 else 0)
  | 0 => by rw [s_ct, s_ct, if_neg (by omega)]; rfl
  | k + 1 => by
    rw [s_ct, s_ct, s_ct_up L c z hz hL k]
    unfold z_up
    grind
theorem s_ct_less (L : Int → Int) (c z : Int) (hz : 0 ≤ z) (hL : L z ≠ c) (k : Nat) (hk : z < k) : s_ct L c k ≤ k - 1 := by
  have a := s_ct_up L c z hz hL k
  have b := s_ct_b (z_up L z c) c k
  rw [if_pos hk] at a
  omega
/-- how many of the first k are their own label -/
def s_rt (L : Int → Int) : Nat → Int
  | 0 => 0
  | k + 1 => s_rt L k + (if L k = k then 1 else 0)
theorem s_rt_b (L : Int → Int) : ∀ k : Nat, 0 ≤ s_rt L k ∧ s_rt L k ≤ k
  | 0 => by rw [s_rt]; omega
  | k + 1 => by
    have := s_rt_b L k
    rw [s_rt]; split <;> omega
theorem s_rt_same (L L' : Int → Int) : ∀ k : Nat, (∀ y : Int, 0 ≤ y → y < k → (L y = y ↔ L' y = y)) → s_rt L k = s_rt L' k
  | 0, _ => rfl
  | k + 1, h => by
    have := s_rt_same L L' k (fun y a b => h y a (by omega))
    have e := h k (by omega) (by omega)
    rw [s_rt, s_rt, this]
    by_cases q : L k = k
    · rw [if_pos q, if_pos (e.mp q)]
    · rw [if_neg q, if_neg (fun z => q (e.mpr z))]
/-! the class walks one state -/
def s_sp (n : Int) (nb : Int → Int → Int) (D : Int → Int) (c : Int) (L0 L : Int → Int) (Q : Int → Prop) : Prop :=
  (∀ y, 0 ≤ y → y < n → D y ≤ 0 → L y = -4) ∧
  (∀ y, 0 ≤ y → y < n → 0 < D y → L y = -4 ∨ (0 ≤ L y ∧ L y ≤ y ∧ 0 < D (L y) ∧ s_cn nb D (L y) y)) ∧
  (∀ y s, 0 ≤ y → y < n → 0 < D y → L y ≠ -4 → 0 ≤ s → s ≤ 3 → 0 ≤ nb y s → 0 < D (nb y s) → L (nb y s) = L y ∨ (L (nb y s) = -4 ∧ Q y)) ∧
  (∀ y, Q y → (0 ≤ y ∧ y < n) ∧ 0 < D y ∧ L y = c) ∧
  (∀ y, 0 ≤ y → y < c → 0 < D y → L y ≠ -4) ∧
  ((0 ≤ c ∧ c < n) ∧ 0 < D c) ∧
  (∀ y, 0 ≤ y → y < n → (L0 y ≠ -4 → L y = L0 y) ∧ (L0 y = -4 → L y = -4 ∨ L y = c))
theorem s_sp_claim {n : Int} {nb : Int → Int → Int} {D : Int → Int} {c : Int} {L0 L : Int → Int} {Q Q' : Int → Prop} (hg : s_gr n nb D) (h : s_sp n nb D c L0 L Q) {z : Int} (hz : 0 ≤ z ∧ z < n) (hd : 0 < D z) (hL : L z = -4) (hQ : ∀ y, Q' y ↔ Q y ∨ y = z) (hc : s_cn nb D c z) : s_sp n nb D c L0 (z_up L z c) Q' := by
  obtain ⟨h1, h2, h3, h4, h5, h6, h7⟩ := h
  have up : ∀ y, z_up L z c y = if y = z then c else L y := fun y => rfl
  have hcz : c ≤ z := by
    by_cases q : z < c
    · exact absurd hL (h5 z hz.1 q hd)
    · omega
  refine ⟨fun y a b d => ?_, fun y a b d => ?_, fun y s a b d e f g i j => ?_, fun y q => ?_, fun y a b d => ?_, h6, fun y a b => ?_⟩
  · rw [up, if_neg (fun q => by rw [q] at d; omega)]
    exact h1 y a b d
  · rw [up]
    by_cases q : y = z
    · rw [if_pos q]
      exact Or.inr ⟨h6.1.1, by omega, h6.2, by rw [q]; exact hc⟩
    · rw [if_neg q]; exact h2 y a b d
  · have bs := hg.2.1 y s
    by_cases q : y = z
    · rw [up, up, if_pos q]
      by_cases q2 : nb y s = z
      · rw [if_pos q2]; exact Or.inl rfl
      · rw [if_neg q2]
        by_cases q3 : L (nb y s) = -4
        · exact Or.inr ⟨q3, (hQ y).mpr (Or.inr q)⟩
        · obtain ⟨s', hs', e'⟩ := hg.2.2 y s a b d f g i
          rcases h3 (nb y s) s' i (by omega) j q3 hs'.1 hs'.2 (by rw [e']; exact a) (by rw [e']; exact d) with w | w
          · rw [e', show L y = -4 by rw [q]; exact hL] at w
            exact absurd w.symm q3
          · exact Or.inl (h4 _ w.2).2.2
    · rw [up, if_neg q] at e
      rw [up, up, if_neg q]
      by_cases q2 : nb y s = z
      · rw [if_pos q2]
        rcases h3 y s a b d e f g i j with w | w
        · rw [q2, hL] at w
          exact absurd w.symm e
        · exact Or.inl (h4 y w.2).2.2.symm
      · rw [if_neg q2]
        exact (h3 y s a b d e f g i j).imp id (fun w => ⟨w.1, (hQ y).mpr (Or.inl w.2)⟩)
  · rw [up]
    by_cases q2 : y = z
    · rw [if_pos q2, q2]; exact ⟨hz, hd, rfl⟩
    · rw [if_neg q2]
      exact h4 y (((hQ y).mp q).resolve_right q2)
  · rw [up]
    by_cases q2 : y = z
    · rw [if_pos q2]; omega
    · rw [if_neg q2]; exact h5 y a b d
  · rw [up]
    have w := h7 y a b
    by_cases q2 : y = z
    · rw [if_pos q2]
      refine ⟨fun u => ?_, fun _ => Or.inr rfl⟩
      rw [q2] at w u
      exact absurd ((w.1 u).symm.trans hL) u
    · rw [if_neg q2]; exact w
theorem s_sp_iff {n : Int} {nb : Int → Int → Int} {D : Int → Int} {c : Int} {L0 L : Int → Int} {Q Q' : Int → Prop} (h : s_sp n nb D c L0 L Q) (e : ∀ y, Q y ↔ Q' y) : s_sp n nb D c L0 L Q' := by
  have : Q = Q' := funext fun y => propext (e y)
  rw [← this]; exact h
theorem s_sp_drop {n : Int} {nb : Int → Int → Int} {D : Int → Int} {c : Int} {L0 L : Int → Int} {Q Q' : Int → Prop} (h : s_sp n nb D c L0 L Q') {x : Int} (hQ : ∀ y, Q' y → Q y ∨ y = x) (hQ2 : ∀ y, Q y → Q' y) (hx : ∀ s, 0 ≤ s → s ≤ 3 → 0 ≤ nb x s → 0 < D (nb x s) → L (nb x s) ≠ -4) : s_sp n nb D c L0 L Q := by
  obtain ⟨h1, h2, h3, h4, h5, h6, h7⟩ := h
  refine ⟨h1, h2, fun y s a b d e f g i j => ?_, fun y q => h4 y (hQ2 y q), h5, h6, h7⟩
  rcases h3 y s a b d e f g i j with w | w
  · exact Or.inl w
  · rcases hQ y w.2 with q | q
    · exact Or.inr ⟨w.1, q⟩
    · rw [q] at w i j
      exact absurd w.1 (hx s f g i j)
def s_q (W : Int → Int) (k : Int) (y : Int) : Prop := ∃ i, 0 ≤ i ∧ i < k ∧ W i = y
theorem p_claim (N : Nat) (L W D : Int → Int) (k z c : Int) (hk : 0 ≤ k) : m_X2_claim N L W k D z c = if 0 ≤ z ∧ z < 36 ∧ 0 < D z ∧ L z = -4 ∧ k < 36 then some (z_up L z c, z_up W k z, k + 1) else some (L, W, k) := by
  unfold m_X2_claim
  by_cases h0 : z < 0
  · rw [if_pos h0, if_neg (by omega)]
  · rw [if_neg h0]
    by_cases h1 : 36 ≤ z
    · rw [if_pos h1, if_neg (by omega)]
    · rw [if_neg h1, z_chk_pos (by omega)]
      by_cases h2 : D z ≤ 0
      · rw [if_pos h2, if_neg (by omega)]
      · rw [if_neg h2, z_chk_pos (by omega)]
        by_cases h3 : L z = -4
        · rw [if_neg (fun q => q h3)]
          by_cases h4 : 36 ≤ k
          · rw [if_pos h4, if_neg (by omega)]
          · rw [if_neg h4, z_chk_pos (by omega), z_chk_pos (by omega), z_chk_pos (by omega), if_pos (by omega)]
        · rw [if_pos h3, if_neg (by omega)]
theorem s_q_up (W : Int → Int) (k z y : Int) (hk : 0 ≤ k) : s_q (z_up W k z) (k + 1) y ↔ s_q W k y ∨ y = z := by
  unfold s_q z_up
  constructor
  · rintro ⟨i, a, b, e⟩
    by_cases q : i = k
    · rw [if_pos q] at e; exact Or.inr e.symm
    · rw [if_neg q] at e; exact Or.inl ⟨i, a, by omega, e⟩
  · rintro (⟨i, a, b, e⟩ | e)
    · exact ⟨i, a, by omega, by rw [if_neg (by omega)]; exact e⟩
    · exact ⟨k, hk, by omega, by rw [if_pos rfl]; exact e.symm⟩
theorem p_spread_l2 (N : Nat) (n : Int) (nb : Int → Int → Int) (D be : Int → Int) (bb : Int → Int64) (hG : s_gr n nb D) (hg : s_gb n nb be bb) (c x p : Int) (L0 : Int → Int) (hx : 0 ≤ x ∧ x < n) (hdx : 0 < D x) : ∀ (f : Nat) (v : Nat) (L W : Int → Int) (k : Int), v ≤ 4 → 4 - v < f → 0 ≤ k → 0 ≤ p → p + k ≤ s_ct L c n.toNat → s_sp n nb D c L0 L (fun y => s_q W k y ∨ y = x) → (∀ s : Int, 0 ≤ s → s < v → 0 ≤ nb x s → 0 < D (nb x s) → L (nb x s) ≠ -4) → ∃ L' W' k', m_X2_spread_l2 N be x D c f v L W k = some (L', W', k') ∧ 0 ≤ k' ∧ p + k' ≤ s_ct L' c n.toNat ∧ s_sp n nb D c L0 L' (s_q W' k') := by
  have hn := hG.1
  intro f
  induction f with
  | zero => intro v L W k _ hf; omega
  | succ f ih =>
    intro v L W k g1 hf hk hp hct hsp hsn
    rw [m_X2_spread_l2]
    by_cases hc : 4 ≤ v
    · rw [if_pos (by omega)]
      exact ⟨L, W, k, rfl, hk, hct, s_sp_drop hsp (fun y q => q) (fun y q => Or.inl q) (fun s a b d e => hsn s a (by omega) d e)⟩
    · have nbv := hG.2.1 x v
      rw [if_neg (by omega), p_cellBeside N n nb be bb hn.2 hg x v hx (by omega), p_b1, p_claim N L W D k _ c hk]
      have hE : 0 ≤ s_be (nb x v) ↔ 0 ≤ nb x v := by unfold s_be; split <;> omega
      have hE2 : 0 ≤ nb x v → s_be (nb x v) = nb x v := fun q => by unfold s_be; rw [if_neg (by omega)]
      by_cases q : 0 ≤ s_be (nb x v) ∧ s_be (nb x v) < 36 ∧ 0 < D (s_be (nb x v)) ∧ L (s_be (nb x v)) = -4 ∧ k < 36
      · rw [if_pos q, p_b3, z_chk_pos (by omega)]
        have e0 := hE2 (hE.mp q.1)
        have w1 : 0 ≤ nb x v ∧ nb x v < n := by have := hE.mp q.1; omega
        rw [e0] at q ⊢
        have hcc := hsp.2.2.2.1 x (Or.inr rfl)
        have cx : s_cn nb D c x := by
          rcases hsp.2.1 x hx.1 hx.2 hdx with w | w
          · have := hsp.2.2.2.2.2.1; rw [hcc.2.2] at w; omega
          · rw [hcc.2.2] at w; exact w.2.2.2
        have hcp := hsp.2.2.2.2.2.1
        have ctu := s_ct_up L c (nb x v) w1.1 (by rw [q.2.2.2.1]; omega) n.toNat
        rw [if_pos (by omega)] at ctu
        refine ih (v + 1) _ _ _ (by omega) (by omega) (by omega) hp (by omega) (s_sp_claim hG hsp w1 q.2.2.1 q.2.2.2.1 (fun y => ?_) (s_cn_step cx (by omega) w1.1 q.2.2.1)) (fun s a b d e => ?_)
        · rw [s_q_up W k _ y hk]
          constructor
          · rintro ((h | h) | h)
            · exact Or.inl (Or.inl h)
            · exact Or.inr h
            · exact Or.inl (Or.inr h)
          · rintro ((h | h) | h)
            · exact Or.inl (Or.inl h)
            · exact Or.inr h
            · exact Or.inl (Or.inr h)
        · unfold z_up
          by_cases u : nb x s = nb x v
          · rw [if_pos u]; omega
          · rw [if_neg u]
            by_cases u2 : s = v
            · rw [u2] at u; exact absurd rfl u
            · exact hsn s a (by omega) d e
      · rw [if_neg q, p_b3, z_chk_pos (by omega)]
        refine ih (v + 1) _ _ _ (by omega) (by omega) hk hp hct hsp (fun s a b d e => ?_)
        by_cases u2 : s = v
        · rw [u2] at d e ⊢
          intro h4
          have e0 := hE2 d
          rw [e0] at q
          have hcp := hsp.2.2.2.2.2.1
          have lt := s_ct_less L c (nb x v) d (by rw [h4]; omega) n.toNat (by omega)
          exact q ⟨d, by omega, e, h4, by omega⟩
        · exact hsn s a (by omega) d e
theorem p_spread_l1 (N : Nat) (hN : 100 ≤ N) (n : Int) (nb : Int → Int → Int) (D be : Int → Int) (bb : Int → Int64) (hG : s_gr n nb D) (hg : s_gb n nb be bb) (c : Int) (L0 : Int → Int) : ∀ (f : Nat) (v : Int) (L W : Int → Int) (k : Int), 0 ≤ v → v ≤ 36 → (36 - v).toNat < f → 0 ≤ k → v + k ≤ s_ct L c n.toNat → s_sp n nb D c L0 L (s_q W k) → ∃ L' W' k', m_X2_spread_l1 N be D c f v L W k = some (L', W', k') ∧ s_sp n nb D c L0 L' (fun _ => False) := by
  have hn := hG.1
  intro f
  induction f with
  | zero => intro v L W k _ _ hf; omega
  | succ f ih =>
    intro v L W k g0 g1 hf hk hct hsp
    have cb := s_ct_b L c n.toNat
    have emp : k ≤ 0 → s_sp n nb D c L0 L (fun _ => False) := fun e => s_sp_iff hsp (fun y => by
      constructor
      · rintro ⟨i, a, b, d⟩; omega
      · intro q; exact q.elim)
    rw [m_X2_spread_l1]
    by_cases hc : 36 ≤ v
    · rw [if_pos hc]
      exact ⟨L, W, k, rfl, emp (by omega)⟩
    · rw [if_neg hc]
      by_cases hk0 : k ≤ 0
      · rw [if_pos hk0]
        exact ⟨L, W, k, rfl, emp hk0⟩
      · rw [if_neg hk0, z_chk_pos (by omega), z_chk_pos (by omega)]
        have hq : s_q W k (W (k - 1)) := ⟨k - 1, by omega, by omega, rfl⟩
        have hx := hsp.2.2.2.1 _ hq
        have sp2 : s_sp n nb D c L0 L (fun y => s_q W (k - 1) y ∨ y = W (k - 1)) := s_sp_iff hsp (fun y => by
          constructor
          · rintro ⟨i, a, b, d⟩
            by_cases q : i = k - 1
            · rw [q] at d; exact Or.inr d.symm
            · exact Or.inl ⟨i, a, by omega, d⟩
          · rintro (⟨i, a, b, d⟩ | d)
            · exact ⟨i, a, by omega, d⟩
            · rw [d]; exact hq)
        obtain ⟨L', W', k', e, hk', hct', sp'⟩ := p_spread_l2 N n nb D be bb hG hg c (W (k - 1)) (v + 1) L0 hx.1 hx.2.1 N 0 L W (k - 1) (by omega) (by omega) (by omega) (by omega) (by omega) sp2 (fun s a b => by omega)
        rw [show m_X2_spread_l2 N be (W (k - 1)) D c N 0 L W (k - 1) = _ from e, p_b3, z_chk_pos (by omega)]
        exact ih (v + 1) L' W' k' (by omega) (by omega) (by omega) hk' hct' sp'
/-- all cells below v that are wet have their labels -/
def s_mp (n : Int) (nb : Int → Int → Int) (D : Int → Int) (v : Int) (L : Int → Int) : Prop :=
  (∀ y, 0 ≤ y → y < n → D y ≤ 0 → L y = -4) ∧
  (∀ y, 0 ≤ y → y < n → 0 < D y → L y = -4 ∨ (0 ≤ L y ∧ L y ≤ y ∧ 0 < D (L y) ∧ s_cn nb D (L y) y)) ∧
  (∀ y s, 0 ≤ y → y < n → 0 < D y → L y ≠ -4 → 0 ≤ s → s ≤ 3 → 0 ≤ nb y s → 0 < D (nb y s) → L (nb y s) = L y) ∧
  (∀ y, 0 ≤ y → y < v → 0 < D y → L y ≠ -4) ∧
  (∀ y, 0 ≤ y → y < n → L y ≠ -4 → L y < v)
theorem p_spread (N : Nat) (hN : 100 ≤ N) (n : Int) (nb : Int → Int → Int) (D be : Int → Int) (bb : Int → Int64) (hG : s_gr n nb D) (hg : s_gb n nb be bb) (c : Int) (hc : 0 ≤ c ∧ c < n) (hd : 0 < D c) (L W : Int → Int) (k : Int) (hL : L c = -4) (hm : s_mp n nb D c L) : ∃ L' W' k', m_X2_spread N L W k be D c = some (L', W', k') ∧ s_mp n nb D (c + 1) L' ∧ L' c = c ∧ ∀ y, 0 ≤ y → y < c → (L' y = y ↔ L y = y) := by
  have hn := hG.1
  obtain ⟨m1, m2, m3, m4, m5⟩ := hm
  have sp0 : s_sp n nb D c L L (fun _ => False) := ⟨m1, m2, fun y s a b d e f g i j => Or.inl (m3 y s a b d e f g i j), fun y q => q.elim, m4, ⟨hc, hd⟩, fun y a b => ⟨fun _ => rfl, fun q => Or.inl q⟩⟩
  have sp1 : s_sp n nb D c L (z_up L c c) (s_q (z_up W 0 c) 1) := s_sp_claim hG sp0 hc hd hL (fun y => by
    have := s_q_up W 0 c y (by omega)
    rw [show (0 : Int) + 1 = 1 from rfl] at this
    rw [this]
    constructor
    · rintro (⟨i, a, b, d⟩ | d)
      · omega
      · exact Or.inr d
    · rintro (q | d)
      · exact q.elim
      · exact Or.inr d) (s_cn_refl nb D c)
  have ct := s_ct_up L c c hc.1 (by omega) n.toNat
  have ct0 := s_ct_b L c n.toNat
  rw [if_pos (by omega)] at ct
  have sp2 : s_sp n nb D c (z_up L c c) (z_up L c c) (s_q (z_up W 0 c) 1) := ⟨sp1.1, sp1.2.1, sp1.2.2.1, sp1.2.2.2.1, sp1.2.2.2.2.1, sp1.2.2.2.2.2.1, fun y a b => ⟨fun _ => rfl, fun q => Or.inl q⟩⟩
  obtain ⟨L', W', k', e, p1, p2, p3, p4, p5, p6, p7⟩ := p_spread_l1 N hN n nb D be bb hG hg c (z_up L c c) N 0 (z_up L c c) (z_up W 0 c) 1 (by omega) (by omega) (by omega) (by omega) (by omega) sp2
  have up : ∀ y, z_up L c c y = if y = c then c else L y := fun y => rfl
  have hcc : L' c = c := by
    have w := p7 c hc.1 hc.2
    rw [up, if_pos rfl] at w
    exact w.1 (by omega)
  refine ⟨L', W', k', ?_, ⟨p1, p2, fun y s a b d e f g i j => (p3 y s a b d e f g i j).resolve_right (fun q => q.2), fun y a b d => ?_, fun y a b d => ?_⟩, hcc, fun y a b => ?_⟩
  · rw [m_X2_spread, p_claim N L W D 0 c c (by omega), if_pos ⟨hc.1, by omega, hd, hL, by omega⟩, p_b3, show (0 : Int) + 1 = 1 from rfl, e, p_b3]
  · by_cases q : y = c
    · rw [q, hcc]; omega
    · exact p5 y a (by omega) d
  · have w := p7 y a b
    rw [up] at w
    by_cases q : y = c
    · rw [q, hcc]; omega
    · rw [if_neg q] at w
      by_cases q2 : L y = -4
      · rcases w.2 q2 with u | u
        · exact absurd u d
        · omega
      · have := w.1 q2
        have := m5 y a b q2
        omega
  · have w := p7 y a (by omega)
    rw [up, if_neg (by omega)] at w
    by_cases q2 : L y = -4
    · rcases w.2 q2 with u | u
      · rw [u, q2]
      · omega
    · rw [w.1 q2]
theorem p_map_l1 (N : Nat) (hN : 100 ≤ N) (n : Int) (nb : Int → Int → Int) (D be : Int → Int) (bb : Int → Int64) (hG : s_gr n nb D) (hg : s_gb n nb be bb) : ∀ (f : Nat) (v : Nat) (L W : Int → Int) (k : Int), (v : Int) ≤ n → (n - v).toNat < f → s_mp n nb D v L → ∃ L' W' k', m_X2_map_l1 N n D be f v L W k (s_rt L v) = some (L', W', k', s_rt L' n.toNat) ∧ s_mp n nb D n L' := by
  have hn := hG.1
  intro f
  induction f with
  | zero => intro v L W k _ hf; omega
  | succ f ih =>
    intro v L W k g1 hf hm
    rw [m_X2_map_l1]
    by_cases hc : n ≤ v
    · have : n = v := by omega
      rw [if_pos hc]
      subst this
      exact ⟨L, W, k, rfl, hm⟩
    · have rb := s_rt_b L v
      have go : s_mp n nb D ((v : Int) + 1) L → L v ≠ v → ∃ L' W' k', m_X2_map_l1 N n D be f ((v : Int) + 1) L W k (s_rt L v) = some (L', W', k', s_rt L' n.toNat) ∧ s_mp n nb D n L' := fun q q2 => by
        have w := ih (v + 1) L W k (by omega) (by omega) q
        rw [s_rt, if_neg q2, Int.add_zero] at w
        exact w
      have up : L v ≠ -4 ∨ D v ≤ 0 → s_mp n nb D ((v : Int) + 1) L := fun q => by
        obtain ⟨m1, m2, m3, m4, m5⟩ := hm
        refine ⟨m1, m2, m3, fun y a b d => ?_, fun y a b d => by have := m5 y a b d; omega⟩
        by_cases e : y = v
        · rw [e] at d ⊢
          exact q.resolve_right (by omega)
        · exact m4 y a (by omega) d
      rw [if_neg hc, if_neg (by omega), z_chk_pos (by omega)]
      by_cases hd : D v ≤ 0
      · rw [if_pos hd, z_chk_pos (by omega)]
        exact go (up (Or.inr hd)) (by have := hm.1 v (by omega) (by omega) hd; omega)
      · rw [if_neg hd, z_chk_pos (by omega)]
        by_cases hl : L v = -4
        · rw [if_neg (fun z => z hl), z_chk_pos (by omega)]
          obtain ⟨L', W', k', e, hm', hcc, hs⟩ := p_spread N hN n nb D be bb hG hg v (by omega) (by omega) L W k hl hm
          rw [e, p_b3, z_chk_pos (by omega)]
          have w := ih (v + 1) L' W' k' (by omega) (by omega) hm'
          rw [s_rt, if_pos hcc, s_rt_same L' L v (fun y a b => hs y a b)] at w
          exact w
        · rw [if_pos hl, z_chk_pos (by omega)]
          exact go (up (Or.inl hl)) (by have := hm.2.2.2.2 v (by omega) (by omega) hl; omega)
theorem p_map (N : Nat) (hN : 1001 ≤ N) (n : Int) (nb : Int → Int → Int) (D be : Int → Int) (bb : Int → Int64) (hG : s_gr n nb D) (hg : s_gb n nb be bb) (a w : Int → Int) (b c d : Int) : ∃ L W k, m_X2_map N a w b c d n be D = some (L, W, k, n, s_rt L n.toNat) ∧ s_lab (-4) n nb D L := by
  have hn := hG.1
  obtain ⟨L0, e0, h0⟩ := p_fillI N 36 (by omega) hN a (-4)
  have e0' : ∀ y, 0 ≤ y → y < n → L0 y = -4 := fun y g0 g1 => by rw [h0 y, if_pos (by omega)]
  obtain ⟨L, W, k, e, hm⟩ := p_map_l1 N (by omega) n nb D be bb hG hg N 0 L0 w b (by omega) (by omega) ⟨fun y a b _ => e0' y a b, fun y a b _ => Or.inl (e0' y a b), fun y s a b _ q => absurd (e0' y a b) q, fun y a b => by omega, fun y a b q => absurd (e0' y a b) q⟩
  refine ⟨L, W, k, ?_, ?_⟩
  · rw [m_X2_map, e0, p_b1, show m_X2_map_l1 N n D be N 0 L0 w b 0 = _ from e, p_b4]
  · obtain ⟨m1, m2, m3, m4, m5⟩ := hm
    intro x a b
    exact ⟨m1 x a b, fun q => ⟨(m2 x a b q).resolve_left (m4 x a b q), fun s => m3 x s a b q (m4 x a b q)⟩⟩
