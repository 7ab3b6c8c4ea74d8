/-! what was before -/
theorem s_still_iff (n : Int) (nb : Int → Int → Int) (K h D : Int → Int) : s_still n nb K h D ↔ ∀ y s, 0 ≤ y → y < n → 0 ≤ s → s ≤ 3 → ¬ s_val nb K h D y s := by
  constructor
  · intro hs y s a b c d hv
    have := s_tgt_has nb K h D y s ⟨c, d⟩ hv
    have := hs y a b
    omega
  · intro hv y a b
    rcases s_tgt_spec nb K h D y with w | ⟨s, hs, e, v⟩
    · exact w
    · exact absurd v (hv y s a b hs.1 hs.2)
theorem s_still_fn {n : Int} {nb : Int → Int → Int} {K K' h D h' D' : Int → Int} (hn : n ≤ 36) (hb : s_nbok n nb K) (hs : s_still n nb K h D) (k : ∀ x, 0 ≤ x → x < 36 → K' x = K x) (e : ∀ x, 0 ≤ x → x < 36 → h' x = h x) (e2 : ∀ x, 0 ≤ x → x < 36 → D' x = D x) : s_still n nb K' h' D' := by
  rw [s_still_iff] at hs ⊢
  intro y s a b c d hv
  refine hs y s a b c d ?_
  obtain ⟨v1, v2, v3⟩ := hv
  have q := hb y s
  unfold s_lv at v3
  rw [e2 y a (by omega)] at v1 v3
  rw [e y a (by omega), e _ v2 (by omega), e2 _ v2 (by omega), k _ v2 (by omega)] at v3
  exact ⟨v1, v2, by unfold s_lv; exact v3⟩
/-- the current water, or one that was kept -/
def s_wt (n : Int) (nb : Int → Int → Int) (K : Int → Int) (B : Int) (s h D : Int → Int) (hr : Int) : Prop := s_ag s h D hr ∧ s_ok n K h D ∧ s_still n nb K h D ∧ 0 ≤ hr ∧ hr ≤ B
theorem s_wt_fn {n : Int} {nb : Int → Int → Int} {K : Int → Int} {B : Int} {s h D s' h' D' : Int → Int} {hr hr' : Int} (hn : n ≤ 36) (hb : s_nbok n nb K) (w : s_wt n nb K B s h D hr) (e : ∀ x, 0 ≤ x → x < 73 → s' x = s x) (e1 : ∀ x, 0 ≤ x → x < 36 → h' x = h x) (e2 : ∀ x, 0 ≤ x → x < 36 → D' x = D x) (e3 : hr' = hr) : s_wt n nb K B s' h' D' hr' := by
  subst e3
  obtain ⟨a, b, c, d⟩ := w
  exact ⟨s_ag_fn (s_ag_same a e) e1 e2, s_ok_fn b (fun _ _ _ => rfl) e1 e2, s_still_fn hn hb c (fun _ _ _ => rfl) e1 e2, d⟩
theorem s_wt_up {n : Int} {nb : Int → Int → Int} {K : Int → Int} {B B' : Int} {s h D : Int → Int} {hr : Int} (w : s_wt n nb K B s h D hr) (hB : B ≤ B') : s_wt n nb K B' s h D hr := ⟨w.1, w.2.1, w.2.2.1, w.2.2.2.1, by have := w.2.2.2.2; omega⟩
def s_stk (n : Int) (nb : Int → Int → Int) (K : Int → Int) (B : Int) (H Dr hs P : Int → Int) (k cap : Int) : Prop := (0 ≤ k ∧ k ≤ cap) ∧ ∀ i, 0 ≤ i → i < k → s_wt n nb K B (fun x => P (73 * i + x)) (fun x => H (i * 36 + x)) (fun x => Dr (i * 36 + x)) (hs i)
theorem s_stk_up {n : Int} {nb : Int → Int → Int} {K : Int → Int} {B B' : Int} {H Dr hs P : Int → Int} {k cap : Int} (w : s_stk n nb K B H Dr hs P k cap) (hB : B ≤ B') : s_stk n nb K B' H Dr hs P k cap := ⟨w.1, fun i a b => s_wt_up (w.2 i a b) hB⟩
theorem s_stk_add {n : Int} {nb : Int → Int → Int} {K : Int → Int} {B : Int} {H Dr hs P P' s h D : Int → Int} {hr k cap : Int} (hn : n ≤ 36) (hb : s_nbok n nb K) (hk : s_stk n nb K B H Dr hs P k cap) (hc : k < cap) (w : s_wt n nb K B s h D hr) (e : ∀ j, P' j = if 73 * k ≤ j ∧ j < 73 * k + 73 then s (j - 73 * k) else P j) : s_stk n nb K B (z_cpy h H 0 (k * 36) 36) (z_cpy D Dr 0 (k * 36) 36) (z_up hs k hr) P' (k + 1) cap := by
  refine ⟨by have := hk.1; omega, fun i a b => ?_⟩
  by_cases q : i = k
  · refine s_wt_fn hn hb w (fun x g0 g1 => ?_) (fun x g0 g1 => ?_) (fun x g0 g1 => ?_) ?_
    · show P' (73 * i + x) = s x
      rw [e, if_pos (by omega)]
      congr 1
      omega
    · show z_cpy h H 0 (k * 36) 36 (i * 36 + x) = h x
      unfold z_cpy
      rw [if_pos (by omega)]
      congr 1
      omega
    · show z_cpy D Dr 0 (k * 36) 36 (i * 36 + x) = D x
      unfold z_cpy
      rw [if_pos (by omega)]
      congr 1
      omega
    · unfold z_up
      rw [if_pos q]
  · refine s_wt_fn hn hb (hk.2 i a (by omega)) (fun x g0 g1 => ?_) (fun x g0 g1 => ?_) (fun x g0 g1 => ?_) ?_
    · show P' (73 * i + x) = _
      rw [e, if_neg (by omega)]
    · show z_cpy h H 0 (k * 36) 36 (i * 36 + x) = _
      unfold z_cpy
      rw [if_neg (by omega)]
    · show z_cpy D Dr 0 (k * 36) 36 (i * 36 + x) = _
      unfold z_cpy
      rw [if_neg (by omega)]
    · unfold z_up
      rw [if_neg q]
theorem s_stk_drop {n : Int} {nb : Int → Int → Int} {K : Int → Int} {B : Int} {H Dr hs P P' : Int → Int} (hn : n ≤ 36) (hb : s_nbok n nb K) (hk : s_stk n nb K B H Dr hs P 8 8) (e : ∀ j, 0 ≤ j → j < 511 → P' j = P (j + 73)) : s_stk n nb K B (z_cpy H H 36 0 252) (z_cpy Dr Dr 36 0 252) (z_cpy hs hs 1 0 7) P' 7 8 := by
  refine ⟨by omega, fun i a b => ?_⟩
  refine s_wt_fn hn hb (hk.2 (i + 1) (by omega) (by omega)) (fun x g0 g1 => ?_) (fun x g0 g1 => ?_) (fun x g0 g1 => ?_) ?_
  · show P' (73 * i + x) = P (73 * (i + 1) + x)
    rw [e _ (by omega) (by omega)]
    congr 1
    omega
  · show z_cpy H H 36 0 252 (i * 36 + x) = H ((i + 1) * 36 + x)
    unfold z_cpy
    rw [if_pos (by omega)]
    congr 1
    omega
  · show z_cpy Dr Dr 36 0 252 (i * 36 + x) = Dr ((i + 1) * 36 + x)
    unfold z_cpy
    rw [if_pos (by omega)]
    congr 1
    omega
  · unfold z_cpy
    rw [if_pos (by omega)]
    congr 1
    omega
theorem p_pushA (N : Nat) (H Dr hs h D : Int → Int) (hr k : Int) (hk : 0 ≤ k ∧ k < 8) : m_X1_push N H Dr hs k h D hr = some (z_cpy h H 0 (k * 36) 36, z_cpy D Dr 0 (k * 36) 36, z_up hs k hr, k + 1) := by
  rw [m_X1_push, if_pos hk.2, p_b4, if_neg (by omega), if_neg (by omega), z_chk_pos (by omega), z_chk_pos (by omega), z_chk_pos (by omega), z_chk_pos (by omega), z_chk_pos (by omega), z_chk_pos (by omega)]
theorem p_pushB (N : Nat) (H Dr hs h D : Int → Int) (hr : Int) : m_X1_push N H Dr hs 8 h D hr = some (z_cpy h (z_cpy H H 36 0 252) 0 (7 * 36) 36, z_cpy D (z_cpy Dr Dr 36 0 252) 0 (7 * 36) 36, z_up (z_cpy hs hs 1 0 7) 7 hr, 7 + 1) := by
  rw [m_X1_push, if_neg (by omega), m_X1_dropOldest, z_chk_pos (by omega), z_chk_pos (by omega), z_chk_pos (by omega), z_chk_pos (by omega), z_chk_pos (by omega), p_b4, p_b4, if_neg (by omega), if_neg (by omega), z_chk_pos (by omega), z_chk_pos (by omega), z_chk_pos (by omega), z_chk_pos (by omega), z_chk_pos (by omega), z_chk_pos (by omega)]
  rfl
theorem p6_keeps_l1 (N : Nat) (P0 : Int → Int) : ∀ (f : Nat) (v : Int) (P : Int → Int), 0 ≤ v → v ≤ 511 → (511 - v).toNat < f → (∀ j, 0 ≤ j → j < 584 → P j = if j < v then P0 (j + 73) else P0 j) → ∃ P', m_X6_keeps_l1 N f v P = some P' ∧ ∀ j, 0 ≤ j → j < 511 → P' j = P0 (j + 73) := by
  intro f
  induction f with
  | zero => intro v P _ _ hf; omega
  | succ f ih =>
    intro v P g0 g1 hf hP
    rw [m_X6_keeps_l1]
    by_cases hc : 511 ≤ v
    · rw [if_pos hc]
      exact ⟨P, rfl, fun j a b => by rw [hP j a (by omega), if_pos (by omega)]⟩
    · rw [if_neg hc, z_chk_pos (by omega), z_chk_pos (by omega), z_chk_pos (by omega), z_chk_pos (by omega)]
      refine ih (v + 1) _ (by omega) (by omega) (by omega) (fun j a b => ?_)
      unfold z_up
      by_cases q : j = v
      · rw [if_pos q, if_pos (by omega), hP _ (by omega) (by omega), if_neg (by omega), q]
      · rw [if_neg q, hP j a b]
        by_cases q2 : j < v
        · rw [if_pos q2, if_pos (by omega)]
        · rw [if_neg q2, if_neg (by omega)]
theorem p6_save (k : Int) (s P0 : Int → Int) (F : Nat → Int → (Int → Int) → Option (Int → Int)) (h0 : ∀ f v P, 0 ≤ v → F (f + 1) v P = if 73 ≤ v then some P else F f (v + 1) (z_up P (73 * k + v) (s v))) : ∀ (f : Nat) (v : Int) (P : Int → Int), 0 ≤ v → v ≤ 73 → (73 - v).toNat < f → (∀ j, P j = if 73 * k ≤ j ∧ j < 73 * k + v then s (j - 73 * k) else P0 j) → ∃ P', F f v P = some P' ∧ ∀ j, P' j = if 73 * k ≤ j ∧ j < 73 * k + 73 then s (j - 73 * k) else P0 j := by
  intro f
  induction f with
  | zero => intro v P _ _ hf; omega
  | succ f ih =>
    intro v P g0 g1 hf hP
    rw [h0 f v P g0]
    by_cases hc : 73 ≤ v
    · rw [if_pos hc]
      have : v = 73 := by omega
      subst this
      exact ⟨P, rfl, hP⟩
    · rw [if_neg hc]
      refine ih (v + 1) _ (by omega) (by omega) (by omega) (fun j => ?_)
      unfold z_up
      by_cases q : j = 73 * k + v
      · rw [if_pos q, if_pos (by omega)]
        congr 1
        omega
      · rw [if_neg q, hP j]
        by_cases q2 : 73 * k ≤ j ∧ j < 73 * k + v
        · rw [if_pos q2, if_pos (by omega)]
        · rw [if_neg q2, if_neg (by omega)]
theorem p6_load (k : Int) (P : Int → Int) (F : Nat → Int → (Int → Int) → Option (Int → Int)) (h0 : ∀ f v s, 0 ≤ v → F (f + 1) v s = if 73 ≤ v then some s else F f (v + 1) (z_up s v (P (73 * k + v)))) : ∀ (f : Nat) (v : Int) (s : Int → Int), 0 ≤ v → v ≤ 73 → (73 - v).toNat < f → (∀ x, 0 ≤ x → x < v → s x = P (73 * k + x)) → ∃ s', F f v s = some s' ∧ ∀ x, 0 ≤ x → x < 73 → s' x = P (73 * k + x) := by
  intro f
  induction f with
  | zero => intro v s _ _ hf; omega
  | succ f ih =>
    intro v s g0 g1 hf hP
    rw [h0 f v s g0]
    by_cases hc : 73 ≤ v
    · rw [if_pos hc]
      exact ⟨s, rfl, fun x a b => hP x a (by omega)⟩
    · rw [if_neg hc]
      refine ih (v + 1) _ (by omega) (by omega) (by omega) (fun x a b => ?_)
      unfold z_up
      by_cases q : x = v
      · rw [if_pos q, q]
      · rw [if_neg q]; exact hP x a (by omega)
theorem p6_keeps_l2 (N : Nat) (hN : 100 ≤ N) (s P : Int → Int) (k : Int) (hk : 0 ≤ k ∧ k < 8) : ∃ P', m_X6_keeps_l2 N k s N 0 P = some P' ∧ ∀ j, P' j = if 73 * k ≤ j ∧ j < 73 * k + 73 then s (j - 73 * k) else P j :=
  p6_save k s P (m_X6_keeps_l2 N k s) (fun f v P a => by
    rw [m_X6_keeps_l2]
    by_cases hc : 73 ≤ v
    · rw [if_pos hc, if_pos hc]
    · rw [if_neg hc, if_neg hc, z_chk_pos (by omega), z_chk_pos (by omega), z_chk_pos (by omega), z_chk_pos (by omega), z_chk_pos (by omega)]) N 0 P (by omega) (by omega) (by omega) (fun j => by rw [if_neg (by omega)])
theorem p6_keep_l1 (N : Nat) (hN : 100 ≤ N) (s P : Int → Int) (k : Int) (hk : 0 ≤ k ∧ k < 2) : ∃ P', m_X6_keep_l1 N k s N 0 P = some P' ∧ ∀ j, P' j = if 73 * k ≤ j ∧ j < 73 * k + 73 then s (j - 73 * k) else P j :=
  p6_save k s P (m_X6_keep_l1 N k s) (fun f v P a => by
    rw [m_X6_keep_l1]
    by_cases hc : 73 ≤ v
    · rw [if_pos hc, if_pos hc]
    · rw [if_neg hc, if_neg hc, z_chk_pos (by omega), z_chk_pos (by omega), z_chk_pos (by omega), z_chk_pos (by omega), z_chk_pos (by omega)]) N 0 P (by omega) (by omega) (by omega) (fun j => by rw [if_neg (by omega)])
theorem p6_undo_l1 (N : Nat) (hN : 100 ≤ N) (s P : Int → Int) (k : Int) (hk : 0 ≤ k ∧ k < 8) : ∃ s', m_X6_undo_l1 N k P N 0 s = some s' ∧ ∀ x, 0 ≤ x → x < 73 → s' x = P (73 * k + x) :=
  p6_load k P (m_X6_undo_l1 N k P) (fun f v P a => by
    rw [m_X6_undo_l1]
    by_cases hc : 73 ≤ v
    · rw [if_pos hc, if_pos hc]
    · rw [if_neg hc, if_neg hc, z_chk_pos (by omega), z_chk_pos (by omega), z_chk_pos (by omega), z_chk_pos (by omega), z_chk_pos (by omega)]) N 0 s (by omega) (by omega) (by omega) (fun x a b => by omega)
theorem p6_back_l1 (N : Nat) (hN : 100 ≤ N) (s P : Int → Int) (k : Int) (hk : 0 ≤ k ∧ k < 2) : ∃ s', m_X6_back_l1 N k P N 0 s = some s' ∧ ∀ x, 0 ≤ x → x < 73 → s' x = P (73 * k + x) :=
  p6_load k P (m_X6_back_l1 N k P) (fun f v P a => by
    rw [m_X6_back_l1]
    by_cases hc : 73 ≤ v
    · rw [if_pos hc, if_pos hc]
    · rw [if_neg hc, if_neg hc, z_chk_pos (by omega), z_chk_pos (by omega), z_chk_pos (by omega), z_chk_pos (by omega), z_chk_pos (by omega)]) N 0 s (by omega) (by omega) (by omega) (fun x a b => by omega)
/-- the class pushes what the reference keeps -/
theorem p_push (N : Nat) (hN : 1000 ≤ N) {n : Int} {nb : Int → Int → Int} {K : Int → Int} {B : Int} {H Dr hs P s h D : Int → Int} {hr k : Int} (hn : n ≤ 36) (hb : s_nbok n nb K) (hk : s_stk n nb K B H Dr hs P k 8) (w : s_wt n nb K B s h D hr) : ∃ H' Dr' hs' P' k', m_X1_push N H Dr hs k h D hr = some (H', Dr', hs', k') ∧ m_X6_keeps N s P k = some (P', k') ∧ s_stk n nb K B H' Dr' hs' P' k' 8 := by
  by_cases q : k = 8
  · subst q
    obtain ⟨P1, e1, h1⟩ := p6_keeps_l1 N P N 0 P (by omega) (by omega) (by omega) (fun j a b => by rw [if_neg (by omega)])
    obtain ⟨P2, e2, h2⟩ := p6_keeps_l2 N (by omega) s P1 7 (by omega)
    refine ⟨_, _, _, P2, _, p_pushB N H Dr hs h D hr, ?_, s_stk_add hn hb (s_stk_drop hn hb hk h1) (by omega) w h2⟩
    rw [m_X6_keeps, if_neg (fun z => z rfl), e1, p_b1, z_chk_pos (by omega), p_b2]
    show z_b1 (m_X6_keeps_l2 N 7 s N 0 P1) _ = _
    rw [e2, p_b1]
    exact z_chk_pos (by omega) _
  · have k8 := hk.1
    obtain ⟨P2, e2, h2⟩ := p6_keeps_l2 N (by omega) s P k (by omega)
    refine ⟨_, _, _, P2, _, p_pushA N H Dr hs h D hr k (by omega), ?_, s_stk_add hn hb hk (by omega) w h2⟩
    rw [m_X6_keeps, if_pos q, p_b2, e2, p_b1, z_chk_pos (by omega)]
theorem p_popA (N : Nat) (H Dr hs h D : Int → Int) (hr k : Int) (hk : 0 < k ∧ k ≤ 8) : m_X1_pop N H Dr hs k h D hr = some (k - 1, z_cpy H h ((k - 1) * 36) 0 36, z_cpy Dr D ((k - 1) * 36) 0 36, hs (k - 1)) := by
  rw [m_X1_pop, if_neg (by omega), if_neg (by omega), z_chk_pos (by omega), z_chk_pos (by omega), z_chk_pos (by omega), z_chk_pos (by omega), z_chk_pos (by omega), z_chk_pos (by omega)]
theorem s_stk_pop {n : Int} {nb : Int → Int → Int} {K : Int → Int} {B : Int} {H Dr hs P s h D : Int → Int} {k cap : Int} (hn : n ≤ 36) (hb : s_nbok n nb K) (hk : s_stk n nb K B H Dr hs P k cap) (h0 : 0 < k) (e : ∀ x, 0 ≤ x → x < 73 → s x = P (73 * (k - 1) + x)) : s_wt n nb K B s (z_cpy H h ((k - 1) * 36) 0 36) (z_cpy Dr D ((k - 1) * 36) 0 36) (hs (k - 1)) ∧ s_stk n nb K B H Dr hs P (k - 1) cap := by
  refine ⟨s_wt_fn hn hb (hk.2 (k - 1) (by omega) (by omega)) e (fun x a b => ?_) (fun x a b => ?_) rfl, by have := hk.1; omega, fun i a b => hk.2 i a (by omega)⟩
  · unfold z_cpy
    rw [if_pos (by omega)]
    congr 1
    omega
  · unfold z_cpy
    rw [if_pos (by omega)]
    congr 1
    omega
