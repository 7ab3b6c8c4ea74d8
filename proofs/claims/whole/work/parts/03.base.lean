/-! numbers: whole numbers in the range of an int; a model's partial functions -/
abbrev z_n (x : Int) : Prop := -2147483648 ≤ x ∧ x ≤ 2147483647
abbrev z_r (f : Int → Int) : Prop := ∀ j, z_n (f j)
def z_i (x : Int) : Value := .int (Int32.ofInt x)
theorem z_toInt {x : Int} (h : z_n x) : (Int32.ofInt x).toInt = x := Int32.toInt_ofInt_of_le (by omega) (by omega)
theorem z_of (x : Int32) : z_n x.toInt := ⟨by have := x.le_toInt; omega, by have := x.toInt_lt; omega⟩
theorem z_eqi {x y : Int} (hx : z_n x) (hy : z_n y) : Int32.ofInt x = Int32.ofInt y ↔ x = y := ⟨fun h => by rw [← z_toInt hx, ← z_toInt hy, h], fun h => by rw [h]⟩
theorem z_lti {x y : Int} (hx : z_n x) (hy : z_n y) : Int32.ofInt x < Int32.ofInt y ↔ x < y := by rw [Int32.lt_iff_toInt_lt, z_toInt hx, z_toInt hy]
theorem z_lei {x y : Int} (hx : z_n x) (hy : z_n y) : Int32.ofInt x ≤ Int32.ofInt y ↔ x ≤ y := by rw [Int32.le_iff_toInt_le, z_toInt hx, z_toInt hy]
theorem z_zero : (0 : Int32) = Int32.ofInt 0 := rfl
theorem z_n0 : z_n 0 := ⟨by omega, by omega⟩
theorem z_clamp {x : Int} (h : z_n x) : (Int32.ofInt x).toNatClampNeg = x.toNat := by rw [← Int32.toNat_toInt, z_toInt h]
theorem z_idx {x : Int} {n : Nat} (h : 0 ≤ x ∧ x < (n : Int)) (hn : z_n x) : vp_in (Int32.ofInt x) n := by
  unfold vp_in
  rw [z_clamp hn, z_zero, z_lti hn z_n0]
  omega
def z_up {α : Type} (f : Int → α) (i : Int) (v : α) : Int → α := fun j => if j = i then v else f j
def z_cpy {α : Type} (f g : Int → α) (sp dp n : Int) : Int → α := fun k => if dp ≤ k ∧ k < dp + n then f (sp + (k - dp)) else g k
theorem z_r_up {f : Int → Int} {i v : Int} (hf : z_r f) (hv : z_n v) : z_r (z_up f i v) := fun j => by
  unfold z_up
  split
  · exact hv
  · exact hf j
theorem z_r_cpy {f g : Int → Int} {a b n : Int} (hf : z_r f) (hg : z_r g) : z_r (z_cpy f g a b n) := fun j => by
  unfold z_cpy
  split
  · exact hf _
  · exact hg j
def z_chk {α : Type} (p : Prop) [Decidable p] (k : Option α) : Option α := if p then k else none
theorem z_chk_some {α : Type} {p : Prop} [Decidable p] {k : Option α} {r : α} (h : z_chk p k = some r) : p ∧ k = some r := by
  unfold z_chk at h
  split at h
  · exact ⟨‹p›, h⟩
  · cases h
theorem z_chk_pos {α : Type} {p : Prop} [Decidable p] (hp : p) (k : Option α) : z_chk p k = k := if_pos hp
theorem z_ite {α : Type} {p : Prop} [Decidable p] {a b c : α} (h : (if p then a else b) = c) : (p ∧ a = c) ∨ (¬ p ∧ b = c) := by
  split at h
  · exact Or.inl ⟨‹p›, h⟩
  · exact Or.inr ⟨‹¬ p›, h⟩
def z_b0 {δ : Type} (x : Option Unit) (f : Option δ) : Option δ := match x with
  | none => none
  | some _ => f
theorem z_b0s {δ : Type} {x : Option Unit} {f : Option δ} {r : δ} (h : z_b0 x f = some r) : x = some () ∧ f = some r := by
  cases x with
  | none => cases h
  | some a => exact ⟨rfl, h⟩
def z_b1 {α δ : Type} (x : Option α) (f : α → Option δ) : Option δ := match x with
  | none => none
  | some a => f a
theorem z_b1s {α δ : Type} {x : Option α} {f : α → Option δ} {r : δ} (h : z_b1 x f = some r) : ∃ a, x = some a ∧ f a = some r := by
  cases x with
  | none => cases h
  | some a => exact ⟨a, rfl, h⟩
theorem z_b1p {α δ : Type} {x : Option α} {a : α} (h : x = some a) (f : α → Option δ) : z_b1 x f = f a := by rw [h]; rfl
def z_b2 {α β δ : Type} (x : Option (α × β)) (f : α → β → Option δ) : Option δ := match x with
  | none => none
  | some (a, b) => f a b
theorem z_b2s {α β δ : Type} {x : Option (α × β)} {f : α → β → Option δ} {r : δ} (h : z_b2 x f = some r) : ∃ a b, x = some (a, b) ∧ f a b = some r := by
  cases x with
  | none => cases h
  | some a => exact ⟨a.1, a.2, rfl, h⟩
def z_b3 {α β γ δ : Type} (x : Option (α × β × γ)) (f : α → β → γ → Option δ) : Option δ := match x with
  | none => none
  | some (a, b, c) => f a b c
theorem z_b3s {α β γ δ : Type} {x : Option (α × β × γ)} {f : α → β → γ → Option δ} {r : δ} (h : z_b3 x f = some r) : ∃ a b c, x = some (a, b, c) ∧ f a b c = some r := by
  cases x with
  | none => cases h
  | some a => exact ⟨a.1, a.2.1, a.2.2, rfl, h⟩
def z_b4 {α β γ ε δ : Type} (x : Option (α × β × γ × ε)) (f : α → β → γ → ε → Option δ) : Option δ := match x with
  | none => none
  | some (a, b, c, d) => f a b c d
theorem z_b4s {α β γ ε δ : Type} {x : Option (α × β × γ × ε)} {f : α → β → γ → ε → Option δ} {r : δ} (h : z_b4 x f = some r) : ∃ a b c d, x = some (a, b, c, d) ∧ f a b c d = some r := by
  cases x with
  | none => cases h
  | some a => exact ⟨a.1, a.2.1, a.2.2.1, a.2.2.2, rfl, h⟩
def z_b5 {α β γ ε ζ δ : Type} (x : Option (α × β × γ × ε × ζ)) (f : α → β → γ → ε → ζ → Option δ) : Option δ := match x with
  | none => none
  | some (a, b, c, d, e) => f a b c d e
theorem z_b5s {α β γ ε ζ δ : Type} {x : Option (α × β × γ × ε × ζ)} {f : α → β → γ → ε → ζ → Option δ} {r : δ} (h : z_b5 x f = some r) : ∃ a b c d e, x = some (a, b, c, d, e) ∧ f a b c d e = some r := by
  cases x with
  | none => cases h
  | some a => exact ⟨a.1, a.2.1, a.2.2.1, a.2.2.2.1, a.2.2.2.2, rfl, h⟩
def z_b6 {α β γ ε ζ η δ : Type} (x : Option (α × β × γ × ε × ζ × η)) (f : α → β → γ → ε → ζ → η → Option δ) : Option δ := match x with
  | none => none
  | some (a, b, c, d, e, g) => f a b c d e g
theorem z_b6s {α β γ ε ζ η δ : Type} {x : Option (α × β × γ × ε × ζ × η)} {f : α → β → γ → ε → ζ → η → Option δ} {r : δ} (h : z_b6 x f = some r) : ∃ a b c d e g, x = some (a, b, c, d, e, g) ∧ f a b c d e g = some r := by
  cases x with
  | none => cases h
  | some a => exact ⟨a.1, a.2.1, a.2.2.1, a.2.2.2.1, a.2.2.2.2.1, a.2.2.2.2.2, rfl, h⟩
/-! int operations that are not sums and products -/
def z_and (a b : Int) : Int := (Int32.ofInt a &&& Int32.ofInt b).toInt
def z_or (a b : Int) : Int := (Int32.ofInt a ||| Int32.ofInt b).toInt
def z_shl (a b : Int) : Int := (Int32.ofInt a <<< (Int32.ofInt b &&& 31)).toInt
def z_shr (a b : Int) : Int := (Int32.ofInt a >>> (Int32.ofInt b &&& 31)).toInt
def z_ushr (a b : Int) : Int := ((Int32.ofInt a).toUInt32 >>> ((Int32.ofInt b).toUInt32 &&& Int32.toUInt32 31)).toInt32.toInt
def z_i2c (a : Int) : Int := ((Int32.ofInt a).toUInt32 % 65536).toInt32.toInt
def z_i2l (a : Int) : Int64 := (Int32.ofInt a).toInt64
def z_l2i (a : Int64) : Int := a.toInt32.toInt
def z_lcmp (a b : Int64) : Int := (lg_cmp a b).toInt
def z_lshl (a : Int64) (b : Int) : Int64 := a <<< ((Int32.ofInt b).toInt64 &&& 63)
def z_lshr (a : Int64) (b : Int) : Int64 := a >>> ((Int32.ofInt b).toInt64 &&& 63)
def z_lrem (a b : Int64) : Int64 := a - a / b * b
theorem z_iof (x : Int32) : z_i x.toInt = .int x := by unfold z_i; rw [Int32.ofInt_toInt]
/-! worlds -/
abbrev z_G : Type := va_G × ClassId × ClassId × ClassId × ClassId
def z_T (G : z_G) : List (ClassId × FieldType) := [(G.2.1, .int), (G.2.2.1, .long), (G.2.2.2.1, .char), (G.2.2.2.2, .boolean)]
def z_nest : List Cond := [.methodLinkNest RX5 11 yX3_init RX5, .methodLinkNest RX5 18 yX0_init RX5, .methodLinkNest RX5 25 yX4_init RX5, .methodLinkNest RX5 38 yX2_init RX5, .methodLinkNest RX5 45 yX1_init RX5, .methodLinkNest RX0 32 yX5_isFrom RX5, .methodLinkNest RX3 58 yX5_isFrom RX5]
def z_K (G : z_G) (U : State) : Prop := va_K G.1 vwCl (z_T G) U ∧ ∀ w ∈ z_nest, va_Nw w U
theorem z_nest_form {w : Cond} (h : w ∈ z_nest) : ∃ a i x hh, w = .methodLinkNest a i x hh := by
  simp only [z_nest, List.mem_cons, List.not_mem_nil, or_false] at h
  rcases h with rfl | rfl | rfl | rfl | rfl | rfl | rfl <;> exact ⟨_, _, _, _, rfl⟩
theorem z_K.moved {G : z_G} {s U : State} (hW : s.WarmedH U.vm) (h : z_K G s) : z_K G U := by
  refine ⟨va_K.moved hW.alike h.1, fun w hw => ?_⟩
  have h2 := h.2 w hw
  obtain ⟨a, i, x, hh, rfl⟩ := z_nest_form hw
  exact va_Nw.warmM hW h2
theorem z_K.same {G : z_G} {s U : State} (e : s.vm = U.vm) (h : z_K G s) : z_K G U := by
  refine ⟨va_K.moved (by rw [e]; exact Vm.Alike.refl U.vm) h.1, fun w hw => ?_⟩
  have h2 := h.2 w hw
  obtain ⟨a, i, x, hh, rfl⟩ := z_nest_form hw
  exact va_Nw.same rfl e h2
def z_a (c : ClassId) (n : Nat) (f : Int → Int) : va_E := .inl (c, (n, .inl (fun j => Int32.ofInt (f (j : Int)))))
def z_l (c : ClassId) (n : Nat) (f : Int → Int64) : va_E := .inl (c, (n, .inr (.inl (fun j => f (j : Int)))))
def z_o (ci : Nat) (fs : List Value) : va_E := .inr (ci, fs)
def z_W : List Cond := lw_tbl.filter goodWord
theorem z_mem (i : Nat) {w : Cond} (h : lw_tbl[i]? = some w) (hg : goodWord w = true) : w ∈ z_W := List.mem_filter.mpr ⟨List.mem_of_getElem? h, hg⟩
theorem z_W_tbl {w : Cond} (h : w ∈ z_W) : w ∈ lw_tbl := (List.mem_filter.mp h).1
theorem z_W_good {w : Cond} (h : w ∈ z_W) : goodWord w = true := (List.mem_filter.mp h).2
/-- the cells isC of ws take the contents xs -/
def z_put : va_W → List Nat → va_W → va_W
  | ws, i :: is, x :: xs => z_put (ws.set i x) is xs
  | ws, _, _ => ws
theorem z_put_get : ∀ (is : List Nat) (xs ws : va_W), is.length = xs.length → va_nd is = true → ∀ (k : Nat) (q : Nat × va_E), (z_put ws is xs)[k]? = some q → (∃ j : Nat, is[j]? = some k ∧ xs[j]? = some q) ∨ (k ∉ is ∧ ws[k]? = some q)
  | [], xs, ws, _, _, k, q, h => Or.inr ⟨List.not_mem_nil, by cases xs <;> exact h⟩
  | i :: is, [], ws, hl, _, k, q, h => by cases hl
  | i :: is, x :: xs, ws, hl, hn, k, q, h => by
    simp only [va_nd, Bool.and_eq_true, decide_eq_true_eq] at hn
    rcases z_put_get is xs (ws.set i x) (by simpa using hl) hn.2 k q h with ⟨j, h1, h2⟩ | ⟨h1, h2⟩
    · exact Or.inl ⟨j + 1, by simpa using h1, by simpa using h2⟩
    · by_cases hk : k = i
      · subst hk
        have hlt : k < ws.length := by
          have := (List.getElem?_eq_some_iff.mp h2).1
          simpa using this
        rw [List.getElem?_set_self hlt] at h2
        exact Or.inl ⟨0, rfl, by simpa using h2⟩
      · rw [List.getElem?_set_ne (Ne.symm hk)] at h2
        exact Or.inr ⟨fun hm => (List.mem_cons.mp hm).elim hk h1, h2⟩
theorem z_at {is : List Nat} {ws wc : va_W} (hs : is.map (fun i => ws[i]?) = wc.map some) (k : Nat) (q : Nat × va_E) (hq : wc[k]? = some q) : ∃ i, is[k]? = some i ∧ ws[i]? = some q := by
  have h1 : (is.map (fun i => ws[i]?))[k]? = some (some q) := by rw [hs, List.getElem?_map, hq]; rfl
  rw [List.getElem?_map] at h1
  cases hi : is[k]? with
  | none => rw [hi] at h1; cases h1
  | some i => rw [hi] at h1; exact ⟨i, rfl, Option.some.inj h1⟩
theorem z_at2 {is : List Nat} {ws wc : va_W} (hs : is.map (fun i => ws[i]?) = wc.map some) (k i : Nat) (hi : is[k]? = some i) : ∃ q, wc[k]? = some q ∧ ws[i]? = some q := by
  have h1 : (wc.map some)[k]? = some (ws[i]?) := by rw [← hs, List.getElem?_map, hi]; rfl
  rw [List.getElem?_map] at h1
  cases hq : wc[k]? with
  | none => rw [hq] at h1; cases h1
  | some q => rw [hq] at h1; exact ⟨q, rfl, (Option.some.inj h1).symm⟩
theorem z_len {is : List Nat} {ws wc : va_W} (hs : is.map (fun i => ws[i]?) = wc.map some) : is.length = wc.length := by
  have := congrArg List.length hs
  simpa using this
theorem z_adr {w1 wc : va_W} (h : w1.map (fun q => q.1) = wc.map (fun q => q.1)) (k : Nat) {q q' : Nat × va_E} (h1 : w1[k]? = some q) (h2 : wc[k]? = some q') : q.1 = q'.1 := by
  have e : (w1.map (fun q => q.1))[k]? = (wc.map (fun q => q.1))[k]? := by rw [h]
  rw [List.getElem?_map, List.getElem?_map, h1, h2] at e
  exact Option.some.inj e
/-- behind a call: the callee's cells take their new contents in their places, what it has made comes behind -/
theorem z_join {A : Nat → Prop} {D : va_G} {cl : List vw_C} {ws wc w1 wn : va_W} {H H1 : Heap} (hP : va_P D cl ws H) (hD : va_D A ws) (is : List Nat) (hs : is.map (fun i => ws[i]?) = wc.map some) (hn : va_nd is = true) (hw : w1.map (fun q => q.1) = wc.map (fun q => q.1))
    (hk : ∀ q : Nat, q < H.size → ¬ va_A wc H.size q → H1[q]? = H[q]?) (hF : ∀ q, va_A wc H.size q → A q) (hP1 : va_P D cl (w1 ++ wn) H1) (hD1 : va_D (va_A wc H.size) (w1 ++ wn)) : va_P D cl (z_put ws is w1 ++ wn) H1 ∧ va_D A (z_put ws is w1 ++ wn) := by
  have hl1 : w1.length = wc.length := by have := congrArg List.length hw; simpa using this
  have hl : is.length = w1.length := by rw [hl1]; exact z_len hs
  have apart : ∀ (k : Nat) (q : Nat × va_E), k ∉ is → ws[k]? = some q → q.1 < H.size ∧ ¬ va_A wc H.size q.1 := by
    intro k q hki hq
    have hlt := (hP k q hq).lt
    refine ⟨hlt, fun h => ?_⟩
    rcases h with ⟨k2, e, h⟩ | h
    · obtain ⟨j, h3, h4⟩ := z_at hs k2 (q.1, e) h
      have hij := hD.1 k j q (q.1, e) hq h4 rfl
      subst hij
      exact hki (List.mem_of_getElem? h3)
    · omega
  have in1 : ∀ (j : Nat) (q : Nat × va_E), w1[j]? = some q → (w1 ++ wn)[j]? = some q := fun j q h => by
    rw [List.getElem?_append_left (List.getElem?_eq_some_iff.mp h).1]; exact h
  have in2 : ∀ (j : Nat) (q : Nat × va_E), wn[j]? = some q → (w1 ++ wn)[w1.length + j]? = some q := fun j q h => by
    rw [List.getElem?_append_right (by omega), Nat.add_sub_cancel_left]; exact h
  have adr : ∀ (k : Nat) (q : Nat × va_E), (z_put ws is w1)[k]? = some q → ∃ q0, ws[k]? = some q0 ∧ q0.1 = q.1 := by
    intro k q hq
    rcases z_put_get is w1 ws hl hn k q hq with ⟨j, h1, h2⟩ | ⟨h1, h2⟩
    · obtain ⟨q', h3, h4⟩ := z_at2 hs j k h1
      exact ⟨q', h4, (z_adr hw j h2 h3).symm⟩
    · exact ⟨q, h2, rfl⟩
  have PA : va_P D cl (z_put ws is w1) H1 := by
    intro k q hq
    rcases z_put_get is w1 ws hl hn k q hq with ⟨j, h1, h2⟩ | ⟨h1, h2⟩
    · exact hP1 j q (in1 j q h2)
    · obtain ⟨g1, g2⟩ := apart k q h1 h2
      exact (hP k q h2).kept (hk q.1 g1 g2)
  have PB : va_P D cl wn H1 := fun k q hq => hP1 _ q (in2 k q hq)
  have DA : va_D A (z_put ws is w1) := by
    refine ⟨fun i j x y hi hj hxy => ?_, fun k q hq => ?_⟩
    · obtain ⟨x0, h1, h2⟩ := adr i x hi
      obtain ⟨y0, h3, h4⟩ := adr j y hj
      exact hD.1 i j x0 y0 h1 h3 (h2.trans (hxy.trans h4.symm))
    · obtain ⟨q0, h1, h2⟩ := adr k q hq
      rw [← h2]
      exact hD.2 k q0 h1
  have DB : va_D A wn := by
    refine ⟨fun i j x y hi hj hxy => ?_, fun k q hq => hF q.1 (hD1.2 _ q (in2 k q hq))⟩
    have := hD1.1 _ _ x y (in2 i x hi) (in2 j y hj) hxy
    omega
  refine ⟨va_P.app PA PB, va_D.app DA DB fun i j x y hx hy hxy => ?_⟩
  obtain ⟨x0, h1, h2⟩ := adr i x hx
  have hyA := hD1.2 _ y (in2 j y hy)
  rcases hyA with ⟨k2, e, h⟩ | h
  · have hk2 : k2 < w1.length := by rw [hl1]; exact (List.getElem?_eq_some_iff.mp h).1
    have h3 : w1[k2]? = some w1[k2] := List.getElem?_eq_getElem hk2
    have h4 := z_adr hw k2 h3 h
    have := hD1.1 k2 (w1.length + j) _ y (in1 k2 _ h3) (in2 j y hy) h4
    omega
  · have := (hP i x0 h1).lt
    omega
