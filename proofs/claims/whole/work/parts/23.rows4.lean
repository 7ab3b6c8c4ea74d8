/-! calls on a part of the world: bring its cells to the front, call, bring them back -/
theorem z_pick {X : z_X} {ce sl : Nat} {ws ws' : va_W} {L : List (Nat × Value)} {pc : Nat} {st : List Value} (is : List Nat) (hs : is.map (fun i => ws[i]?) = ws'.map some) (hn : va_nd is = true) (kk : z_J X ce sl ws' L pc st) : z_J X ce sl ws L pc st := by
  obtain ⟨p, l', e, R', s, m, args, below, meth, c, G', A, H0, Q, n⟩ := X
  intro H locs ls hP hD hS hl
  refine kk H locs ls (fun k z hz => ?_) (hD.sub is hn hs) hS hl
  obtain ⟨i, -, hi⟩ := z_at hs k z hz
  exact hP i z hi
theorem z_rngp (wc wr : va_W) : (List.range' 0 wc.length).map (fun i => (wc ++ wr)[i]?) = wc.map some := by
  apply List.ext_getElem?
  intro k
  rw [List.getElem?_map, List.getElem?_map]
  by_cases h : k < wc.length
  · rw [List.getElem?_range' (by omega)]
    simp only [Option.map_some, Nat.zero_add, Nat.one_mul]
    rw [List.getElem?_append_left h, List.getElem?_eq_getElem h]
    rfl
  · rw [List.getElem?_eq_none (by simp; omega), List.getElem?_eq_none (by omega)]
    rfl
theorem z_putp : ∀ (a w1 wc wr : va_W), w1.length = wc.length → z_put (a ++ wc ++ wr) (List.range' a.length wc.length) w1 = a ++ w1 ++ wr
  | a, [], [], wr, _ => by simp [z_put]
  | a, x :: w1, y :: wc, wr, h => by
    have e : (a ++ y :: wc ++ wr).set a.length x = (a ++ [x]) ++ wc ++ wr := by simp
    have q := z_putp (a ++ [x]) w1 wc wr (by simpa using h)
    rw [List.length_append, List.length_cons, List.length_nil] at q
    show z_put ((a ++ y :: wc ++ wr).set a.length x) (List.range' (a.length + 1) wc.length) w1 = _
    rw [e, q]
    simp
  | a, [], y :: wc, wr, h => by simp at h
  | a, x :: w1, [], wr, h => by simp at h
theorem z_callVp {X : z_X} {l : Launch} {G : z_G} {own : String} {cc : ByteArray} {nL : Nat} {R : Room} {ce sl : Nat} {ws wr : va_W} {L : List (Nat × Value)} {pc : Nat} {st : List Value} {b : Nat} (C : z_C X l G own cc nL R) {ym : MethodName} {cy : ByteArray} {ny n idx : Nat} {ret : Option FieldType} {rm : Room} {As : List Value} {wc w1 : va_W} {r : Option Value} {F : Prop} (M : z_M l G ym cy ny ret rm (.ref b :: As) wc 0 0 (fun v w => v = r ∧ w = w1 ∧ F)) (V : z_V ym cy ny ret n) (lk : Cond.methodLink own idx ym ∈ z_W) (d : decode cc pc = .ok (.invokevirtual idx, 3)) (hws : ws = wc ++ wr) (hw : w1.map (fun q => q.1) = wc.map (fun q => q.1)) {ci : Nat} {fs : List Value} (hq : wc[0]? = some (b, z_o ci fs)) (hcn : (vwCl[ci]?).map (fun z => z.1) = some ym.cls) (hA1 : As.length = n) (rest : List Value) (hst : st = As.reverse ++ .ref b :: rest) (hW : (rest.map fun v => v.category).sum ≤ 8) (hR : rm.frames + 1 ≤ R.frames ∧ 8 + (ny + 11) + rm.locals ≤ R.locals) (hm0 : rm.cells = 0 ∧ rm.slots = 0) (hce : ce ≤ R.cells ∧ sl ≤ R.slots)
    (kk : F → z_J X ce sl (w1 ++ wr) L (pc + 3) (r.toList ++ rest)) : z_J X ce sl ws L pc st := by
  subst hws
  have hl : w1.length = wc.length := by have := congrArg List.length hw; simpa using this
  have q0 : (wc ++ wr)[0]? = some (b, z_o ci fs) := by
    rw [List.getElem?_append_left (List.getElem?_eq_some_iff.mp hq).1]; exact hq
  have hp := z_putp [] w1 wc wr hl
  simp only [List.nil_append, List.length_nil] at hp
  exact z_callV C M V lk d (List.range' 0 wc.length) (z_rngp wc wr) (z_ndr _ _) hw hp 0 q0 hcn hA1 rest hst hW hR hm0 hce kk
