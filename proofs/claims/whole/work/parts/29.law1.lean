/-! rows for the law -/
def z_SX : z_X → Nat → Nat → (Nat → Int32) → Prop
  | (_, _, _, _, s, _, _, _, _, _, _, A, H0, _, _), b, Ln, xs => va_X b Ln xs s H0 ∧ b < H0.size ∧ ¬ A b
section
variable {X : z_X} {l : Launch} {G : z_G} {own : String} {cc : ByteArray} {nL : Nat} {R : Room} {ce sl : Nat} {ws ws' : va_W} {L L' : List (Nat × Value)} {pc tgt : Nat} {st : List Value} {a b q v Ln : Nat} {x y : Int} {xs : Nat → Int32}
theorem z_sld (C : z_C X l G own cc nL R) (SX : z_SX X b Ln xs) (hin : 0 ≤ x ∧ x < (Ln : Int)) (nx : z_n x) (d : decode cc pc = .ok (.iaload, 1)) (kk : z_J X ce sl ws L (pc + 1) (z_i (xs x.toNat).toInt :: st)) : z_J X ce sl ws L pc (z_i x :: .ref b :: st) := by
  obtain ⟨p, l', e, R', s, m, args, below, meth, c, G', A, H0, Q, n⟩ := X
  obtain ⟨hx, hb, hml, hown, hts, hK, hA, rfl, rfl, rfl, rfl⟩ := C
  obtain ⟨h1, h2, h3⟩ := SX
  intro H locs ls hP hD hS hl
  refine va_sld hx hb h1 h2 h3 hS (z_idx hin nx) d ?_
  rw [z_clamp nx, ← z_iof]
  exact kk H locs ls hP hD hS hl
theorem z_slen (C : z_C X l G own cc nL R) (SX : z_SX X b Ln xs) (d : decode cc pc = .ok (.arraylength, 1)) (kk : z_J X ce sl ws L (pc + 1) (z_i (Ln : Int) :: st)) : z_J X ce sl ws L pc (.ref b :: st) := by
  obtain ⟨p, l', e, R', s, m, args, below, meth, c, G', A, H0, Q, n⟩ := X
  obtain ⟨hx, hb, hml, hown, hts, hK, hA, rfl, rfl, rfl, rfl⟩ := C
  obtain ⟨h1, h2, h3⟩ := SX
  intro H locs ls hP hD hS hl
  exact va_slen hx hb h1 h2 h3 hS d (kk H locs ls hP hD hS hl)
theorem z_callI (C : z_C X l G own cc nL R) {ym : MethodName} {cy : ByteArray} {ny idx mc ms : Nat} {rm : Room} {wc : va_W} {post : Option Value → va_W → Prop} (M : z_M l G ym cy ny none rm [.ref b] wc mc ms post) (hsp : ∀ v w, post v w → v = none ∧ ∃ w1 wn, w = w1 ++ wn ∧ w1.map (fun q => q.1) = wc.map (fun q => q.1)) (v1 : Cond.code ym cy ny none ∈ z_W) (v2 : Cond.initialized ym.cls ∈ z_W) (v3 : ym.cls ≠ "java/lang/invoke/MethodHandle" ∧ ym.cls ≠ "java/lang/invoke/VarHandle") (v4 : (parseMethodDescriptor ym.desc).map (fun d => d.parameters.length) = some 0) (v5 : Cond.instanceMethod ym ∈ z_W) (hi : ym.name = "<init>") (lk : Cond.methodLink own idx ym ∈ z_W) (d : decode cc pc = .ok (.invokespecial idx, 3)) (is : List Nat) (hs : is.map (fun i => ws[i]?) = wc.map some) (hn : va_nd is = true) (rest : List Value) (hst : st = .ref b :: rest) (hW : (rest.map fun v => v.category).sum ≤ 8) (hR : rm.frames + 1 ≤ R.frames ∧ 8 + (ny + 11) + rm.locals ≤ R.locals) (hm : rm.cells = mc ∧ rm.slots = ms) (hce : ce + mc ≤ R.cells ∧ sl + ms ≤ R.slots)
    (kk : ∀ w1 wn, post none (w1 ++ wn) → w1.map (fun q => q.1) = wc.map (fun q => q.1) → z_J X (ce + mc) (sl + ms) (z_put ws is w1 ++ wn) L (pc + 3) rest) : z_J X ce sl ws L pc st := by
  obtain ⟨p, l', e', R', s, m, args, below, meth, c, G', A, H0, Q, nn⟩ := X
  obtain ⟨hx, hb, hml, hown, hts, hK, hA, rfl, rfl, rfl, rfl⟩ := C
  intro H locs ls hP hD hS hl
  subst hst
  have hPc : va_P G'.1 vwCl wc H := fun k z hz => by
    obtain ⟨i, -, hi⟩ := z_at hs k z hz
    exact hP i z hi
  have hDc : va_D A wc := hD.sub is hn hs
  have hrun := va_runI (H := H) (locs := locs) (cells := ce) (slots := sl) (below := below) (meth := meth) (p := p) (e := e') (As := []) (rest := rest) (b := b) (cc := cc) (index := idx) (g := F0 m pc ls (.ref b :: rest)) (n := 0) (mc := mc) (ms := ms) ⟨hx, hb, hml, hown, hts⟩ (M H.size) ⟨z_callB hts v1 v2 v3 v4 lk hR hm.1 hm.2, hi, hts _ v5⟩ ⟨z_blind, fun U hU hW => ⟨rfl, by rw [hU], by rw [hU]; exact hPc, z_K.moved hW hK, hDc.weaken fun _ _ _ _ => trivial⟩⟩ rfl rfl hl.1 rfl (lv_room hW) d ⟨hce.1, hce.2⟩
  refine z_go hP hD hS hA hrun is hs hn (fun v w h => (hsp v w h).2) (fun v w1 wn H1 locs1 hpo hw' hP hD hS => ?_)
  obtain ⟨rfl, -⟩ := hsp v _ hpo
  exact kk w1 wn hpo hw' H1 locs1 ls hP hD hS hl
theorem z_callIL (C : z_C X l G own cc nL R) (LX : z_LX X q v) {ym : MethodName} {cy : ByteArray} {ny idx mc ms : Nat} {rm : Room} {wc : va_W} {post : Option Value → va_W → Prop} (M : z_ML l G q v ym cy ny none rm [.ref b] wc mc ms post) (hsp : ∀ v w, post v w → v = none ∧ ∃ w1 wn, w = w1 ++ wn ∧ w1.map (fun q => q.1) = wc.map (fun q => q.1)) (v1 : Cond.code ym cy ny none ∈ z_W) (v2 : Cond.initialized ym.cls ∈ z_W) (v3 : ym.cls ≠ "java/lang/invoke/MethodHandle" ∧ ym.cls ≠ "java/lang/invoke/VarHandle") (v4 : (parseMethodDescriptor ym.desc).map (fun d => d.parameters.length) = some 0) (v5 : Cond.instanceMethod ym ∈ z_W) (hi : ym.name = "<init>") (lk : Cond.methodLink own idx ym ∈ z_W) (d : decode cc pc = .ok (.invokespecial idx, 3)) (is : List Nat) (hs : is.map (fun i => ws[i]?) = wc.map some) (hn : va_nd is = true) (rest : List Value) (hst : st = .ref b :: rest) (hW : (rest.map fun v => v.category).sum ≤ 8) (hR : rm.frames + 1 ≤ R.frames ∧ 8 + (ny + 11) + rm.locals ≤ R.locals) (hm : rm.cells = mc ∧ rm.slots = ms) (hce : ce + mc ≤ R.cells ∧ sl + ms ≤ R.slots)
    (kk : ∀ w1 wn, post none (w1 ++ wn) → w1.map (fun q => q.1) = wc.map (fun q => q.1) → z_J X (ce + mc) (sl + ms) (z_put ws is w1 ++ wn) L (pc + 3) rest) : z_J X ce sl ws L pc st := by
  obtain ⟨p, l', e', R', s, m, args, below, meth, c, G', A, H0, Q, nn⟩ := X
  obtain ⟨hx, hb, hml, hown, hts, hK, hA, rfl, rfl, rfl, rfl⟩ := C
  obtain ⟨rfl, hlit⟩ := LX
  intro H locs ls hP hD hS hl
  subst hst
  have hPc : va_P G'.1 vwCl wc H := fun k z hz => by
    obtain ⟨i, -, hi⟩ := z_at hs k z hz
    exact hP i z hi
  have hDc : va_D A wc := hD.sub is hn hs
  have hfr := va_free (wc := wc) hD hS hA is hs
  have hrun := va_runI (H := H) (locs := locs) (cells := ce) (slots := sl) (below := below) (meth := meth) (p := p) (e := e') (As := []) (rest := rest) (b := b) (cc := cc) (index := idx) (g := F0 m pc ls (.ref b :: rest)) (n := 0) (mc := mc) (ms := ms) ⟨hx, hb, hml, hown, hts⟩ (M H.size) ⟨z_callB hts v1 v2 v3 v4 lk hR hm.1 hm.2, hi, hts _ v5⟩ ⟨z_blindL, fun U hU hW => ⟨rfl, ⟨by rw [hU], by rw [hU]; exact hPc, z_K.moved hW hK, hDc.weaken fun _ _ _ _ => trivial⟩, hlit.go hS.2.1 hU hW hfr⟩⟩ rfl rfl hl.1 rfl (lv_room hW) d ⟨hce.1, hce.2⟩
  refine z_go hP hD hS hA hrun is hs hn (fun v w h => (hsp v w h).2) (fun v w1 wn H1 locs1 hpo hw' hP hD hS => ?_)
  obtain ⟨rfl, -⟩ := hsp v _ hpo
  exact kk w1 wn hpo hw' H1 locs1 ls hP hD hS hl
end
