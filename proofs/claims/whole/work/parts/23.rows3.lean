/-! making objects and arrays -/
section
variable {X : z_X} {l : Launch} {G : z_G} {own : String} {cc : ByteArray} {nL : Nat} {R : Room} {ce sl : Nat} {ws ws' : va_W} {L L' : List (Nat × Value)} {pc tgt : Nat} {st : List Value} {a b : Nat} {x y : Int} {u v : Int64}
theorem z_newaG (C : z_C X l G own cc nL R) {atype : ArrayType} {ty : FieldType} (hty : newarray.typeOf atype = ty) (harr : Cond.arrayClass (newarray.typeOf atype) ∈ z_W) {cA : ClassId} (t0 : Nat) (ht : (z_T G)[t0]? = some (cA, ty)) (hra : ∀ (U : State) (c1 : ClassId), va_RA U c1 ty ↔ U.vm.findClass ("[" ++ ty.toString) = some c1) {N' : Nat} {a0 : vp_A} (ha : ∀ cA : ClassId, vp_cell cA a0 = arrV cA N' (fun _ => defaultValue ty)) (hx0 : 0 ≤ x ∧ z_n x) (hN : x.toNat = N') (hbytes : N' * componentBytes ty ≤ 536870912) (hcells : ce + 1 ≤ R.cells) (hslots : sl + N' ≤ R.slots) (d : decode cc pc = .ok (.newarray atype, 2))
    (kk : ∀ q : Nat, z_J X (ce + 1) (sl + N') (ws ++ [(q, .inl (cA, a0))]) L (pc + 2) (.ref q :: st)) : z_J X ce sl ws L pc (z_i x :: st) := by
  obtain ⟨p, l', e, R', s, m, args, below, meth, c, G', A, H0, Q, n⟩ := X
  obtain ⟨hx, hb, hml, hown, hts, hK, hA, rfl, rfl, rfl, rfl⟩ := C
  intro H locs ls hP hD hS hl
  refine va_newa hx hb (hts _ harr) hty hK.1 hP hD hS hA ha (fun h => ?_) ((z_clamp hx0.2).trans hN) hbytes hcells hslots d (fun q cA' H1 hK' hP' hD' hS' => ?_)
  · rw [z_zero, z_lti hx0.2 z_n0] at h
    omega
  · have e1 := (hra s cA).mp (hK.1.2 t0 _ ht).2
    have e2 := (hra s cA').mp (hK'.2 (z_T G').length (cA', ty) (by simp)).2
    rw [e1] at e2
    obtain rfl := Option.some.inj e2
    exact kk q H1 locs ls hP' hD' hS' hl
theorem z_newa_i (C : z_C X l G own cc nL R) (harr : Cond.arrayClass .int ∈ z_W) {N' : Nat} (hx0 : 0 ≤ x ∧ z_n x) (hN : x.toNat = N') (hb : N' ≤ 1000) (hcells : ce + 1 ≤ R.cells) (hslots : sl + N' ≤ R.slots) (d : decode cc pc = .ok (.newarray .int, 2)) (kk : ∀ q : Nat, z_J X (ce + 1) (sl + N') (ws ++ [(q, z_a G.2.1 N' (fun _ => 0))]) L (pc + 2) (.ref q :: st)) : z_J X ce sl ws L pc (z_i x :: st) :=
  z_newaG C (atype := .int) (ty := .int) rfl harr 0 rfl (fun _ _ => Iff.rfl) (a0 := (N', .inl (fun j => Int32.ofInt ((fun _ : Int => (0 : Int)) (j : Int))))) (fun _ => rfl) hx0 hN (by have : componentBytes .int = 4 := rfl; rw [this]; omega) hcells hslots d kk
theorem z_newa_c (C : z_C X l G own cc nL R) (harr : Cond.arrayClass .char ∈ z_W) {N' : Nat} (hx0 : 0 ≤ x ∧ z_n x) (hN : x.toNat = N') (hb : N' ≤ 1000) (hcells : ce + 1 ≤ R.cells) (hslots : sl + N' ≤ R.slots) (d : decode cc pc = .ok (.newarray .char, 2)) (kk : ∀ q : Nat, z_J X (ce + 1) (sl + N') (ws ++ [(q, z_a G.2.2.2.1 N' (fun _ => 0))]) L (pc + 2) (.ref q :: st)) : z_J X ce sl ws L pc (z_i x :: st) :=
  z_newaG C (atype := .char) (ty := .char) rfl harr 2 rfl (fun _ _ => Iff.rfl) (a0 := (N', .inl (fun j => Int32.ofInt ((fun _ : Int => (0 : Int)) (j : Int))))) (fun _ => rfl) hx0 hN (by have : componentBytes .char = 2 := rfl; rw [this]; omega) hcells hslots d kk
theorem z_newa_z (C : z_C X l G own cc nL R) (harr : Cond.arrayClass .boolean ∈ z_W) {N' : Nat} (hx0 : 0 ≤ x ∧ z_n x) (hN : x.toNat = N') (hb : N' ≤ 1000) (hcells : ce + 1 ≤ R.cells) (hslots : sl + N' ≤ R.slots) (d : decode cc pc = .ok (.newarray .boolean, 2)) (kk : ∀ q : Nat, z_J X (ce + 1) (sl + N') (ws ++ [(q, z_a G.2.2.2.2 N' (fun _ => 0))]) L (pc + 2) (.ref q :: st)) : z_J X ce sl ws L pc (z_i x :: st) :=
  z_newaG C (atype := .boolean) (ty := .boolean) rfl harr 3 rfl (fun _ _ => Iff.rfl) (a0 := (N', .inl (fun j => Int32.ofInt ((fun _ : Int => (0 : Int)) (j : Int))))) (fun _ => rfl) hx0 hN (by have : componentBytes .boolean = 1 := rfl; rw [this]; omega) hcells hslots d kk
theorem z_newa_l (C : z_C X l G own cc nL R) (harr : Cond.arrayClass .long ∈ z_W) {N' : Nat} (hx0 : 0 ≤ x ∧ z_n x) (hN : x.toNat = N') (hb : N' ≤ 1000) (hcells : ce + 1 ≤ R.cells) (hslots : sl + N' ≤ R.slots) (d : decode cc pc = .ok (.newarray .long, 2)) (kk : ∀ q : Nat, z_J X (ce + 1) (sl + N') (ws ++ [(q, z_l G.2.2.1 N' (fun _ => 0))]) L (pc + 2) (.ref q :: st)) : z_J X ce sl ws L pc (z_i x :: st) :=
  z_newaG C (atype := .long) (ty := .long) rfl harr 1 rfl (fun _ _ => Iff.rfl) (a0 := (N', .inr (.inl (fun j => (fun _ : Int => (0 : Int64)) (j : Int))))) (fun _ => rfl) hx0 hN (by have : componentBytes .long = 8 := rfl; rw [this]; omega) hcells hslots d kk
theorem z_newo (C : z_C X l G own cc nL R) {Cn : String} {T : u_T} {N ci idx : Nat} (hin : ∀ w ∈ u_ws Cn T N, w ∈ z_W) (ty : Nat → FieldType) (hty : ∀ k, k < N → parseFieldDescriptor (T k).2.2.1 = some (ty k)) (hcl : Cond.classLink own idx Cn ∈ z_W) (hinst : Cond.instantiable Cn N ∈ z_W) (hini : Cond.initialized Cn ∈ z_W) (hc : vwCl[ci]? = some (Cn, T, N)) {fs : List Value} (hfs : ∀ j, j < N → defaultValue (ty j) = vp_V fs j) (hcells : ce + 1 ≤ R.cells) (hslots : sl + N ≤ R.slots) (d : decode cc pc = .ok (.new idx, 3)) (kk : ∀ q : Nat, z_J X (ce + 1) (sl + N) (ws ++ [(q, z_o ci fs)]) L (pc + 3) (.ref q :: st)) : z_J X ce sl ws L pc st := by
  obtain ⟨p, l', e, R', s, m, args, below, meth, c, G', A, H0, Q, n⟩ := X
  obtain ⟨hx, hb, hml, hown, hts, hK, hA, rfl, rfl, rfl, rfl⟩ := C
  intro H locs ls hP hD hS hl
  exact va_new hx hb hts hin ty hty hown (hts _ hcl) (hts _ hinst) (hts _ hini) hK.1 hP hD hS hA hc hfs hcells hslots d (fun q H1 hP' hD' hS' => kk q H1 locs ls hP' hD' hS' hl)
theorem z_objI (C : z_C X l G own cc nL R) {idx : Nat} (h1 : Cond.methodLink own idx objectInit ∈ z_W) (h2 : Cond.instanceMethod objectInit ∈ z_W) (h3 : Cond.code objectInit ⟨#[0xb1]⟩ 1 none ∈ z_W) (d : decode cc pc = .ok (.invokespecial idx, 3)) (hf : 1 ≤ R.frames) (hlo : (st.map fun v => v.category).sum + 12 ≤ R.locals) (kk : z_J X ce sl ws L (pc + 3) st) : z_J X ce sl ws L pc (.ref a :: st) := by
  obtain ⟨p, l', e, R', s, m, args, below, meth, c, G', A, H0, Q, n⟩ := X
  obtain ⟨hx, hb, hml, hown, hts, hK, hA, rfl, rfl, rfl, rfl⟩ := C
  intro H locs ls hP hD hS hl
  refine W.objInit hx hb hown (hts _ h1) (hts _ h2) (hts _ h3) rfl (by rw [hml]; exact hl.1) rfl d hf ?_ (kk H locs ls hP hD hS hl)
  show 2 * 0 + (st.map fun v => v.category).sum + 12 ≤ _
  omega
theorem z_putF (C : z_C X l G own cc nL R) {ym : MethodName} {ret : Option FieldType} {mc ms : Nat} {post : Option Value → va_W → Prop} (E : z_E X ym ret mc ms post) (hy : ym.name = "<init>") {idx ci k : Nat} {ft : FieldType} (F : z_F own idx ci k ft true) (ho : (vwCl[ci]?).map (fun z => z.1) = some own) (d : decode cc pc = .ok (.putfield idx, 3)) (q : Nat) {fs : List Value} {va : Value} (he : ws[q]? = some (a, z_o ci fs)) {w : Value} (hv : fs[k]? = some w) (hnr : narrow ft va = va) (hfit : fits ft va = true) (hw : ws.set q (a, z_o ci (fs.set k va)) = ws') (kk : z_J X ce sl ws' L (pc + 3) st) : z_J X ce sl ws L pc (va :: .ref a :: st) := by
  obtain ⟨p, l', e, R', s, m, args, below, meth, c, G', A, H0, Q, n⟩ := X
  obtain ⟨hx, hb, hml, hown, hts, hK, hA, rfl, rfl, rfl, rfl⟩ := C
  obtain ⟨Cn, T, N, ty, hc, hin, hty, hnm, hk, hlk, hft, hfin, hcn⟩ := F
  obtain ⟨-, -, hname, -⟩ := E
  intro H locs ls hP hD hS hl
  subst hw
  rw [hc] at ho
  have ho' : Cn = own := Option.some.inj ho
  exact va_putF hx hb hts hin ty hty hnm hown hK.1 hP hD hS q he hc k hk (hts _ hlk) (fun _ h => h) hfin (hname.trans hy) (hcn.trans ho') ((hty k hk).trans (congrArg some hft)) hnr hfit (List.getElem?_eq_some_iff.mp hv).1 d (fun H locs hP hD hS => kk H locs ls hP hD hS hl)
theorem z_callIN (C : z_C X l G own cc nL R) {ym : MethodName} {cy : ByteArray} {ny idx mc ms : Nat} {host : String} {rm : Room} {wc : va_W} {post : Option Value → va_W → Prop} (M : z_M l G ym cy ny none rm [.ref b] wc mc ms post) (hsp : ∀ v w, post v w → v = none ∧ ∃ w1 wn, w = w1 ++ wn ∧ w1.map (fun q => q.1) = wc.map (fun q => q.1)) (v1 : Cond.code ym cy ny none ∈ z_W) (v2 : Cond.initialized ym.cls ∈ z_W) (v3 : ym.cls ≠ "java/lang/invoke/MethodHandle" ∧ ym.cls ≠ "java/lang/invoke/VarHandle") (v4 : (parseMethodDescriptor ym.desc).map (fun d => d.parameters.length) = some 0) (v5 : Cond.instanceMethod ym ∈ z_W) (hi : ym.name = "<init>") (lk : Cond.methodLinkNest own idx ym host ∈ z_nest) (d : decode cc pc = .ok (.invokespecial idx, 3)) (is : List Nat) (hs : is.map (fun i => ws[i]?) = wc.map some) (hn : va_nd is = true) (rest : List Value) (hst : st = .ref b :: rest) (hW : (rest.map fun v => v.category).sum ≤ 8) (hR : rm.frames + 1 ≤ R.frames ∧ 8 + (ny + 11) + rm.locals ≤ R.locals) (hm : rm.cells = mc ∧ rm.slots = ms) (hce : ce + mc ≤ R.cells ∧ sl + ms ≤ R.slots)
    (kk : ∀ w1 wn, post none (w1 ++ wn) → w1.map (fun q => q.1) = wc.map (fun q => q.1) → z_J X (ce + mc) (sl + ms) (z_put ws is w1 ++ wn) L (pc + 3) rest) : z_J X ce sl ws L pc st := by
  obtain ⟨p, l', e', R', s, m, args, below, meth, c, G', A, H0, Q, nn⟩ := X
  obtain ⟨hx, hb, hml, hown, hts, hK, hA, rfl, rfl, rfl, rfl⟩ := C
  intro H locs ls hP hD hS hl
  subst hst
  have hPc : va_P G'.1 vwCl wc H := fun k z hz => by
    obtain ⟨i, -, hi⟩ := z_at hs k z hz
    exact hP i z hi
  have hDc : va_D A wc := hD.sub is hn hs
  have hlk := va_Nw.use (A := args) rfl (hK.2 _ lk)
  have hsig : ∀ sig, parseMethodDescriptor ym.desc = some sig → 0 = sig.parameters.length := fun sig h => by
    rw [h] at v4
    exact (Option.some.inj v4).symm
  have hrun := va_runIN (H := H) (locs := locs) (cells := ce) (slots := sl) (below := below) (meth := meth) (p := p) (e := e') (As := []) (rest := rest) (b := b) (cc := cc) (index := idx) (g := F0 m pc ls (.ref b :: rest)) (n := 0) (mc := mc) (ms := ms) (bytes := cy) (maxL := ny) (host := host) ⟨hx, hb, hml, hown, hts⟩ (M H.size) ⟨⟨⟨hm.1, hm.2, hR.1, hR.2, z_pay hts v1, List.mem_cons_self⟩, hts _ v1, hts _ v2, v3, hsig, hlk⟩, hi, hts _ v5⟩ ⟨z_blind, fun U hU hW => ⟨rfl, by rw [hU], by rw [hU]; exact hPc, z_K.moved hW hK, hDc.weaken fun _ _ _ _ => trivial⟩⟩ rfl rfl hl.1 rfl (lv_room hW) d ⟨hce.1, hce.2⟩
  refine z_go hP hD hS hA hrun is hs hn (fun v w h => (hsp v w h).2) (fun v w1 wn H1 locs1 hpo hw' hP hD hS => ?_)
  obtain ⟨rfl, -⟩ := hsp v _ hpo
  exact kk w1 wn hpo hw' H1 locs1 ls hP hD hS hl
end
