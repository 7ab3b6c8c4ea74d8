/-! the String constant of the class: its facts, and contracts that lean on them -/
def s_txt : List Int := [115, 52, 44, 53, 59, 104, 54, 44, 50, 59, 104, 55, 44, 51, 59, 104, 56, 44, 54, 59, 104, 49, 49, 44, 49, 59, 104, 49, 50, 44, 50, 59, 104, 51, 44, 52, 59, 104, 49, 55, 44, 51, 59, 107, 52, 44, 49, 59, 107, 49, 57, 44, 50, 59, 107, 57, 44, 51, 59, 107, 49, 49, 44, 52, 59, 119, 55, 44, 51, 59]
def z_lit (q v : Nat) (A : Nat → Prop) (U : State) (H : Heap) : Prop := vk_S 1 [70] [s_txt.map Int32.ofInt] (fun _ => q) (fun _ => v) A U H ∧ va_Z "java/lang/String" "COMPACT_STRINGS" "Z" (.int 1) A U H ∧ va_Zq "jdk/internal/util/Preconditions" "SIOOBE_FORMATTER" "Ljava/util/function/BiFunction;" A U H ∧ vk_R RX5 64 "s4,5;h6,2;h7,3;h8,6;h11,1;h12,2;h3,4;h17,3;k4,1;k19,2;k9,3;k11,4;w7,3;" q U
theorem z_lit.go {q v : Nat} {A B : Nat → Prop} {s U : State} {H : Heap} (h : z_lit q v A s s.heap) (hk : ∀ a : Nat, a < s.heap.size → ¬ A a → H[a]? = s.heap[a]?) (hU : U.heap = H) (hW : s.WarmedH U.vm) (hAB : ∀ a, B a → A a) : z_lit q v B U U.heap := by
  obtain ⟨h1, h2, h3, h4⟩ := h
  rw [hU]
  exact ⟨((h1.kept hk).narrow hAB).moved hW.alike, ((h2.kept hk).narrow hAB).moved hW.alike, ((h3.kept hk).narrow hAB).moved hW.alike, vk_R.warm hW h4⟩
theorem z_lit.same {q v : Nat} {A : Nat → Prop} {U V : State} {H : Heap} (e : U.vm = V.vm) (h : z_lit q v A U H) : z_lit q v A V H := by
  obtain ⟨h1, h2, h3, h4⟩ := h
  have al : U.vm.Alike V.vm := by rw [e]; exact Vm.Alike.refl V.vm
  exact ⟨h1.moved al, h2.moved al, h3.moved al, vk_R.same e.symm h4⟩
def z_ML (l : Launch) (G : z_G) (q v : Nat) (y : MethodName) (cc : ByteArray) (nL : Nat) (ret : Option FieldType) (rm : Room) (vs : List Value) (wc : va_W) (mc ms : Nat) (post : Option Value → va_W → Prop) : Prop :=
  ∀ sz : Nat, Met l y (Cond.code y cc nL ret :: z_W) rm (va_Pc vs (fun U => (U.heap.size = sz ∧ va_P G.1 vwCl wc U.heap ∧ z_K G U ∧ va_D (fun _ => True) wc) ∧ z_lit q v (va_A wc sz) U U.heap)) (z_Qc G wc sz post) mc ms (va_A wc sz)
def z_LX : z_X → Nat → Nat → Prop
  | (_, _, _, _, s, _, _, _, _, _, _, A, H0, _, _), q, v => H0 = s.heap ∧ z_lit q v A s s.heap
theorem z_blindL {G : z_G} {vs : List Value} {wc : va_W} {sz q v : Nat} : FrameBlind (va_Pc vs (fun U => (U.heap.size = sz ∧ va_P G.1 vwCl wc U.heap ∧ z_K G U ∧ va_D (fun _ => True) wc) ∧ z_lit q v (va_A wc sz) U U.heap)) := fun _ U g mk h => ⟨h.1, ⟨h.2.1.1, h.2.1.2.1, z_K.same (s := U) (U := U.calling g mk _) rfl h.2.1.2.2.1, h.2.1.2.2.2⟩, z_lit.same (U := U) (V := U.calling g mk _) rfl h.2.2⟩
theorem z_ML.intro {l : Launch} {G : z_G} {q v : Nat} {y : MethodName} {cc : ByteArray} {nL : Nat} {ret : Option FieldType} {rm : Room} {vs : List Value} {wc : va_W} {mc ms : Nat} {post : Option Value → va_W → Prop} (hy : plainName y.cls = true) (hlen : (lg_sl vs).length ≤ nL) {L : List (Nat × Value)} (hL : lv_args 0 vs = L)
    (body : ∀ X : z_X, z_C X l G y.cls cc nL rm → z_E X y ret mc ms post → z_LX X q v → z_J X 0 0 wc L 0 []) : z_ML l G q v y cc nL ret rm vs wc mc ms post := by
  intro sz
  subst hL
  refine Met.ofW (cc := cc) (maxL := nL) (ret := ret) hy rfl ?_
  intro p e s m args below meth c s₁ B hml hv
  obtain ⟨rfl, ⟨hsz, hP, hK, hD0⟩, hlit⟩ := hv
  subst hsz
  have hts := atoms_spec (ws := Cond.code y cc nL ret :: z_W) B.pre
  have hown : s.vm.findClass y.cls = some m.cls := findClass_of_methodNamed B.named
  have hnm : meth.name = y.name := (name_of_methodNamed B.named B.method).1
  have h := body (p, l, e, rm, s, m, vs.toArray, below, meth, c, G, va_A wc s.heap.size, s.heap, MQ below (z_Qc G wc s.heap.size post) vs.toArray s mc ms (va_A wc s.heap.size), nL)
    ⟨B.exec, B.bytes, hml, hown, fun w hw => hts w (List.mem_cons_of_mem _ hw), hK, fun q hq => Or.inr hq, rfl, rfl, rfl, rfl⟩ ⟨B.returns, B.notSynchronized, hnm, rfl, wc, rfl, rfl⟩ ⟨rfl, hlit⟩
  rw [lg_entry_eq]
  exact h s.heap [] _ hP hD0.self va_S.rf (lv_entry vs hlen)
section
variable {X : z_X} {l : Launch} {G : z_G} {own : String} {cc : ByteArray} {nL : Nat} {R : Room} {ce sl : Nat} {ws ws' : va_W} {L L' : List (Nat × Value)} {pc tgt : Nat} {st : List Value} {a b q v : Nat} {x y : Int}
theorem z_getC (C : z_C X l G own cc nL R) (LX : z_LX X q v) {idx : Nat} (hl : Cond.fieldLink own idx "java/lang/String" "COMPACT_STRINGS" "Z" ∈ z_W) (d : decode cc pc = .ok (.getstatic idx, 3)) (kk : z_J X ce sl ws L (pc + 3) (z_i 1 :: st)) : z_J X ce sl ws L pc st := by
  obtain ⟨p, l', e, R', s, m, args, below, meth, c, G', A, H0, Q, n⟩ := X
  obtain ⟨hx, hb, hml, hown, hts, hK, hA, rfl, rfl, rfl, rfl⟩ := C
  obtain ⟨rfl, h1, h2, h3, h4⟩ := LX
  intro H locs ls hP hD hS hl'
  exact va_gets hx hb h2 hS hown (hts _ hl) (fun _ h => h) d (kk H locs ls hP hD hS hl')
theorem z_getS (C : z_C X l G own cc nL R) (LX : z_LX X q v) {idx : Nat} (hl : Cond.fieldLink own idx "jdk/internal/util/Preconditions" "SIOOBE_FORMATTER" "Ljava/util/function/BiFunction;" ∈ z_W) (d : decode cc pc = .ok (.getstatic idx, 3)) (kk : ∀ w : Value, (w = .null ∨ ∃ t, w = .ref t) → z_J X ce sl ws L (pc + 3) (w :: st)) : z_J X ce sl ws L pc st := by
  obtain ⟨p, l', e, R', s, m, args, below, meth, c, G', A, H0, Q, n⟩ := X
  obtain ⟨hx, hb, hml, hown, hts, hK, hA, rfl, rfl, rfl, rfl⟩ := C
  obtain ⟨rfl, h1, h2, h3, h4⟩ := LX
  intro H locs ls hP hD hS hl'
  rcases h3 with h3 | ⟨t, h3⟩
  · exact va_gets hx hb h3 hS hown (hts _ hl) (fun _ h => h) d (kk _ (Or.inl rfl) H locs ls hP hD hS hl')
  · exact va_gets hx hb h3 hS hown (hts _ hl) (fun _ h => h) d (kk _ (Or.inr ⟨t, rfl⟩) H locs ls hP hD hS hl')
theorem z_gcoder (C : z_C X l G own cc nL R) (LX : z_LX X q v) {idx : Nat} (hl : Cond.fieldLink own idx "java/lang/String" "coder" "B" ∈ z_W) (d : decode cc pc = .ok (.getfield idx, 3)) (kk : z_J X ce sl ws L (pc + 3) (z_i 0 :: st)) : z_J X ce sl ws L pc (.ref q :: st) := by
  obtain ⟨p, l', e, R', s, m, args, below, meth, c, G', A, H0, Q, n⟩ := X
  obtain ⟨hx, hb, hml, hown, hts, hK, hA, rfl, rfl, rfl, rfl⟩ := C
  obtain ⟨rfl, h1, h2, h3, h4⟩ := LX
  intro H locs ls hP hD hS hl'
  exact vk_getf hx hb (h1.1 0 (by decide)).2.1 hS hown (hts _ hl) (fun _ h => h) d (kk H locs ls hP hD hS hl')
theorem z_gvalue (C : z_C X l G own cc nL R) (LX : z_LX X q v) {idx : Nat} (hl : Cond.fieldLink own idx "java/lang/String" "value" "[B" ∈ z_W) (d : decode cc pc = .ok (.getfield idx, 3)) (kk : z_J X ce sl ws L (pc + 3) (.ref v :: st)) : z_J X ce sl ws L pc (.ref q :: st) := by
  obtain ⟨p, l', e, R', s, m, args, below, meth, c, G', A, H0, Q, n⟩ := X
  obtain ⟨hx, hb, hml, hown, hts, hK, hA, rfl, rfl, rfl, rfl⟩ := C
  obtain ⟨rfl, h1, h2, h3, h4⟩ := LX
  intro H locs ls hP hD hS hl'
  exact vk_getf hx hb (h1.1 0 (by decide)).2.2.1 hS hown (hts _ hl) (fun _ h => h) d (kk H locs ls hP hD hS hl')
theorem z_blen (C : z_C X l G own cc nL R) (LX : z_LX X q v) (d : decode cc pc = .ok (.arraylength, 1)) (kk : z_J X ce sl ws L (pc + 1) (z_i 70 :: st)) : z_J X ce sl ws L pc (.ref v :: st) := by
  obtain ⟨p, l', e, R', s, m, args, below, meth, c, G', A, H0, Q, n⟩ := X
  obtain ⟨hx, hb, hml, hown, hts, hK, hA, rfl, rfl, rfl, rfl⟩ := C
  obtain ⟨rfl, h1, h2, h3, h4⟩ := LX
  intro H locs ls hP hD hS hl'
  exact va_tlen hx hb (h1.1 0 (by decide)).2.2.2 hS (v := Int32.ofInt 70) (by decide) d (kk H locs ls hP hD hS hl')
theorem z_bld (C : z_C X l G own cc nL R) (LX : z_LX X q v) (hin : 0 ≤ x ∧ x < 70) (d : decode cc pc = .ok (.baload, 1)) (kk : z_J X ce sl ws L (pc + 1) (z_i (s_txt.getD x.toNat 0) :: st)) : z_J X ce sl ws L pc (z_i x :: .ref v :: st) := by
  obtain ⟨p, l', e, R', s, m, args, below, meth, c, G', A, H0, Q, n⟩ := X
  obtain ⟨hx, hb, hml, hown, hts, hK, hA, rfl, rfl, rfl, rfl⟩ := C
  obtain ⟨rfl, h1, h2, h3, h4⟩ := LX
  intro H locs ls hP hD hS hl'
  have nx : z_n x := by omega
  refine va_tb hx hb (h1.1 0 (by decide)).2.2.2 hS (i := Int32.ofInt x) (z_idx (n := 70) hin nx) ?_ d (kk H locs ls hP hD hS hl')
  rw [z_clamp nx]
  show Value.int ((s_txt.map Int32.ofInt).getD x.toNat 0) = .int (Int32.ofInt (s_txt.getD x.toNat 0))
  rw [List.getD_eq_getElem?_getD, List.getD_eq_getElem?_getD, List.getElem?_map]
  cases s_txt[x.toNat]? <;> rfl
theorem z_ldcL (C : z_C X l G RX5 cc nL R) (LX : z_LX X q v) (d : decode cc pc = .ok (.ldc 64, 2)) (kk : z_J X ce sl ws L (pc + 2) (.ref q :: st)) : z_J X ce sl ws L pc st := by
  obtain ⟨p, l', e, R', s, m, args, below, meth, c, G', A, H0, Q, n⟩ := X
  obtain ⟨hx, hb, hml, hown, hts, hK, hA, rfl, rfl, rfl, rfl⟩ := C
  obtain ⟨rfl, h1, h2, h3, h4⟩ := LX
  intro H locs ls hP hD hS hl'
  exact va_ldcS hx hb hown h4 d (kk H locs ls hP hD hS hl')
theorem z_nret (C : z_C X l G own cc nL R) {ym : MethodName} {ty : FieldType} {post : Option Value → va_W → Prop} (E : z_E X ym (some ty) ce sl post) (hn : narrow ty (z_i x) = z_i x) (d : decode cc pc = .ok (.ireturn, 1)) (h : post (some (z_i x)) ws) : z_J X ce sl ws L pc [z_i x] := by
  obtain ⟨p, l', e', R', s, m, args, below, meth, c, G', A, H0, Q, nn⟩ := X
  obtain ⟨hx, hb, hml, hown, hts, hK, hA, rfl, rfl, rfl, rfl⟩ := C
  obtain ⟨hr, hlk, hnm, rfl, wc, rfl, rfl⟩ := E
  intro H locs ls hP hD hS hl
  exact W.zret hx hb hr hn (fun t ht _ => ⟨⟨_, ws, rfl, h, by rw [ht]; exact hP, hD⟩, hS.F ht⟩) hS.2.2 d hlk
theorem z_callVL (C : z_C X l G own cc nL R) (LX : z_LX X q v) {ym : MethodName} {cy : ByteArray} {ny n idx : Nat} {ret : Option FieldType} {rm : Room} {As : List Value} {r : Option Value} (M : z_ML l G q v ym cy ny ret rm (.ref q :: As) [] 0 0 (fun vv w => vv = r ∧ w = [])) (hS1 : ym.cls = "java/lang/String") (V : z_V ym cy ny ret n) (lk : Cond.methodLink own idx ym ∈ z_W) (d : decode cc pc = .ok (.invokevirtual idx, 3)) (hA1 : As.length = n) (rest : List Value) (hst : st = As.reverse ++ .ref q :: rest) (hW : (rest.map fun v => v.category).sum ≤ 8) (hR : rm.frames + 1 ≤ R.frames ∧ 8 + (ny + 11) + rm.locals ≤ R.locals) (hm0 : rm.cells = 0 ∧ rm.slots = 0) (hce : ce ≤ R.cells ∧ sl ≤ R.slots)
    (kk : z_J X ce sl ws L (pc + 3) (r.toList ++ rest)) : z_J X ce sl ws L pc st := by
  obtain ⟨p, l', e', R', s, m, args, below, meth, c, G', A, H0, Q, nn⟩ := X
  obtain ⟨hx, hb, hml, hown, hts, hK, hA, rfl, rfl, rfl, rfl⟩ := C
  obtain ⟨rfl, hlit⟩ := LX
  obtain ⟨v1, v2, v3, v4, v5, v6⟩ := V
  intro H locs ls hP hD hS hl
  subst hst
  have hrec := vk_recv hlit.1 (i := 0) (by decide) hS
  rw [← hS1] at hrec
  have hfr : ∀ a, va_A [] H.size a → A a := fun a h => by
    rcases h with ⟨k, e, h⟩ | h
    · simp at h
    · exact hA a (Nat.le_trans hS.1 h)
  have hrun := va_runV (H := H) (locs := locs) (cells := ce) (slots := sl) (below := below) (meth := meth) (p := p) (e := e') (As := As) (rest := rest) (b := q) (C := ym.cls) (cc := cc) (index := idx) (g := F0 m pc ls (As.reverse ++ .ref q :: rest)) ⟨hx, hb, hml, hown, hts⟩ (M H.size) ⟨z_callB (mc := 0) (ms := 0) hts v1 v2 v3 v4 lk hR hm0.1 hm0.2, hts _ v5, hts _ v6⟩ ⟨z_blindL, hrec, fun U hU hW => ⟨rfl, ⟨by rw [hU], fun k z hz => by simp at hz, z_K.moved hW hK, ⟨fun i j x y hi => by simp at hi, fun k z hz => by simp at hz⟩⟩, hlit.go hS.2.1 hU hW hfr⟩⟩ rfl hA1 hl.1 rfl (lv_room hW) d ⟨hce.1, hce.2⟩
  refine z_go (is := []) hP hD hS hA hrun rfl rfl (fun vv w h => ⟨[], [], by rw [h.2]; rfl, rfl⟩) (fun vv w1 wn H1 locs1 hpo hw' hP hD hS => ?_)
  obtain ⟨rfl, e2⟩ := hpo
  obtain ⟨rfl, rfl⟩ := List.append_eq_nil_iff.mp e2
  rw [List.append_nil] at hP hD
  exact kk H1 locs1 ls hP hD hS hl
theorem z_callSL (C : z_C X l G own cc nL R) (LX : z_LX X q v) {ym : MethodName} {cy : ByteArray} {ny n idx : Nat} {ret : Option FieldType} {rm : Room} {As : List Value} {r : Option Value} (M : z_ML l G q v ym cy ny ret rm As [] 0 0 (fun vv w => vv = r ∧ w = [])) (V : z_S ym cy ny ret n) (lk : Cond.methodLink own idx ym ∈ z_W) (d : decode cc pc = .ok (.invokestatic idx, 3)) (hA1 : As.length = n) (rest : List Value) (hst : st = As.reverse ++ rest) (hW : (rest.map fun v => v.category).sum ≤ 8) (hR : rm.frames + 1 ≤ R.frames ∧ 8 + (ny + 11) + rm.locals ≤ R.locals) (hm0 : rm.cells = 0 ∧ rm.slots = 0) (hce : ce ≤ R.cells ∧ sl ≤ R.slots)
    (kk : z_J X ce sl ws L (pc + 3) (r.toList ++ rest)) : z_J X ce sl ws L pc st := by
  obtain ⟨p, l', e', R', s, m, args, below, meth, c, G', A, H0, Q, nn⟩ := X
  obtain ⟨hx, hb, hml, hown, hts, hK, hA, rfl, rfl, rfl, rfl⟩ := C
  obtain ⟨rfl, hlit⟩ := LX
  obtain ⟨v1, v2, v3, v4, v5⟩ := V
  intro H locs ls hP hD hS hl
  subst hst
  have hfr : ∀ a, va_A [] H.size a → A a := fun a h => by
    rcases h with ⟨k, e, h⟩ | h
    · simp at h
    · exact hA a (Nat.le_trans hS.1 h)
  have hrun := va_runS (H := H) (locs := locs) (cells := ce) (slots := sl) (below := below) (meth := meth) (p := p) (e := e') (As := As) (rest := rest) (cc := cc) (index := idx) (g := F0 m pc ls (As.reverse ++ rest)) ⟨hx, hb, hml, hown, hts⟩ (M H.size) ⟨z_callB (mc := 0) (ms := 0) hts v1 v2 v3 v4 lk hR hm0.1 hm0.2, hts _ v5⟩ ⟨z_blindL, fun U hU hW => ⟨rfl, ⟨by rw [hU], fun k z hz => by simp at hz, z_K.moved hW hK, ⟨fun i j x y hi => by simp at hi, fun k z hz => by simp at hz⟩⟩, hlit.go hS.2.1 hU hW hfr⟩⟩ rfl hA1 hl.1 rfl (lv_room hW) d ⟨hce.1, hce.2⟩
  refine z_go (is := []) hP hD hS hA hrun rfl rfl (fun vv w h => ⟨[], [], by rw [h.2]; rfl, rfl⟩) (fun vv w1 wn H1 locs1 hpo hw' hP hD hS => ?_)
  obtain ⟨rfl, e2⟩ := hpo
  obtain ⟨rfl, rfl⟩ := List.append_eq_nil_iff.mp e2
  rw [List.append_nil] at hP hD
  exact kk H1 locs1 ls hP hD hS hl
end
