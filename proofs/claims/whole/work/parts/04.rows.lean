/-! the judgement: from pc, with these locals, this stack, this world, the method comes to its end -/
abbrev z_X : Type := Program × Launch × Env × Room × State × MethodId × Array Value × List Frame × Method × Code × z_G × (Nat → Prop) × Heap × (State → Prop) × Nat
def z_J : z_X → Nat → Nat → va_W → List (Nat × Value) → Nat → List Value → Prop
  | (p, l, e, R, s, m, args, below, meth, c, G, A, H0, Q, nL), ce, sl, ws, L, pc, st => ∀ (H : Heap) (locs : List Loc) (ls : Array Slot), va_P G.1 vwCl ws H → va_D A ws → va_S A H0 H locs → lv_has ls nL L → W p l e R s m args below meth c H locs ce sl Q (F0 m pc ls st)
def z_C : z_X → Launch → z_G → String → ByteArray → Nat → Room → Prop
  | (p, l, _, R, s, m, args, _, _, c, G, A, H0, _, nL), l', G', own, cc, nL', R' => p.tables.exec = Jvm.exec ∧ c.code = cc ∧ c.maxLocals = nL' ∧ s.vm.findClass own = some m.cls ∧ (∀ w ∈ z_W, w.before args s = true) ∧ z_K G s ∧ (∀ q, H0.size ≤ q → A q) ∧ l = l' ∧ G = G' ∧ nL = nL' ∧ R = R'
def z_Qc (G : z_G) (wc : va_W) (sz : Nat) (post : Option Value → va_W → Prop) : Array Value → State → Outcome → State → Prop := fun _ st oc t => (∃ v w, oc = .returned v ∧ post v w ∧ va_P G.1 vwCl w t.heap ∧ va_D (va_A wc sz) w) ∧ va_F (va_A wc sz) st t
def z_M (l : Launch) (G : z_G) (y : MethodName) (cc : ByteArray) (nL : Nat) (ret : Option FieldType) (rm : Room) (vs : List Value) (wc : va_W) (mc ms : Nat) (post : Option Value → va_W → Prop) : Prop :=
  ∀ sz : Nat, Met l y (Cond.code y cc nL ret :: z_W) rm (va_Pc vs (fun U => U.heap.size = sz ∧ va_P G.1 vwCl wc U.heap ∧ z_K G U ∧ va_D (fun _ => True) wc)) (z_Qc G wc sz post) mc ms (va_A wc sz)
def z_E : z_X → MethodName → Option FieldType → Nat → Nat → (Option Value → va_W → Prop) → Prop
  | (_, _, _, _, s, _, args, below, meth, _, G, A, H0, Q, _), y, ret, mc, ms, post => meth.sig.returnType = ret ∧ meth.locks = false ∧ meth.name = y.name ∧ H0 = s.heap ∧ ∃ wc, A = va_A wc s.heap.size ∧ Q = MQ below (z_Qc G wc s.heap.size post) args s mc ms (va_A wc s.heap.size)
theorem z_M.intro {l : Launch} {G : z_G} {y : MethodName} {cc : ByteArray} {nL : Nat} {ret : Option FieldType} {rm : Room} {vs : List Value} {wc : va_W} {mc ms : Nat} {post : Option Value → va_W → Prop} (hy : plainName y.cls = true) (hlen : (lg_sl vs).length ≤ nL) {L : List (Nat × Value)} (hL : lv_args 0 vs = L)
    (body : ∀ X : z_X, z_C X l G y.cls cc nL rm → z_E X y ret mc ms post → z_J X 0 0 wc L 0 []) : z_M l G y cc nL ret rm vs wc mc ms post := by
  intro sz
  subst hL
  refine Met.ofW (cc := cc) (maxL := nL) (ret := ret) hy rfl ?_
  intro p e s m args below meth c s₁ B hml hv
  obtain ⟨rfl, hsz, hP, hK, hD0⟩ := hv
  subst hsz
  have hts := atoms_spec (ws := Cond.code y cc nL ret :: z_W) B.pre
  have hown : s.vm.findClass y.cls = some m.cls := findClass_of_methodNamed B.named
  have hnm : meth.name = y.name := (name_of_methodNamed B.named B.method).1
  have h := body (p, l, e, rm, s, m, vs.toArray, below, meth, c, G, va_A wc s.heap.size, s.heap, MQ below (z_Qc G wc s.heap.size post) vs.toArray s mc ms (va_A wc s.heap.size), nL)
    ⟨B.exec, B.bytes, hml, hown, fun w hw => hts w (List.mem_cons_of_mem _ hw), hK, fun q hq => Or.inr hq, rfl, rfl, rfl, rfl⟩ ⟨B.returns, B.notSynchronized, hnm, rfl, wc, rfl, rfl⟩
  rw [lg_entry_eq]
  exact h s.heap [] _ hP hD0.self va_S.rf (lv_entry vs hlen)
section
variable {X : z_X} {l : Launch} {G : z_G} {own : String} {cc : ByteArray} {nL : Nat} {R : Room} {ce sl : Nat} {ws ws' : va_W} {L L' : List (Nat × Value)} {pc tgt : Nat} {st : List Value} {a b : Nat} {x y : Int} {u v : Int64}
theorem z_sub (ks : List Nat) (h : lv_pick L ks = L') (kk : z_J X ce sl ws L' pc st) : z_J X ce sl ws L pc st := by
  obtain ⟨p, l', e, R', s, m, args, below, meth, c, G', A, H0, Q, n⟩ := X
  intro H locs ls hP hD hS hl
  exact kk H locs ls hP hD hS (lv_sub hl ks h)
theorem z_iconst (C : z_C X l G own cc nL R) (d : decode cc pc = .ok (.iconst x, 1)) (kk : z_J X ce sl ws L (pc + 1) (z_i x :: st)) : z_J X ce sl ws L pc st := by
  obtain ⟨p, l', e, R', s, m, args, below, meth, c, G', A, H0, Q, n⟩ := X
  obtain ⟨hx, hb, hml, hown, hts, hK, hA, rfl, rfl, rfl, rfl⟩ := C
  intro H locs ls hP hD hS hl
  exact lv_iconst hx hb d rfl (kk H locs ls hP hD hS hl)
theorem z_bipush (C : z_C X l G own cc nL R) (d : decode cc pc = .ok (.bipush x, 2)) (h : (Int8.ofInt x).toInt32 = Int32.ofInt x) (kk : z_J X ce sl ws L (pc + 2) (z_i x :: st)) : z_J X ce sl ws L pc st := by
  obtain ⟨p, l', e, R', s, m, args, below, meth, c, G', A, H0, Q, n⟩ := X
  obtain ⟨hx, hb, hml, hown, hts, hK, hA, rfl, rfl, rfl, rfl⟩ := C
  intro H locs ls hP hD hS hl
  exact lv_bipush hx hb d h (kk H locs ls hP hD hS hl)
theorem z_sipush (C : z_C X l G own cc nL R) (d : decode cc pc = .ok (.sipush x, 3)) (h : (Int16.ofInt x).toInt32 = Int32.ofInt x) (kk : z_J X ce sl ws L (pc + 3) (z_i x :: st)) : z_J X ce sl ws L pc st := by
  obtain ⟨p, l', e, R', s, m, args, below, meth, c, G', A, H0, Q, n⟩ := X
  obtain ⟨hx, hb, hml, hown, hts, hK, hA, rfl, rfl, rfl, rfl⟩ := C
  intro H locs ls hP hD hS hl
  exact lv_sipush hx hb d h (kk H locs ls hP hD hS hl)
theorem z_lconst (C : z_C X l G own cc nL R) {n : Fin 2} (d : decode cc pc = .ok (.lconst n, 1)) (h : Int64.ofNat (n : Nat) = v) (kk : z_J X ce sl ws L (pc + 1) (.long v :: st)) : z_J X ce sl ws L pc st := by
  obtain ⟨p, l', e, R', s, m, args, below, meth, c, G', A, H0, Q, n⟩ := X
  obtain ⟨hx, hb, hml, hown, hts, hK, hA, rfl, rfl, rfl, rfl⟩ := C
  intro H locs ls hP hD hS hl
  exact lv_lconst hx hb d h (kk H locs ls hP hD hS hl)
theorem z_ldc (C : z_C X l G own cc nL R) {idx : Nat} (hc : Cond.constant own idx (Int32.ofInt x) ∈ z_W) (d : decode cc pc = .ok (.ldc idx, 2)) (kk : z_J X ce sl ws L (pc + 2) (z_i x :: st)) : z_J X ce sl ws L pc st := by
  obtain ⟨p, l', e, R', s, m, args, below, meth, c, G', A, H0, Q, n⟩ := X
  obtain ⟨hx, hb, hml, hown, hts, hK, hA, rfl, rfl, rfl, rfl⟩ := C
  intro H locs ls hP hD hS hl
  exact lv_ldc hx hb hown (hts _ hc) d (kk H locs ls hP hD hS hl)
theorem z_ldcw (C : z_C X l G own cc nL R) {idx : Nat} (hc : Cond.constant own idx (Int32.ofInt x) ∈ z_W) (d : decode cc pc = .ok (.ldc_w idx, 3)) (kk : z_J X ce sl ws L (pc + 3) (z_i x :: st)) : z_J X ce sl ws L pc st := by
  obtain ⟨p, l', e, R', s, m, args, below, meth, c, G', A, H0, Q, n⟩ := X
  obtain ⟨hx, hb, hml, hown, hts, hK, hA, rfl, rfl, rfl, rfl⟩ := C
  intro H locs ls hP hD hS hl
  exact lv_ldcw hx hb hown (hts _ hc) d (kk H locs ls hP hD hS hl)
theorem z_ldc2 (C : z_C X l G own cc nL R) {idx : Nat} (hc : Cond.constantLong own idx v ∈ z_W) (d : decode cc pc = .ok (.ldc2_w idx, 3)) (kk : z_J X ce sl ws L (pc + 3) (.long v :: st)) : z_J X ce sl ws L pc st := by
  obtain ⟨p, l', e, R', s, m, args, below, meth, c, G', A, H0, Q, n⟩ := X
  obtain ⟨hx, hb, hml, hown, hts, hK, hA, rfl, rfl, rfl, rfl⟩ := C
  intro H locs ls hP hD hS hl
  exact lv_ldc2 hx hb hown (hts _ hc) d (kk H locs ls hP hD hS hl)
theorem z_iload_n (C : z_C X l G own cc nL R) {k : Fin 4} (d : decode cc pc = .ok (.iload_n k, 1)) (q : Nat) (h : L[q]? = some ((k : Nat), z_i x)) (kk : z_J X ce sl ws L (pc + 1) (z_i x :: st)) : z_J X ce sl ws L pc st := by
  obtain ⟨p, l', e, R', s, m, args, below, meth, c, G', A, H0, Q, n⟩ := X
  obtain ⟨hx, hb, hml, hown, hts, hK, hA, rfl, rfl, rfl, rfl⟩ := C
  intro H locs ls hP hD hS hl
  exact lv_iload_n hx hb d rfl (lv_at hl q h) (kk H locs ls hP hD hS hl)
theorem z_iload (C : z_C X l G own cc nL R) {i : Nat} (d : decode cc pc = .ok (.iload i, 2)) (q : Nat) (h : L[q]? = some (i, z_i x)) (kk : z_J X ce sl ws L (pc + 2) (z_i x :: st)) : z_J X ce sl ws L pc st := by
  obtain ⟨p, l', e, R', s, m, args, below, meth, c, G', A, H0, Q, n⟩ := X
  obtain ⟨hx, hb, hml, hown, hts, hK, hA, rfl, rfl, rfl, rfl⟩ := C
  intro H locs ls hP hD hS hl
  exact lv_iload hx hb d (lv_at hl q h) (kk H locs ls hP hD hS hl)
theorem z_lload_n (C : z_C X l G own cc nL R) {k : Fin 4} (d : decode cc pc = .ok (.lload_n k, 1)) (q : Nat) (h : L[q]? = some ((k : Nat), .long v)) (kk : z_J X ce sl ws L (pc + 1) (.long v :: st)) : z_J X ce sl ws L pc st := by
  obtain ⟨p, l', e, R', s, m, args, below, meth, c, G', A, H0, Q, n⟩ := X
  obtain ⟨hx, hb, hml, hown, hts, hK, hA, rfl, rfl, rfl, rfl⟩ := C
  intro H locs ls hP hD hS hl
  exact lv_lload_n hx hb d rfl (lv_at hl q h) (kk H locs ls hP hD hS hl)
theorem z_lload (C : z_C X l G own cc nL R) {i : Nat} (d : decode cc pc = .ok (.lload i, 2)) (q : Nat) (h : L[q]? = some (i, .long v)) (kk : z_J X ce sl ws L (pc + 2) (.long v :: st)) : z_J X ce sl ws L pc st := by
  obtain ⟨p, l', e, R', s, m, args, below, meth, c, G', A, H0, Q, n⟩ := X
  obtain ⟨hx, hb, hml, hown, hts, hK, hA, rfl, rfl, rfl, rfl⟩ := C
  intro H locs ls hP hD hS hl
  exact lv_lload hx hb d (lv_at hl q h) (kk H locs ls hP hD hS hl)
theorem z_aload_n (C : z_C X l G own cc nL R) {k : Fin 4} (d : decode cc pc = .ok (.aload_n k, 1)) (q : Nat) (h : L[q]? = some ((k : Nat), .ref a)) (kk : z_J X ce sl ws L (pc + 1) (.ref a :: st)) : z_J X ce sl ws L pc st := by
  obtain ⟨p, l', e, R', s, m, args, below, meth, c, G', A, H0, Q, n⟩ := X
  obtain ⟨hx, hb, hml, hown, hts, hK, hA, rfl, rfl, rfl, rfl⟩ := C
  intro H locs ls hP hD hS hl
  exact lv_aload_n hx hb d rfl (lv_at hl q h) (kk H locs ls hP hD hS hl)
theorem z_istore_n (C : z_C X l G own cc nL R) {k : Fin 4} (d : decode cc pc = .ok (.istore_n k, 1)) (hn : (k : Nat) < nL) (h : ((k : Nat), z_i x) :: L.filter (fun q => !(q.1 == (k : Nat)) && !(q.1 + 1 == (k : Nat) && q.2.category == 2)) = L') (kk : z_J X ce sl ws L' (pc + 1) st) : z_J X ce sl ws L pc (z_i x :: st) := by
  obtain ⟨p, l', e, R', s, m, args, below, meth, c, G', A, H0, Q, n⟩ := X
  obtain ⟨hx, hb, hml, hown, hts, hK, hA, rfl, rfl, rfl, rfl⟩ := C
  intro H locs ls hP hD hS hl
  exact lv_istore_n hx hb d rfl hl hn h (fun ls hl => kk H locs ls hP hD hS hl)
theorem z_istore (C : z_C X l G own cc nL R) {i : Nat} (d : decode cc pc = .ok (.istore i, 2)) (hn : i < nL) (h : (i, z_i x) :: L.filter (fun q => !(q.1 == i) && !(q.1 + 1 == i && q.2.category == 2)) = L') (kk : z_J X ce sl ws L' (pc + 2) st) : z_J X ce sl ws L pc (z_i x :: st) := by
  obtain ⟨p, l', e, R', s, m, args, below, meth, c, G', A, H0, Q, n⟩ := X
  obtain ⟨hx, hb, hml, hown, hts, hK, hA, rfl, rfl, rfl, rfl⟩ := C
  intro H locs ls hP hD hS hl
  exact lv_istore hx hb d hl hn h (fun ls hl => kk H locs ls hP hD hS hl)
theorem z_astore_n (C : z_C X l G own cc nL R) {k : Fin 4} (d : decode cc pc = .ok (.astore_n k, 1)) (hn : (k : Nat) < nL) (h : ((k : Nat), Value.ref a) :: L.filter (fun q => !(q.1 == (k : Nat)) && !(q.1 + 1 == (k : Nat) && q.2.category == 2)) = L') (kk : z_J X ce sl ws L' (pc + 1) st) : z_J X ce sl ws L pc (.ref a :: st) := by
  obtain ⟨p, l', e, R', s, m, args, below, meth, c, G', A, H0, Q, n⟩ := X
  obtain ⟨hx, hb, hml, hown, hts, hK, hA, rfl, rfl, rfl, rfl⟩ := C
  intro H locs ls hP hD hS hl
  exact lv_astore_n hx hb d rfl hl hn h (fun ls hl => kk H locs ls hP hD hS hl)
theorem z_lstore_n (C : z_C X l G own cc nL R) {k : Fin 4} (d : decode cc pc = .ok (.lstore_n k, 1)) (hn : (k : Nat) + 1 < nL) (h : ((k : Nat), Value.long v) :: L.filter (fun q => !(q.1 == (k : Nat)) && (!(q.1 == (k : Nat) + 1) && !(q.1 + 1 == (k : Nat) && q.2.category == 2))) = L') (kk : z_J X ce sl ws L' (pc + 1) st) : z_J X ce sl ws L pc (.long v :: st) := by
  obtain ⟨p, l', e, R', s, m, args, below, meth, c, G', A, H0, Q, n⟩ := X
  obtain ⟨hx, hb, hml, hown, hts, hK, hA, rfl, rfl, rfl, rfl⟩ := C
  intro H locs ls hP hD hS hl
  exact lv_lstore_n hx hb d rfl hl hn h (fun ls hl => kk H locs ls hP hD hS hl)
theorem z_lstore (C : z_C X l G own cc nL R) {i : Nat} (d : decode cc pc = .ok (.lstore i, 2)) (hn : i + 1 < nL) (h : (i, Value.long v) :: L.filter (fun q => !(q.1 == i) && (!(q.1 == i + 1) && !(q.1 + 1 == i && q.2.category == 2))) = L') (kk : z_J X ce sl ws L' (pc + 2) st) : z_J X ce sl ws L pc (.long v :: st) := by
  obtain ⟨p, l', e, R', s, m, args, below, meth, c, G', A, H0, Q, n⟩ := X
  obtain ⟨hx, hb, hml, hown, hts, hK, hA, rfl, rfl, rfl, rfl⟩ := C
  intro H locs ls hP hD hS hl
  exact lv_lstore hx hb d hl hn h (fun ls hl => kk H locs ls hP hD hS hl)
theorem z_iinc (C : z_C X l G own cc nL R) {i : Nat} {n : Int} (d : decode cc pc = .ok (.iinc i n, 3)) (q : Nat) (hq : L[q]? = some (i, z_i x)) (hn : i < nL) (h : (i, z_i (x + n)) :: L.filter (fun q => !(q.1 == i) && !(q.1 + 1 == i && q.2.category == 2)) = L') (kk : z_J X ce sl ws L' (pc + 3) st) : z_J X ce sl ws L pc st := by
  obtain ⟨p, l', e, R', s, m, args, below, meth, c, G', A, H0, Q, n'⟩ := X
  obtain ⟨hx, hb, hml, hown, hts, hK, hA, rfl, rfl, rfl, rfl⟩ := C
  intro H locs ls hP hD hS hl
  exact lv_iinc hx hb d hl hq (Int32.ofInt_add x n).symm hn h (fun ls hl => kk H locs ls hP hD hS hl)
theorem z_iadd (C : z_C X l G own cc nL R) (d : decode cc pc = .ok (.iadd, 1)) (kk : z_J X ce sl ws L (pc + 1) (z_i (x + y) :: st)) : z_J X ce sl ws L pc (z_i y :: z_i x :: st) := by
  obtain ⟨p, l', e, R', s, m, args, below, meth, c, G', A, H0, Q, n⟩ := X
  obtain ⟨hx, hb, hml, hown, hts, hK, hA, rfl, rfl, rfl, rfl⟩ := C
  intro H locs ls hP hD hS hl
  refine lv_iadd hx hb d ?_
  rw [← Int32.ofInt_add]
  exact kk H locs ls hP hD hS hl
theorem z_isub (C : z_C X l G own cc nL R) (d : decode cc pc = .ok (.isub, 1)) (kk : z_J X ce sl ws L (pc + 1) (z_i (x - y) :: st)) : z_J X ce sl ws L pc (z_i y :: z_i x :: st) := by
  obtain ⟨p, l', e, R', s, m, args, below, meth, c, G', A, H0, Q, n⟩ := X
  obtain ⟨hx, hb, hml, hown, hts, hK, hA, rfl, rfl, rfl, rfl⟩ := C
  intro H locs ls hP hD hS hl
  refine lv_isub hx hb d ?_
  rw [← Int32.ofInt_sub]
  exact kk H locs ls hP hD hS hl
theorem z_imul (C : z_C X l G own cc nL R) (d : decode cc pc = .ok (.imul, 1)) (kk : z_J X ce sl ws L (pc + 1) (z_i (x * y) :: st)) : z_J X ce sl ws L pc (z_i y :: z_i x :: st) := by
  obtain ⟨p, l', e, R', s, m, args, below, meth, c, G', A, H0, Q, n⟩ := X
  obtain ⟨hx, hb, hml, hown, hts, hK, hA, rfl, rfl, rfl, rfl⟩ := C
  intro H locs ls hP hD hS hl
  refine lv_imul hx hb d ?_
  rw [← Int32.ofInt_mul]
  exact kk H locs ls hP hD hS hl
theorem z_ofdiv (hx : z_n x) (hy : z_n y) : Int32.ofInt x / Int32.ofInt y = Int32.ofInt (x.tdiv y) := (Int32.ofInt_tdiv (by rw [Int32.toInt_minValue]; omega) (by rw [Int32.toInt_maxValue]; omega) (by rw [Int32.toInt_minValue]; omega) (by rw [Int32.toInt_maxValue]; omega)).symm
theorem z_idiv (C : z_C X l G own cc nL R) (hx1 : z_n x) (hy1 : z_n y) (hy : y ≠ 0) (d : decode cc pc = .ok (.idiv, 1)) (kk : z_J X ce sl ws L (pc + 1) (z_i (x.tdiv y) :: st)) : z_J X ce sl ws L pc (z_i y :: z_i x :: st) := by
  obtain ⟨p, l', e, R', s, m, args, below, meth, c, G', A, H0, Q, n⟩ := X
  obtain ⟨hx, hb, hml, hown, hts, hK, hA, rfl, rfl, rfl, rfl⟩ := C
  intro H locs ls hP hD hS hl
  refine lv_idiv hx hb d (fun h => hy ((z_eqi hy1 z_n0).mp h)) ?_
  rw [z_ofdiv hx1 hy1]
  exact kk H locs ls hP hD hS hl
theorem z_irem (C : z_C X l G own cc nL R) (hx1 : z_n x) (hy1 : z_n y) (hy : y ≠ 0) (d : decode cc pc = .ok (.irem, 1)) (kk : z_J X ce sl ws L (pc + 1) (z_i (x.tmod y) :: st)) : z_J X ce sl ws L pc (z_i y :: z_i x :: st) := by
  obtain ⟨p, l', e, R', s, m, args, below, meth, c, G', A, H0, Q, n⟩ := X
  obtain ⟨hx, hb, hml, hown, hts, hK, hA, rfl, rfl, rfl, rfl⟩ := C
  intro H locs ls hP hD hS hl
  refine lv_irem hx hb d (fun h => hy ((z_eqi hy1 z_n0).mp h)) ?_
  rw [z_ofdiv hx1 hy1, ← Int32.ofInt_mul, ← Int32.ofInt_sub, show x - x.tdiv y * y = x.tmod y by rw [Int.tmod_def, Int.mul_comm]]
  exact kk H locs ls hP hD hS hl
theorem z_iand (C : z_C X l G own cc nL R) (d : decode cc pc = .ok (.iand, 1)) (kk : z_J X ce sl ws L (pc + 1) (z_i (z_and x y) :: st)) : z_J X ce sl ws L pc (z_i y :: z_i x :: st) := by
  obtain ⟨p, l', e, R', s, m, args, below, meth, c, G', A, H0, Q, n⟩ := X
  obtain ⟨hx, hb, hml, hown, hts, hK, hA, rfl, rfl, rfl, rfl⟩ := C
  intro H locs ls hP hD hS hl
  refine lv_iand hx hb d ?_
  rw [← z_iof]
  exact kk H locs ls hP hD hS hl
theorem z_ior (C : z_C X l G own cc nL R) (d : decode cc pc = .ok (.ior, 1)) (kk : z_J X ce sl ws L (pc + 1) (z_i (z_or x y) :: st)) : z_J X ce sl ws L pc (z_i y :: z_i x :: st) := by
  obtain ⟨p, l', e, R', s, m, args, below, meth, c, G', A, H0, Q, n⟩ := X
  obtain ⟨hx, hb, hml, hown, hts, hK, hA, rfl, rfl, rfl, rfl⟩ := C
  intro H locs ls hP hD hS hl
  refine lv_ior hx hb d ?_
  rw [← z_iof]
  exact kk H locs ls hP hD hS hl
theorem z_ishl (C : z_C X l G own cc nL R) (d : decode cc pc = .ok (.ishl, 1)) (kk : z_J X ce sl ws L (pc + 1) (z_i (z_shl x y) :: st)) : z_J X ce sl ws L pc (z_i y :: z_i x :: st) := by
  obtain ⟨p, l', e, R', s, m, args, below, meth, c, G', A, H0, Q, n⟩ := X
  obtain ⟨hx, hb, hml, hown, hts, hK, hA, rfl, rfl, rfl, rfl⟩ := C
  intro H locs ls hP hD hS hl
  refine lv_ishl hx hb d ?_
  rw [← z_iof]
  exact kk H locs ls hP hD hS hl
theorem z_ishr (C : z_C X l G own cc nL R) (d : decode cc pc = .ok (.ishr, 1)) (kk : z_J X ce sl ws L (pc + 1) (z_i (z_shr x y) :: st)) : z_J X ce sl ws L pc (z_i y :: z_i x :: st) := by
  obtain ⟨p, l', e, R', s, m, args, below, meth, c, G', A, H0, Q, n⟩ := X
  obtain ⟨hx, hb, hml, hown, hts, hK, hA, rfl, rfl, rfl, rfl⟩ := C
  intro H locs ls hP hD hS hl
  refine lv_ishr hx hb d ?_
  rw [← z_iof]
  exact kk H locs ls hP hD hS hl
theorem z_iushr (C : z_C X l G own cc nL R) (d : decode cc pc = .ok (.iushr, 1)) (kk : z_J X ce sl ws L (pc + 1) (z_i (z_ushr x y) :: st)) : z_J X ce sl ws L pc (z_i y :: z_i x :: st) := by
  obtain ⟨p, l', e, R', s, m, args, below, meth, c, G', A, H0, Q, n⟩ := X
  obtain ⟨hx, hb, hml, hown, hts, hK, hA, rfl, rfl, rfl, rfl⟩ := C
  intro H locs ls hP hD hS hl
  refine lv_iushr hx hb d rfl ?_
  rw [← z_iof]
  exact kk H locs ls hP hD hS hl
theorem z_i2cR (C : z_C X l G own cc nL R) (d : decode cc pc = .ok (.i2c, 1)) (kk : z_J X ce sl ws L (pc + 1) (z_i (z_i2c x) :: st)) : z_J X ce sl ws L pc (z_i x :: st) := by
  obtain ⟨p, l', e, R', s, m, args, below, meth, c, G', A, H0, Q, n⟩ := X
  obtain ⟨hx, hb, hml, hown, hts, hK, hA, rfl, rfl, rfl, rfl⟩ := C
  intro H locs ls hP hD hS hl
  refine lv_i2c hx hb d rfl ?_
  rw [← z_iof]
  exact kk H locs ls hP hD hS hl
theorem z_i2lR (C : z_C X l G own cc nL R) (d : decode cc pc = .ok (.i2l, 1)) (kk : z_J X ce sl ws L (pc + 1) (.long (z_i2l x) :: st)) : z_J X ce sl ws L pc (z_i x :: st) := by
  obtain ⟨p, l', e, R', s, m, args, below, meth, c, G', A, H0, Q, n⟩ := X
  obtain ⟨hx, hb, hml, hown, hts, hK, hA, rfl, rfl, rfl, rfl⟩ := C
  intro H locs ls hP hD hS hl
  exact lv_i2l hx hb d rfl (kk H locs ls hP hD hS hl)
theorem z_l2iR (C : z_C X l G own cc nL R) (d : decode cc pc = .ok (.l2i, 1)) (kk : z_J X ce sl ws L (pc + 1) (z_i (z_l2i v) :: st)) : z_J X ce sl ws L pc (.long v :: st) := by
  obtain ⟨p, l', e, R', s, m, args, below, meth, c, G', A, H0, Q, n⟩ := X
  obtain ⟨hx, hb, hml, hown, hts, hK, hA, rfl, rfl, rfl, rfl⟩ := C
  intro H locs ls hP hD hS hl
  refine lv_l2i hx hb d rfl ?_
  rw [← z_iof]
  exact kk H locs ls hP hD hS hl
theorem z_lcmpR (C : z_C X l G own cc nL R) (d : decode cc pc = .ok (.lcmp, 1)) (kk : z_J X ce sl ws L (pc + 1) (z_i (z_lcmp u v) :: st)) : z_J X ce sl ws L pc (.long v :: .long u :: st) := by
  obtain ⟨p, l', e, R', s, m, args, below, meth, c, G', A, H0, Q, n⟩ := X
  obtain ⟨hx, hb, hml, hown, hts, hK, hA, rfl, rfl, rfl, rfl⟩ := C
  intro H locs ls hP hD hS hl
  refine W.lcmp hx hb d ?_
  rw [← z_iof]
  exact kk H locs ls hP hD hS hl
theorem z_ladd (C : z_C X l G own cc nL R) (d : decode cc pc = .ok (.ladd, 1)) (kk : z_J X ce sl ws L (pc + 1) (.long (u + v) :: st)) : z_J X ce sl ws L pc (.long v :: .long u :: st) := by
  obtain ⟨p, l', e, R', s, m, args, below, meth, c, G', A, H0, Q, n⟩ := X
  obtain ⟨hx, hb, hml, hown, hts, hK, hA, rfl, rfl, rfl, rfl⟩ := C
  intro H locs ls hP hD hS hl
  exact lv_ladd hx hb d (kk H locs ls hP hD hS hl)
theorem z_lmul (C : z_C X l G own cc nL R) (d : decode cc pc = .ok (.lmul, 1)) (kk : z_J X ce sl ws L (pc + 1) (.long (u * v) :: st)) : z_J X ce sl ws L pc (.long v :: .long u :: st) := by
  obtain ⟨p, l', e, R', s, m, args, below, meth, c, G', A, H0, Q, n⟩ := X
  obtain ⟨hx, hb, hml, hown, hts, hK, hA, rfl, rfl, rfl, rfl⟩ := C
  intro H locs ls hP hD hS hl
  exact lv_lmul hx hb d (kk H locs ls hP hD hS hl)
theorem z_land (C : z_C X l G own cc nL R) (d : decode cc pc = .ok (.land, 1)) (kk : z_J X ce sl ws L (pc + 1) (.long (u &&& v) :: st)) : z_J X ce sl ws L pc (.long v :: .long u :: st) := by
  obtain ⟨p, l', e, R', s, m, args, below, meth, c, G', A, H0, Q, n⟩ := X
  obtain ⟨hx, hb, hml, hown, hts, hK, hA, rfl, rfl, rfl, rfl⟩ := C
  intro H locs ls hP hD hS hl
  exact lv_land hx hb d (kk H locs ls hP hD hS hl)
theorem z_lor (C : z_C X l G own cc nL R) (d : decode cc pc = .ok (.lor, 1)) (kk : z_J X ce sl ws L (pc + 1) (.long (u ||| v) :: st)) : z_J X ce sl ws L pc (.long v :: .long u :: st) := by
  obtain ⟨p, l', e, R', s, m, args, below, meth, c, G', A, H0, Q, n⟩ := X
  obtain ⟨hx, hb, hml, hown, hts, hK, hA, rfl, rfl, rfl, rfl⟩ := C
  intro H locs ls hP hD hS hl
  exact lv_lor hx hb d (kk H locs ls hP hD hS hl)
theorem z_lxor (C : z_C X l G own cc nL R) (d : decode cc pc = .ok (.lxor, 1)) (kk : z_J X ce sl ws L (pc + 1) (.long (u ^^^ v) :: st)) : z_J X ce sl ws L pc (.long v :: .long u :: st) := by
  obtain ⟨p, l', e, R', s, m, args, below, meth, c, G', A, H0, Q, n⟩ := X
  obtain ⟨hx, hb, hml, hown, hts, hK, hA, rfl, rfl, rfl, rfl⟩ := C
  intro H locs ls hP hD hS hl
  exact lv_lxor hx hb d (kk H locs ls hP hD hS hl)
theorem z_ldivR (C : z_C X l G own cc nL R) (hy : v ≠ 0) (d : decode cc pc = .ok (.ldiv, 1)) (kk : z_J X ce sl ws L (pc + 1) (.long (u / v) :: st)) : z_J X ce sl ws L pc (.long v :: .long u :: st) := by
  obtain ⟨p, l', e, R', s, m, args, below, meth, c, G', A, H0, Q, n⟩ := X
  obtain ⟨hx, hb, hml, hown, hts, hK, hA, rfl, rfl, rfl, rfl⟩ := C
  intro H locs ls hP hD hS hl
  exact lv_ldiv hx hb d hy (kk H locs ls hP hD hS hl)
theorem z_lremR (C : z_C X l G own cc nL R) (hy : v ≠ 0) (d : decode cc pc = .ok (.lrem, 1)) (kk : z_J X ce sl ws L (pc + 1) (.long (z_lrem u v) :: st)) : z_J X ce sl ws L pc (.long v :: .long u :: st) := by
  obtain ⟨p, l', e, R', s, m, args, below, meth, c, G', A, H0, Q, n⟩ := X
  obtain ⟨hx, hb, hml, hown, hts, hK, hA, rfl, rfl, rfl, rfl⟩ := C
  intro H locs ls hP hD hS hl
  exact lv_lrem hx hb d hy (kk H locs ls hP hD hS hl)
theorem z_lshlR (C : z_C X l G own cc nL R) (d : decode cc pc = .ok (.lshl, 1)) (kk : z_J X ce sl ws L (pc + 1) (.long (z_lshl u y) :: st)) : z_J X ce sl ws L pc (z_i y :: .long u :: st) := by
  obtain ⟨p, l', e, R', s, m, args, below, meth, c, G', A, H0, Q, n⟩ := X
  obtain ⟨hx, hb, hml, hown, hts, hK, hA, rfl, rfl, rfl, rfl⟩ := C
  intro H locs ls hP hD hS hl
  exact lv_lshl hx hb d rfl (kk H locs ls hP hD hS hl)
theorem z_lshrR (C : z_C X l G own cc nL R) (d : decode cc pc = .ok (.lshr, 1)) (kk : z_J X ce sl ws L (pc + 1) (.long (z_lshr u y) :: st)) : z_J X ce sl ws L pc (z_i y :: .long u :: st) := by
  obtain ⟨p, l', e, R', s, m, args, below, meth, c, G', A, H0, Q, n⟩ := X
  obtain ⟨hx, hb, hml, hown, hts, hK, hA, rfl, rfl, rfl, rfl⟩ := C
  intro H locs ls hP hD hS hl
  exact lv_lshr hx hb d rfl (kk H locs ls hP hD hS hl)
theorem z_dup (C : z_C X l G own cc nL R) {va : Value} (hc : va.category = 1) (d : decode cc pc = .ok (.dup, 1)) (kk : z_J X ce sl ws L (pc + 1) (va :: va :: st)) : z_J X ce sl ws L pc (va :: st) := by
  obtain ⟨p, l', e, R', s, m, args, below, meth, c, G', A, H0, Q, n⟩ := X
  obtain ⟨hx, hb, hml, hown, hts, hK, hA, rfl, rfl, rfl, rfl⟩ := C
  intro H locs ls hP hD hS hl
  exact lv_dup hx hb d hc (kk H locs ls hP hD hS hl)
theorem z_dup2 (C : z_C X l G own cc nL R) {va vb : Value} (hc : va.category = 1) (hc2 : vb.category = 1) (d : decode cc pc = .ok (.dup2, 1)) (kk : z_J X ce sl ws L (pc + 1) (va :: vb :: va :: vb :: st)) : z_J X ce sl ws L pc (va :: vb :: st) := by
  obtain ⟨p, l', e, R', s, m, args, below, meth, c, G', A, H0, Q, n⟩ := X
  obtain ⟨hx, hb, hml, hown, hts, hK, hA, rfl, rfl, rfl, rfl⟩ := C
  intro H locs ls hP hD hS hl
  exact lv_dup2_11 hx hb d hc hc2 (kk H locs ls hP hD hS hl)
theorem z_pop (C : z_C X l G own cc nL R) {va : Value} (hc : va.category = 1) (d : decode cc pc = .ok (.pop, 1)) (kk : z_J X ce sl ws L (pc + 1) st) : z_J X ce sl ws L pc (va :: st) := by
  obtain ⟨p, l', e, R', s, m, args, below, meth, c, G', A, H0, Q, n⟩ := X
  obtain ⟨hx, hb, hml, hown, hts, hK, hA, rfl, rfl, rfl, rfl⟩ := C
  intro H locs ls hP hD hS hl
  exact lv_pop hx hb d hc (kk H locs ls hP hD hS hl)
theorem z_goto (C : z_C X l G own cc nL R) {off : Int} (d : decode cc pc = .ok (.goto off, 3)) (ht : (pc : Int) + off = (tgt : Int)) (kk : z_J X ce sl ws L tgt st) : z_J X ce sl ws L pc st := by
  obtain ⟨p, l', e, R', s, m, args, below, meth, c, G', A, H0, Q, n⟩ := X
  obtain ⟨hx, hb, hml, hown, hts, hK, hA, rfl, rfl, rfl, rfl⟩ := C
  intro H locs ls hP hD hS hl
  exact lv_goto hx hb d ht (kk H locs ls hP hD hS hl)
theorem z_icmp_eq (C : z_C X l G own cc nL R) (hx1 : z_n x) (hy1 : z_n y) {off : Int} (d : decode cc pc = .ok (.if_icmp .eq off, 3)) (ht : (pc : Int) + off = (tgt : Int)) (kt : x = y → z_J X ce sl ws L tgt st) (kf : ¬ (x = y) → z_J X ce sl ws L (pc + 3) st) : z_J X ce sl ws L pc (z_i y :: z_i x :: st) := by
  obtain ⟨p, l', e, R', s, m, args, below, meth, c, G', A, H0, Q, n⟩ := X
  obtain ⟨hx, hb, hml, hown, hts, hK, hA, rfl, rfl, rfl, rfl⟩ := C
  intro H locs ls hP hD hS hl
  have e1 := z_eqi hx1 hy1
  have e2 := z_lti hx1 hy1
  have e3 := z_lti hy1 hx1
  have e4 := z_lei hx1 hy1
  have e5 := z_lei hy1 hx1
  refine lv_icmp_eq hx hb d ht (fun h => kt (by first | exact e1.mp h | exact fun q => h (e1.mpr q) | exact e2.mp h | exact e3.mp h | exact e4.mp h | exact e5.mp h | (simp only [e1, e2, e3, e4, e5, ne_eq, ge_iff_le, gt_iff_lt, Int.not_lt, Int.not_le] at h ⊢; omega)) H locs ls hP hD hS hl) (fun h => kf (by first | exact fun q => h (e1.mpr q) | (exact fun q => h (fun z => q (e1.mp z))) | exact fun q => h (e2.mpr q) | exact fun q => h (e3.mpr q) | exact fun q => h (e4.mpr q) | exact fun q => h (e5.mpr q) | (simp only [e1, e2, e3, e4, e5, ne_eq, ge_iff_le, gt_iff_lt, Int.not_lt, Int.not_le] at h ⊢; omega)) H locs ls hP hD hS hl)
theorem z_if_eq (C : z_C X l G own cc nL R) (hx1 : z_n x) {off : Int} (d : decode cc pc = .ok (.ifCond .eq off, 3)) (ht : (pc : Int) + off = (tgt : Int)) (kt : x = 0 → z_J X ce sl ws L tgt st) (kf : ¬ (x = 0) → z_J X ce sl ws L (pc + 3) st) : z_J X ce sl ws L pc (z_i x :: st) := by
  obtain ⟨p, l', e, R', s, m, args, below, meth, c, G', A, H0, Q, n⟩ := X
  obtain ⟨hx, hb, hml, hown, hts, hK, hA, rfl, rfl, rfl, rfl⟩ := C
  intro H locs ls hP hD hS hl
  have e1 : Int32.ofInt x = 0 ↔ x = 0 := z_eqi hx1 z_n0
  have e2 : Int32.ofInt x < 0 ↔ x < 0 := z_lti hx1 z_n0
  have e3 : 0 < Int32.ofInt x ↔ 0 < x := z_lti z_n0 hx1
  have e4 : Int32.ofInt x ≤ 0 ↔ x ≤ 0 := z_lei hx1 z_n0
  have e5 : 0 ≤ Int32.ofInt x ↔ 0 ≤ x := z_lei z_n0 hx1
  refine lv_if_eq hx hb d ht (fun h => kt (by first | exact e1.mp h | exact fun q => h (e1.mpr q) | exact e2.mp h | exact e3.mp h | exact e4.mp h | exact e5.mp h | (simp only [e1, e2, e3, e4, e5, ne_eq, ge_iff_le, gt_iff_lt, Int.not_lt, Int.not_le] at h ⊢; omega)) H locs ls hP hD hS hl) (fun h => kf (by first | exact fun q => h (e1.mpr q) | (exact fun q => h (fun z => q (e1.mp z))) | exact fun q => h (e2.mpr q) | exact fun q => h (e3.mpr q) | exact fun q => h (e4.mpr q) | exact fun q => h (e5.mpr q) | (simp only [e1, e2, e3, e4, e5, ne_eq, ge_iff_le, gt_iff_lt, Int.not_lt, Int.not_le] at h ⊢; omega)) H locs ls hP hD hS hl)
theorem z_icmp_ne (C : z_C X l G own cc nL R) (hx1 : z_n x) (hy1 : z_n y) {off : Int} (d : decode cc pc = .ok (.if_icmp .ne off, 3)) (ht : (pc : Int) + off = (tgt : Int)) (kt : x ≠ y → z_J X ce sl ws L tgt st) (kf : ¬ (x ≠ y) → z_J X ce sl ws L (pc + 3) st) : z_J X ce sl ws L pc (z_i y :: z_i x :: st) := by
  obtain ⟨p, l', e, R', s, m, args, below, meth, c, G', A, H0, Q, n⟩ := X
  obtain ⟨hx, hb, hml, hown, hts, hK, hA, rfl, rfl, rfl, rfl⟩ := C
  intro H locs ls hP hD hS hl
  have e1 := z_eqi hx1 hy1
  have e2 := z_lti hx1 hy1
  have e3 := z_lti hy1 hx1
  have e4 := z_lei hx1 hy1
  have e5 := z_lei hy1 hx1
  refine lv_icmp_ne hx hb d ht (fun h => kt (by first | exact e1.mp h | exact fun q => h (e1.mpr q) | exact e2.mp h | exact e3.mp h | exact e4.mp h | exact e5.mp h | (simp only [e1, e2, e3, e4, e5, ne_eq, ge_iff_le, gt_iff_lt, Int.not_lt, Int.not_le] at h ⊢; omega)) H locs ls hP hD hS hl) (fun h => kf (by first | exact fun q => h (e1.mpr q) | (exact fun q => h (fun z => q (e1.mp z))) | exact fun q => h (e2.mpr q) | exact fun q => h (e3.mpr q) | exact fun q => h (e4.mpr q) | exact fun q => h (e5.mpr q) | (simp only [e1, e2, e3, e4, e5, ne_eq, ge_iff_le, gt_iff_lt, Int.not_lt, Int.not_le] at h ⊢; omega)) H locs ls hP hD hS hl)
theorem z_if_ne (C : z_C X l G own cc nL R) (hx1 : z_n x) {off : Int} (d : decode cc pc = .ok (.ifCond .ne off, 3)) (ht : (pc : Int) + off = (tgt : Int)) (kt : x ≠ 0 → z_J X ce sl ws L tgt st) (kf : ¬ (x ≠ 0) → z_J X ce sl ws L (pc + 3) st) : z_J X ce sl ws L pc (z_i x :: st) := by
  obtain ⟨p, l', e, R', s, m, args, below, meth, c, G', A, H0, Q, n⟩ := X
  obtain ⟨hx, hb, hml, hown, hts, hK, hA, rfl, rfl, rfl, rfl⟩ := C
  intro H locs ls hP hD hS hl
  have e1 : Int32.ofInt x = 0 ↔ x = 0 := z_eqi hx1 z_n0
  have e2 : Int32.ofInt x < 0 ↔ x < 0 := z_lti hx1 z_n0
  have e3 : 0 < Int32.ofInt x ↔ 0 < x := z_lti z_n0 hx1
  have e4 : Int32.ofInt x ≤ 0 ↔ x ≤ 0 := z_lei hx1 z_n0
  have e5 : 0 ≤ Int32.ofInt x ↔ 0 ≤ x := z_lei z_n0 hx1
  refine lv_if_ne hx hb d ht (fun h => kt (by first | exact e1.mp h | exact fun q => h (e1.mpr q) | exact e2.mp h | exact e3.mp h | exact e4.mp h | exact e5.mp h | (simp only [e1, e2, e3, e4, e5, ne_eq, ge_iff_le, gt_iff_lt, Int.not_lt, Int.not_le] at h ⊢; omega)) H locs ls hP hD hS hl) (fun h => kf (by first | exact fun q => h (e1.mpr q) | (exact fun q => h (fun z => q (e1.mp z))) | exact fun q => h (e2.mpr q) | exact fun q => h (e3.mpr q) | exact fun q => h (e4.mpr q) | exact fun q => h (e5.mpr q) | (simp only [e1, e2, e3, e4, e5, ne_eq, ge_iff_le, gt_iff_lt, Int.not_lt, Int.not_le] at h ⊢; omega)) H locs ls hP hD hS hl)
theorem z_icmp_lt (C : z_C X l G own cc nL R) (hx1 : z_n x) (hy1 : z_n y) {off : Int} (d : decode cc pc = .ok (.if_icmp .lt off, 3)) (ht : (pc : Int) + off = (tgt : Int)) (kt : x < y → z_J X ce sl ws L tgt st) (kf : ¬ (x < y) → z_J X ce sl ws L (pc + 3) st) : z_J X ce sl ws L pc (z_i y :: z_i x :: st) := by
  obtain ⟨p, l', e, R', s, m, args, below, meth, c, G', A, H0, Q, n⟩ := X
  obtain ⟨hx, hb, hml, hown, hts, hK, hA, rfl, rfl, rfl, rfl⟩ := C
  intro H locs ls hP hD hS hl
  have e1 := z_eqi hx1 hy1
  have e2 := z_lti hx1 hy1
  have e3 := z_lti hy1 hx1
  have e4 := z_lei hx1 hy1
  have e5 := z_lei hy1 hx1
  refine lv_icmp_lt hx hb d ht (fun h => kt (by first | exact e1.mp h | exact fun q => h (e1.mpr q) | exact e2.mp h | exact e3.mp h | exact e4.mp h | exact e5.mp h | (simp only [e1, e2, e3, e4, e5, ne_eq, ge_iff_le, gt_iff_lt, Int.not_lt, Int.not_le] at h ⊢; omega)) H locs ls hP hD hS hl) (fun h => kf (by first | exact fun q => h (e1.mpr q) | (exact fun q => h (fun z => q (e1.mp z))) | exact fun q => h (e2.mpr q) | exact fun q => h (e3.mpr q) | exact fun q => h (e4.mpr q) | exact fun q => h (e5.mpr q) | (simp only [e1, e2, e3, e4, e5, ne_eq, ge_iff_le, gt_iff_lt, Int.not_lt, Int.not_le] at h ⊢; omega)) H locs ls hP hD hS hl)
theorem z_if_lt (C : z_C X l G own cc nL R) (hx1 : z_n x) {off : Int} (d : decode cc pc = .ok (.ifCond .lt off, 3)) (ht : (pc : Int) + off = (tgt : Int)) (kt : x < 0 → z_J X ce sl ws L tgt st) (kf : ¬ (x < 0) → z_J X ce sl ws L (pc + 3) st) : z_J X ce sl ws L pc (z_i x :: st) := by
  obtain ⟨p, l', e, R', s, m, args, below, meth, c, G', A, H0, Q, n⟩ := X
  obtain ⟨hx, hb, hml, hown, hts, hK, hA, rfl, rfl, rfl, rfl⟩ := C
  intro H locs ls hP hD hS hl
  have e1 : Int32.ofInt x = 0 ↔ x = 0 := z_eqi hx1 z_n0
  have e2 : Int32.ofInt x < 0 ↔ x < 0 := z_lti hx1 z_n0
  have e3 : 0 < Int32.ofInt x ↔ 0 < x := z_lti z_n0 hx1
  have e4 : Int32.ofInt x ≤ 0 ↔ x ≤ 0 := z_lei hx1 z_n0
  have e5 : 0 ≤ Int32.ofInt x ↔ 0 ≤ x := z_lei z_n0 hx1
  refine lv_if_lt hx hb d ht (fun h => kt (by first | exact e1.mp h | exact fun q => h (e1.mpr q) | exact e2.mp h | exact e3.mp h | exact e4.mp h | exact e5.mp h | (simp only [e1, e2, e3, e4, e5, ne_eq, ge_iff_le, gt_iff_lt, Int.not_lt, Int.not_le] at h ⊢; omega)) H locs ls hP hD hS hl) (fun h => kf (by first | exact fun q => h (e1.mpr q) | (exact fun q => h (fun z => q (e1.mp z))) | exact fun q => h (e2.mpr q) | exact fun q => h (e3.mpr q) | exact fun q => h (e4.mpr q) | exact fun q => h (e5.mpr q) | (simp only [e1, e2, e3, e4, e5, ne_eq, ge_iff_le, gt_iff_lt, Int.not_lt, Int.not_le] at h ⊢; omega)) H locs ls hP hD hS hl)
theorem z_icmp_ge (C : z_C X l G own cc nL R) (hx1 : z_n x) (hy1 : z_n y) {off : Int} (d : decode cc pc = .ok (.if_icmp .ge off, 3)) (ht : (pc : Int) + off = (tgt : Int)) (kt : y ≤ x → z_J X ce sl ws L tgt st) (kf : ¬ (y ≤ x) → z_J X ce sl ws L (pc + 3) st) : z_J X ce sl ws L pc (z_i y :: z_i x :: st) := by
  obtain ⟨p, l', e, R', s, m, args, below, meth, c, G', A, H0, Q, n⟩ := X
  obtain ⟨hx, hb, hml, hown, hts, hK, hA, rfl, rfl, rfl, rfl⟩ := C
  intro H locs ls hP hD hS hl
  have e1 := z_eqi hx1 hy1
  have e2 := z_lti hx1 hy1
  have e3 := z_lti hy1 hx1
  have e4 := z_lei hx1 hy1
  have e5 := z_lei hy1 hx1
  refine lv_icmp_ge hx hb d ht (fun h => kt (by first | exact e1.mp h | exact fun q => h (e1.mpr q) | exact e2.mp h | exact e3.mp h | exact e4.mp h | exact e5.mp h | (simp only [e1, e2, e3, e4, e5, ne_eq, ge_iff_le, gt_iff_lt, Int.not_lt, Int.not_le] at h ⊢; omega)) H locs ls hP hD hS hl) (fun h => kf (by first | exact fun q => h (e1.mpr q) | (exact fun q => h (fun z => q (e1.mp z))) | exact fun q => h (e2.mpr q) | exact fun q => h (e3.mpr q) | exact fun q => h (e4.mpr q) | exact fun q => h (e5.mpr q) | (simp only [e1, e2, e3, e4, e5, ne_eq, ge_iff_le, gt_iff_lt, Int.not_lt, Int.not_le] at h ⊢; omega)) H locs ls hP hD hS hl)
theorem z_if_ge (C : z_C X l G own cc nL R) (hx1 : z_n x) {off : Int} (d : decode cc pc = .ok (.ifCond .ge off, 3)) (ht : (pc : Int) + off = (tgt : Int)) (kt : 0 ≤ x → z_J X ce sl ws L tgt st) (kf : ¬ (0 ≤ x) → z_J X ce sl ws L (pc + 3) st) : z_J X ce sl ws L pc (z_i x :: st) := by
  obtain ⟨p, l', e, R', s, m, args, below, meth, c, G', A, H0, Q, n⟩ := X
  obtain ⟨hx, hb, hml, hown, hts, hK, hA, rfl, rfl, rfl, rfl⟩ := C
  intro H locs ls hP hD hS hl
  have e1 : Int32.ofInt x = 0 ↔ x = 0 := z_eqi hx1 z_n0
  have e2 : Int32.ofInt x < 0 ↔ x < 0 := z_lti hx1 z_n0
  have e3 : 0 < Int32.ofInt x ↔ 0 < x := z_lti z_n0 hx1
  have e4 : Int32.ofInt x ≤ 0 ↔ x ≤ 0 := z_lei hx1 z_n0
  have e5 : 0 ≤ Int32.ofInt x ↔ 0 ≤ x := z_lei z_n0 hx1
  refine lv_if_ge hx hb d ht (fun h => kt (by first | exact e1.mp h | exact fun q => h (e1.mpr q) | exact e2.mp h | exact e3.mp h | exact e4.mp h | exact e5.mp h | (simp only [e1, e2, e3, e4, e5, ne_eq, ge_iff_le, gt_iff_lt, Int.not_lt, Int.not_le] at h ⊢; omega)) H locs ls hP hD hS hl) (fun h => kf (by first | exact fun q => h (e1.mpr q) | (exact fun q => h (fun z => q (e1.mp z))) | exact fun q => h (e2.mpr q) | exact fun q => h (e3.mpr q) | exact fun q => h (e4.mpr q) | exact fun q => h (e5.mpr q) | (simp only [e1, e2, e3, e4, e5, ne_eq, ge_iff_le, gt_iff_lt, Int.not_lt, Int.not_le] at h ⊢; omega)) H locs ls hP hD hS hl)
theorem z_icmp_gt (C : z_C X l G own cc nL R) (hx1 : z_n x) (hy1 : z_n y) {off : Int} (d : decode cc pc = .ok (.if_icmp .gt off, 3)) (ht : (pc : Int) + off = (tgt : Int)) (kt : y < x → z_J X ce sl ws L tgt st) (kf : ¬ (y < x) → z_J X ce sl ws L (pc + 3) st) : z_J X ce sl ws L pc (z_i y :: z_i x :: st) := by
  obtain ⟨p, l', e, R', s, m, args, below, meth, c, G', A, H0, Q, n⟩ := X
  obtain ⟨hx, hb, hml, hown, hts, hK, hA, rfl, rfl, rfl, rfl⟩ := C
  intro H locs ls hP hD hS hl
  have e1 := z_eqi hx1 hy1
  have e2 := z_lti hx1 hy1
  have e3 := z_lti hy1 hx1
  have e4 := z_lei hx1 hy1
  have e5 := z_lei hy1 hx1
  refine lv_icmp_gt hx hb d ht (fun h => kt (by first | exact e1.mp h | exact fun q => h (e1.mpr q) | exact e2.mp h | exact e3.mp h | exact e4.mp h | exact e5.mp h | (simp only [e1, e2, e3, e4, e5, ne_eq, ge_iff_le, gt_iff_lt, Int.not_lt, Int.not_le] at h ⊢; omega)) H locs ls hP hD hS hl) (fun h => kf (by first | exact fun q => h (e1.mpr q) | (exact fun q => h (fun z => q (e1.mp z))) | exact fun q => h (e2.mpr q) | exact fun q => h (e3.mpr q) | exact fun q => h (e4.mpr q) | exact fun q => h (e5.mpr q) | (simp only [e1, e2, e3, e4, e5, ne_eq, ge_iff_le, gt_iff_lt, Int.not_lt, Int.not_le] at h ⊢; omega)) H locs ls hP hD hS hl)
theorem z_if_gt (C : z_C X l G own cc nL R) (hx1 : z_n x) {off : Int} (d : decode cc pc = .ok (.ifCond .gt off, 3)) (ht : (pc : Int) + off = (tgt : Int)) (kt : 0 < x → z_J X ce sl ws L tgt st) (kf : ¬ (0 < x) → z_J X ce sl ws L (pc + 3) st) : z_J X ce sl ws L pc (z_i x :: st) := by
  obtain ⟨p, l', e, R', s, m, args, below, meth, c, G', A, H0, Q, n⟩ := X
  obtain ⟨hx, hb, hml, hown, hts, hK, hA, rfl, rfl, rfl, rfl⟩ := C
  intro H locs ls hP hD hS hl
  have e1 : Int32.ofInt x = 0 ↔ x = 0 := z_eqi hx1 z_n0
  have e2 : Int32.ofInt x < 0 ↔ x < 0 := z_lti hx1 z_n0
  have e3 : 0 < Int32.ofInt x ↔ 0 < x := z_lti z_n0 hx1
  have e4 : Int32.ofInt x ≤ 0 ↔ x ≤ 0 := z_lei hx1 z_n0
  have e5 : 0 ≤ Int32.ofInt x ↔ 0 ≤ x := z_lei z_n0 hx1
  refine lv_if_gt hx hb d ht (fun h => kt (by first | exact e1.mp h | exact fun q => h (e1.mpr q) | exact e2.mp h | exact e3.mp h | exact e4.mp h | exact e5.mp h | (simp only [e1, e2, e3, e4, e5, ne_eq, ge_iff_le, gt_iff_lt, Int.not_lt, Int.not_le] at h ⊢; omega)) H locs ls hP hD hS hl) (fun h => kf (by first | exact fun q => h (e1.mpr q) | (exact fun q => h (fun z => q (e1.mp z))) | exact fun q => h (e2.mpr q) | exact fun q => h (e3.mpr q) | exact fun q => h (e4.mpr q) | exact fun q => h (e5.mpr q) | (simp only [e1, e2, e3, e4, e5, ne_eq, ge_iff_le, gt_iff_lt, Int.not_lt, Int.not_le] at h ⊢; omega)) H locs ls hP hD hS hl)
theorem z_icmp_le (C : z_C X l G own cc nL R) (hx1 : z_n x) (hy1 : z_n y) {off : Int} (d : decode cc pc = .ok (.if_icmp .le off, 3)) (ht : (pc : Int) + off = (tgt : Int)) (kt : x ≤ y → z_J X ce sl ws L tgt st) (kf : ¬ (x ≤ y) → z_J X ce sl ws L (pc + 3) st) : z_J X ce sl ws L pc (z_i y :: z_i x :: st) := by
  obtain ⟨p, l', e, R', s, m, args, below, meth, c, G', A, H0, Q, n⟩ := X
  obtain ⟨hx, hb, hml, hown, hts, hK, hA, rfl, rfl, rfl, rfl⟩ := C
  intro H locs ls hP hD hS hl
  have e1 := z_eqi hx1 hy1
  have e2 := z_lti hx1 hy1
  have e3 := z_lti hy1 hx1
  have e4 := z_lei hx1 hy1
  have e5 := z_lei hy1 hx1
  refine lv_icmp_le hx hb d ht (fun h => kt (by first | exact e1.mp h | exact fun q => h (e1.mpr q) | exact e2.mp h | exact e3.mp h | exact e4.mp h | exact e5.mp h | (simp only [e1, e2, e3, e4, e5, ne_eq, ge_iff_le, gt_iff_lt, Int.not_lt, Int.not_le] at h ⊢; omega)) H locs ls hP hD hS hl) (fun h => kf (by first | exact fun q => h (e1.mpr q) | (exact fun q => h (fun z => q (e1.mp z))) | exact fun q => h (e2.mpr q) | exact fun q => h (e3.mpr q) | exact fun q => h (e4.mpr q) | exact fun q => h (e5.mpr q) | (simp only [e1, e2, e3, e4, e5, ne_eq, ge_iff_le, gt_iff_lt, Int.not_lt, Int.not_le] at h ⊢; omega)) H locs ls hP hD hS hl)
theorem z_if_le (C : z_C X l G own cc nL R) (hx1 : z_n x) {off : Int} (d : decode cc pc = .ok (.ifCond .le off, 3)) (ht : (pc : Int) + off = (tgt : Int)) (kt : x ≤ 0 → z_J X ce sl ws L tgt st) (kf : ¬ (x ≤ 0) → z_J X ce sl ws L (pc + 3) st) : z_J X ce sl ws L pc (z_i x :: st) := by
  obtain ⟨p, l', e, R', s, m, args, below, meth, c, G', A, H0, Q, n⟩ := X
  obtain ⟨hx, hb, hml, hown, hts, hK, hA, rfl, rfl, rfl, rfl⟩ := C
  intro H locs ls hP hD hS hl
  have e1 : Int32.ofInt x = 0 ↔ x = 0 := z_eqi hx1 z_n0
  have e2 : Int32.ofInt x < 0 ↔ x < 0 := z_lti hx1 z_n0
  have e3 : 0 < Int32.ofInt x ↔ 0 < x := z_lti z_n0 hx1
  have e4 : Int32.ofInt x ≤ 0 ↔ x ≤ 0 := z_lei hx1 z_n0
  have e5 : 0 ≤ Int32.ofInt x ↔ 0 ≤ x := z_lei z_n0 hx1
  refine lv_if_le hx hb d ht (fun h => kt (by first | exact e1.mp h | exact fun q => h (e1.mpr q) | exact e2.mp h | exact e3.mp h | exact e4.mp h | exact e5.mp h | (simp only [e1, e2, e3, e4, e5, ne_eq, ge_iff_le, gt_iff_lt, Int.not_lt, Int.not_le] at h ⊢; omega)) H locs ls hP hD hS hl) (fun h => kf (by first | exact fun q => h (e1.mpr q) | (exact fun q => h (fun z => q (e1.mp z))) | exact fun q => h (e2.mpr q) | exact fun q => h (e3.mpr q) | exact fun q => h (e4.mpr q) | exact fun q => h (e5.mpr q) | (simp only [e1, e2, e3, e4, e5, ne_eq, ge_iff_le, gt_iff_lt, Int.not_lt, Int.not_le] at h ⊢; omega)) H locs ls hP hD hS hl)
end
