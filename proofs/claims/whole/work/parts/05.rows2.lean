/-! rows: fields, arrays, switches, calls, ends -/
theorem z_e {x : Int} {n : Nat} (h : 0 ≤ x ∧ x < (n : Int)) (hx : z_n x) : (((Int32.ofInt x).toNatClampNeg : Nat) : Int) = x := by rw [z_clamp hx, Int.toNat_of_nonneg h.1]
theorem z_a_up {c : ClassId} {n : Nat} {f : Int → Int} {x y : Int} (h : 0 ≤ x ∧ x < (n : Int)) (hx : z_n x) : (.inl (c, n, .inl (upd (fun j : Nat => Int32.ofInt (f (j : Int))) (Int32.ofInt x).toNatClampNeg (Int32.ofInt y))) : va_E) = z_a c n (z_up f x y) := by
  unfold z_a
  congr 3
  congr 1
  funext j
  have e := z_e h hx
  simp only [upd, z_up]
  by_cases hj : j = (Int32.ofInt x).toNatClampNeg
  · rw [if_pos hj, if_pos (by omega)]
  · rw [if_neg hj, if_neg (by omega)]
theorem z_l_up {c : ClassId} {n : Nat} {f : Int → Int64} {x : Int} {v : Int64} (h : 0 ≤ x ∧ x < (n : Int)) (hx : z_n x) : (.inl (c, n, .inr (.inl (vp_updL (fun j : Nat => f (j : Int)) (Int32.ofInt x).toNatClampNeg v))) : va_E) = z_l c n (z_up f x v) := by
  unfold z_l
  congr 4
  congr 1
  funext j
  have e := z_e h hx
  simp only [vp_updL, z_up]
  by_cases hj : j = (Int32.ofInt x).toNatClampNeg
  · rw [if_pos hj, if_pos (by omega)]
  · rw [if_neg hj, if_neg (by omega)]
theorem z_nar_z {y : Int} (h : y = 0 ∨ y = 1) : vp_nar .boolean (Int32.ofInt y) = Int32.ofInt y := by
  rcases h with rfl | rfl <;> rfl
theorem z_nar_c {y : Int} (h : 0 ≤ y ∧ y ≤ 65535) : vp_nar .char (Int32.ofInt y) = Int32.ofInt y := by
  obtain ⟨k, rfl⟩ := Int.eq_ofNat_of_zero_le h.1
  have hk : k < 65536 := by omega
  rw [vp_nar_char, lg_i2c_mask]
  apply Int32.toBitVec_inj.mp
  rw [Int32.toBitVec_and, Int32.toBitVec_ofInt]
  apply BitVec.eq_of_toNat_eq
  rw [BitVec.toNat_and]
  have e : (BitVec.ofInt 32 (k : Int)).toNat = k := by
    rw [BitVec.toNat_ofInt]
    omega
  rw [e]
  show k &&& 65535 = k
  rw [show (65535 : Nat) = 2 ^ 16 - 1 from rfl, Nat.and_two_pow_sub_one_eq_mod]
  omega
/-- a field link, and all that is known of the field -/
def z_F (own : String) (idx ci k : Nat) (ft : FieldType) (fin : Bool) : Prop := ∃ (Cn : String) (T : u_T) (N : Nat) (ty : Nat → FieldType), vwCl[ci]? = some (Cn, T, N) ∧ (∀ w ∈ u_ws Cn T N, w ∈ z_W) ∧ (∀ k, k < N → parseFieldDescriptor (T k).2.2.1 = some (ty k)) ∧ (∀ a, a < N → ∀ b, b < N → a ≠ b → (T a).2.1 ≠ (T b).2.1) ∧ k < N ∧ Cond.fieldLink own idx (T k).1 (T k).2.1 (T k).2.2.1 ∈ z_W ∧ ty k = ft ∧ (T k).2.2.2 = fin ∧ (T k).1 = Cn
/-- a method that can be called on an object; one that is static -/
def z_V (y : MethodName) (cy : ByteArray) (ny : Nat) (ret : Option FieldType) (n : Nat) : Prop := Cond.code y cy ny ret ∈ z_W ∧ Cond.initialized y.cls ∈ z_W ∧ (y.cls ≠ "java/lang/invoke/MethodHandle" ∧ y.cls ≠ "java/lang/invoke/VarHandle") ∧ (parseMethodDescriptor y.desc).map (fun d => d.parameters.length) = some n ∧ Cond.instanceMethod y ∈ z_W ∧ Cond.selects y.cls y y ∈ z_W
def z_S (y : MethodName) (cy : ByteArray) (ny : Nat) (ret : Option FieldType) (n : Nat) : Prop := Cond.code y cy ny ret ∈ z_W ∧ Cond.initialized y.cls ∈ z_W ∧ (y.cls ≠ "java/lang/invoke/MethodHandle" ∧ y.cls ≠ "java/lang/invoke/VarHandle") ∧ (parseMethodDescriptor y.desc).map (fun d => d.parameters.length) = some n ∧ Cond.static y ∈ z_W
theorem z_pay {args : Array Value} {s : State} {y : MethodName} {cy : ByteArray} {ny : Nat} {ret : Option FieldType} (hts : ∀ w ∈ z_W, w.before args s = true) (h : Cond.code y cy ny ret ∈ z_W) : ∀ w ∈ (Cond.code y cy ny ret :: z_W), ∀ (a' : Array Value) (U : State), s.WarmedH U.vm → w.before a' U = true :=
  pay_in (big := z_W) hts fun w hw => by
    rcases List.mem_cons.mp hw with rfl | hw
    · exact ⟨h, good_of_word (z_W_good h)⟩
    · exact ⟨hw, good_of_word (z_W_good hw)⟩
theorem z_callB {R : Room} {s : State} {args : Array Value} {own : String} {idx : Nat} {y : MethodName} {cy : ByteArray} {ny : Nat} {ret : Option FieldType} {rm : Room} {n mc ms : Nat} (hts : ∀ w ∈ z_W, w.before args s = true) (h1 : Cond.code y cy ny ret ∈ z_W) (h2 : Cond.initialized y.cls ∈ z_W) (h3 : y.cls ≠ "java/lang/invoke/MethodHandle" ∧ y.cls ≠ "java/lang/invoke/VarHandle") (h4 : (parseMethodDescriptor y.desc).map (fun d => d.parameters.length) = some n) (h5 : Cond.methodLink own idx y ∈ z_W) (hR : rm.frames + 1 ≤ R.frames ∧ 8 + (ny + 11) + rm.locals ≤ R.locals) (hmc : rm.cells = mc) (hms : rm.slots = ms) :
    CallB R s args own idx y cy ny ret (Cond.code y cy ny ret :: z_W) rm mc ms n := by
  refine ⟨hmc, hms, hR.1, hR.2, z_pay hts h1, List.mem_cons_self, hts _ h1, hts _ h2, h3, fun sig h => ?_, hts _ h5⟩
  rw [h] at h4
  exact (Option.some.inj h4).symm
/-- behind a call -/
theorem z_go {p : Program} {l : Launch} {e : Env} {R : Room} {s : State} {m : MethodId} {args : Array Value} {below : List Frame} {meth : Method} {c : Code} {G : z_G} {A : Nat → Prop} {H0 H : Heap} {locs : List Loc} {ce sl mc ms pc : Nat} {Q : State → Prop} {ws wc : va_W} {post : Option Value → va_W → Prop} {ls : Array Slot} {st0 rest : List Value} {a0 : Array Value}
    (hP : va_P G.1 vwCl ws H) (hD : va_D A ws) (hS : va_S A H0 H locs) (hA : ∀ q, H0.size ≤ q → A q) (hr : va_Run p l e R s m args below meth c H locs ce sl mc ms (F0 m pc ls st0) rest (z_Qc G wc H.size post a0) (va_A wc H.size)) (is : List Nat) (hs : is.map (fun i => ws[i]?) = wc.map some) (hn : va_nd is = true)
    (hsp : ∀ v w, post v w → ∃ w1 wn, w = w1 ++ wn ∧ w1.map (fun q => q.1) = wc.map (fun q => q.1))
    (kk : ∀ (v : Option Value) (w1 wn : va_W) (H1 : Heap) (locs1 : List Loc), post v (w1 ++ wn) → w1.map (fun q => q.1) = wc.map (fun q => q.1) → va_P G.1 vwCl (z_put ws is w1 ++ wn) H1 → va_D A (z_put ws is w1 ++ wn) → va_S A H0 H1 locs1 → W p l e R s m args below meth c H1 locs1 (ce + mc) (sl + ms) Q (F0 m (pc + 3) ls (v.toList ++ rest))) : W p l e R s m args below meth c H locs ce sl Q (F0 m pc ls st0) := by
  intro T hT X
  obtain ⟨v, st₀, t, T', L, h0, X', hL, e1, e2, ⟨⟨v', w, hv, hp, hb, hd⟩, hz, hk⟩, st⟩ := hr T hT X
  cases hv
  rw [h0] at hz hk
  obtain ⟨w1, wn, rfl, hw⟩ := hsp v w hp
  have hF := va_free (wc := wc) hD hS hA is hs
  obtain ⟨j1, j2⟩ := z_join hP hD is hs hn hw hk hF hb hd
  obtain ⟨t2, a1, b1⟩ := kk v w1 wn T'.heap (locs ++ L) hp hw (by rw [e1]; exact j1) j2
    ⟨Nat.le_trans hS.1 (by rw [e1]; exact hz), fun q h1 h2 => by rw [e1, hk q (Nat.lt_of_lt_of_le h1 hS.1) (fun z => h2 (hF q z))]; exact hS.2.1 q h1 h2, fun q hq => by
      rcases List.mem_append.mp hq with h | h
      · exact hS.2.2 q h
      · exact hF _ (hL q h)⟩ T' rfl X'
  exact ⟨t2, st t2 a1, b1⟩
theorem z_blind {G : z_G} {vs : List Value} {wc : va_W} {sz : Nat} : FrameBlind (va_Pc vs (fun U => U.heap.size = sz ∧ va_P G.1 vwCl wc U.heap ∧ z_K G U ∧ va_D (fun _ => True) wc)) := fun _ U g mk q => ⟨q.1, q.2.1, q.2.2.1, z_K.same (s := U) (U := U.calling g mk _) rfl q.2.2.2.1, q.2.2.2.2⟩
section
variable {X : z_X} {l : Launch} {G : z_G} {own : String} {cc : ByteArray} {nL : Nat} {R : Room} {ce sl : Nat} {ws ws' : va_W} {L L' : List (Nat × Value)} {pc tgt : Nat} {st : List Value} {a b : Nat} {x y : Int} {u v : Int64}
theorem z_get (C : z_C X l G own cc nL R) {idx ci k : Nat} {ft : FieldType} {fin : Bool} (F : z_F own idx ci k ft fin) (d : decode cc pc = .ok (.getfield idx, 3)) (q : Nat) {fs : List Value} (he : ws[q]? = some (a, z_o ci fs)) {w : Value} (hv : fs[k]? = some w) (kk : z_J X ce sl ws L (pc + 3) (w :: st)) : z_J X ce sl ws L pc (.ref a :: st) := by
  obtain ⟨p, l', e, R', s, m, args, below, meth, c, G', A, H0, Q, n⟩ := X
  obtain ⟨hx, hb, hml, hown, hts, hK, hA, rfl, rfl, rfl, rfl⟩ := C
  obtain ⟨Cn, T, N, ty, hc, hin, hty, hnm, hk, hlk, hft, hfin, hcn⟩ := F
  intro H locs ls hP hD hS hl
  exact va_get hx hb hts hin hown hK.1 hP q he hc k hk (hts _ hlk) (fun _ h => h) hv d (kk H locs ls hP hD hS hl)
theorem z_puti (C : z_C X l G own cc nL R) {idx ci k : Nat} (F : z_F own idx ci k .int false) (d : decode cc pc = .ok (.putfield idx, 3)) (q : Nat) {fs : List Value} (he : ws[q]? = some (a, z_o ci fs)) {w : Value} (hv : fs[k]? = some w) (hw : ws.set q (a, z_o ci (fs.set k (z_i x))) = ws') (kk : z_J X ce sl ws' L (pc + 3) st) : z_J X ce sl ws L pc (z_i x :: .ref a :: st) := by
  obtain ⟨p, l', e, R', s, m, args, below, meth, c, G', A, H0, Q, n⟩ := X
  obtain ⟨hx, hb, hml, hown, hts, hK, hA, rfl, rfl, rfl, rfl⟩ := C
  obtain ⟨Cn, T, N, ty, hc, hin, hty, hnm, hk, hlk, hft, hfin, hcn⟩ := F
  intro H locs ls hP hD hS hl
  subst hw
  exact va_put hx hb hts hin ty hty hnm hown hK.1 hP hD hS q he hc k hk (hts _ hlk) (fun _ h => h) hfin ((hty k hk).trans (congrArg some hft)) rfl rfl (List.getElem?_eq_some_iff.mp hv).1 d (fun H locs hP hD hS => kk H locs ls hP hD hS hl)
theorem z_putl (C : z_C X l G own cc nL R) {idx ci k : Nat} (F : z_F own idx ci k .long false) (d : decode cc pc = .ok (.putfield idx, 3)) (q : Nat) {fs : List Value} (he : ws[q]? = some (a, z_o ci fs)) {w : Value} (hv : fs[k]? = some w) (hw : ws.set q (a, z_o ci (fs.set k (.long v))) = ws') (kk : z_J X ce sl ws' L (pc + 3) st) : z_J X ce sl ws L pc (.long v :: .ref a :: st) := by
  obtain ⟨p, l', e, R', s, m, args, below, meth, c, G', A, H0, Q, n⟩ := X
  obtain ⟨hx, hb, hml, hown, hts, hK, hA, rfl, rfl, rfl, rfl⟩ := C
  obtain ⟨Cn, T, N, ty, hc, hin, hty, hnm, hk, hlk, hft, hfin, hcn⟩ := F
  intro H locs ls hP hD hS hl
  subst hw
  exact va_put hx hb hts hin ty hty hnm hown hK.1 hP hD hS q he hc k hk (hts _ hlk) (fun _ h => h) hfin ((hty k hk).trans (congrArg some hft)) rfl rfl (List.getElem?_eq_some_iff.mp hv).1 d (fun H locs hP hD hS => kk H locs ls hP hD hS hl)
theorem z_iald (C : z_C X l G own cc nL R) (d : decode cc pc = .ok (.iaload, 1)) (q : Nat) {n : Nat} {f : Int → Int} (he : ws[q]? = some (a, z_a G.2.1 n f)) (hin : 0 ≤ x ∧ x < (n : Int)) (hx1 : z_n x) (kk : z_J X ce sl ws L (pc + 1) (z_i (f x) :: st)) : z_J X ce sl ws L pc (z_i x :: .ref a :: st) := by
  obtain ⟨p, l', e, R', s, m, args, below, meth, c, G', A, H0, Q, n⟩ := X
  obtain ⟨hx, hb, hml, hown, hts, hK, hA, rfl, rfl, rfl, rfl⟩ := C
  intro H locs ls hP hD hS hl
  refine va_iald hx hb hK.1 hP q 0 he rfl (z_idx hin hx1) d ?_
  simp only [z_e hin hx1]
  exact kk H locs ls hP hD hS hl
theorem z_cald (C : z_C X l G own cc nL R) (d : decode cc pc = .ok (.caload, 1)) (q : Nat) {n : Nat} {f : Int → Int} (he : ws[q]? = some (a, z_a G.2.2.2.1 n f)) (hin : 0 ≤ x ∧ x < (n : Int)) (hx1 : z_n x) (kk : z_J X ce sl ws L (pc + 1) (z_i (f x) :: st)) : z_J X ce sl ws L pc (z_i x :: .ref a :: st) := by
  obtain ⟨p, l', e, R', s, m, args, below, meth, c, G', A, H0, Q, n⟩ := X
  obtain ⟨hx, hb, hml, hown, hts, hK, hA, rfl, rfl, rfl, rfl⟩ := C
  intro H locs ls hP hD hS hl
  refine va_cald hx hb hK.1 hP q 2 he rfl (z_idx hin hx1) d ?_
  simp only [z_e hin hx1]
  exact kk H locs ls hP hD hS hl
theorem z_zald (C : z_C X l G own cc nL R) (d : decode cc pc = .ok (.baload, 1)) (q : Nat) {n : Nat} {f : Int → Int} (he : ws[q]? = some (a, z_a G.2.2.2.2 n f)) (hin : 0 ≤ x ∧ x < (n : Int)) (hx1 : z_n x) (kk : z_J X ce sl ws L (pc + 1) (z_i (f x) :: st)) : z_J X ce sl ws L pc (z_i x :: .ref a :: st) := by
  obtain ⟨p, l', e, R', s, m, args, below, meth, c, G', A, H0, Q, n⟩ := X
  obtain ⟨hx, hb, hml, hown, hts, hK, hA, rfl, rfl, rfl, rfl⟩ := C
  intro H locs ls hP hD hS hl
  refine va_zald hx hb hK.1 hP q 3 he rfl (z_idx hin hx1) d ?_
  simp only [z_e hin hx1]
  exact kk H locs ls hP hD hS hl
theorem z_lald (C : z_C X l G own cc nL R) (d : decode cc pc = .ok (.laload, 1)) (q : Nat) {n : Nat} {f : Int → Int64} (he : ws[q]? = some (a, z_l G.2.2.1 n f)) (hin : 0 ≤ x ∧ x < (n : Int)) (hx1 : z_n x) (kk : z_J X ce sl ws L (pc + 1) (.long (f x) :: st)) : z_J X ce sl ws L pc (z_i x :: .ref a :: st) := by
  obtain ⟨p, l', e, R', s, m, args, below, meth, c, G', A, H0, Q, n⟩ := X
  obtain ⟨hx, hb, hml, hown, hts, hK, hA, rfl, rfl, rfl, rfl⟩ := C
  intro H locs ls hP hD hS hl
  refine va_lald hx hb hK.1 hP q 1 he rfl (z_idx hin hx1) d ?_
  simp only [z_e hin hx1]
  exact kk H locs ls hP hD hS hl
theorem z_iast (C : z_C X l G own cc nL R) (d : decode cc pc = .ok (.iastore, 1)) (q : Nat) {n : Nat} {f : Int → Int} (he : ws[q]? = some (a, z_a G.2.1 n f)) (hin : 0 ≤ x ∧ x < (n : Int)) (hx1 : z_n x) (hw : ws.set q (a, z_a G.2.1 n (z_up f x y)) = ws') (kk : z_J X ce sl ws' L (pc + 1) st) : z_J X ce sl ws L pc (z_i y :: z_i x :: .ref a :: st) := by
  obtain ⟨p, l', e, R', s, m, args, below, meth, c, G', A, H0, Q, n⟩ := X
  obtain ⟨hx, hb, hml, hown, hts, hK, hA, rfl, rfl, rfl, rfl⟩ := C
  intro H locs ls hP hD hS hl
  subst hw
  refine va_iast hx hb hK.1 hP hD hS q 0 he rfl (z_idx hin hx1) d (fun H1 locs1 hP hD hS => ?_)
  rw [z_a_up hin hx1] at hP hD
  exact kk H1 locs1 ls hP hD hS hl
theorem z_zast (C : z_C X l G own cc nL R) (d : decode cc pc = .ok (.bastore, 1)) (q : Nat) {n : Nat} {f : Int → Int} (he : ws[q]? = some (a, z_a G.2.2.2.2 n f)) (hin : 0 ≤ x ∧ x < (n : Int)) (hx1 : z_n x) (hy1 : y = 0 ∨ y = 1) (hw : ws.set q (a, z_a G.2.2.2.2 n (z_up f x y)) = ws') (kk : z_J X ce sl ws' L (pc + 1) st) : z_J X ce sl ws L pc (z_i y :: z_i x :: .ref a :: st) := by
  obtain ⟨p, l', e, R', s, m, args, below, meth, c, G', A, H0, Q, n⟩ := X
  obtain ⟨hx, hb, hml, hown, hts, hK, hA, rfl, rfl, rfl, rfl⟩ := C
  intro H locs ls hP hD hS hl
  subst hw
  refine va_zast hx hb hK.1 hP hD hS q 3 he rfl (z_idx hin hx1) d (fun H1 locs1 hP hD hS => ?_)
  rw [z_nar_z hy1, z_a_up hin hx1] at hP hD
  exact kk H1 locs1 ls hP hD hS hl
theorem z_cast (C : z_C X l G own cc nL R) (d : decode cc pc = .ok (.castore, 1)) (q : Nat) {n : Nat} {f : Int → Int} (he : ws[q]? = some (a, z_a G.2.2.2.1 n f)) (hin : 0 ≤ x ∧ x < (n : Int)) (hx1 : z_n x) (hy1 : 0 ≤ y ∧ y ≤ 65535) (hw : ws.set q (a, z_a G.2.2.2.1 n (z_up f x y)) = ws') (kk : z_J X ce sl ws' L (pc + 1) st) : z_J X ce sl ws L pc (z_i y :: z_i x :: .ref a :: st) := by
  obtain ⟨p, l', e, R', s, m, args, below, meth, c, G', A, H0, Q, n⟩ := X
  obtain ⟨hx, hb, hml, hown, hts, hK, hA, rfl, rfl, rfl, rfl⟩ := C
  intro H locs ls hP hD hS hl
  subst hw
  refine va_cast hx hb hK.1 hP hD hS q 2 he rfl (z_idx hin hx1) d (fun H1 locs1 hP hD hS => ?_)
  rw [z_nar_c hy1, z_a_up hin hx1] at hP hD
  exact kk H1 locs1 ls hP hD hS hl
theorem z_last (C : z_C X l G own cc nL R) (d : decode cc pc = .ok (.lastore, 1)) (q : Nat) {n : Nat} {f : Int → Int64} (he : ws[q]? = some (a, z_l G.2.2.1 n f)) (hin : 0 ≤ x ∧ x < (n : Int)) (hx1 : z_n x) (hw : ws.set q (a, z_l G.2.2.1 n (z_up f x v)) = ws') (kk : z_J X ce sl ws' L (pc + 1) st) : z_J X ce sl ws L pc (.long v :: z_i x :: .ref a :: st) := by
  obtain ⟨p, l', e, R', s, m, args, below, meth, c, G', A, H0, Q, n⟩ := X
  obtain ⟨hx, hb, hml, hown, hts, hK, hA, rfl, rfl, rfl, rfl⟩ := C
  intro H locs ls hP hD hS hl
  subst hw
  refine va_last hx hb hK.1 hP hD hS q 1 he rfl (z_idx hin hx1) d (fun H1 locs1 hP hD hS => ?_)
  rw [z_l_up hin hx1] at hP hD
  exact kk H1 locs1 ls hP hD hS hl
theorem z_alen_i (C : z_C X l G own cc nL R) (d : decode cc pc = .ok (.arraylength, 1)) (q : Nat) {n : Nat} {f : Int → Int} (he : ws[q]? = some (a, z_a G.2.1 n f)) (hn : (n : Int) = x) (kk : z_J X ce sl ws L (pc + 1) (z_i x :: st)) : z_J X ce sl ws L pc (.ref a :: st) := by
  obtain ⟨p, l', e, R', s, m, args, below, meth, c, G', A, H0, Q, n⟩ := X
  obtain ⟨hx, hb, hml, hown, hts, hK, hA, rfl, rfl, rfl, rfl⟩ := C
  intro H locs ls hP hD hS hl
  exact va_alen hx hb hK.1 hP q 0 he (ty := .int) rfl (by rw [← hn]; exact Int32.ofInt_eq_ofNat.symm) d (kk H locs ls hP hD hS hl)
theorem z_alen_l (C : z_C X l G own cc nL R) (d : decode cc pc = .ok (.arraylength, 1)) (q : Nat) {n : Nat} {f : Int → Int64} (he : ws[q]? = some (a, z_l G.2.2.1 n f)) (hn : (n : Int) = x) (kk : z_J X ce sl ws L (pc + 1) (z_i x :: st)) : z_J X ce sl ws L pc (.ref a :: st) := by
  obtain ⟨p, l', e, R', s, m, args, below, meth, c, G', A, H0, Q, n⟩ := X
  obtain ⟨hx, hb, hml, hown, hts, hK, hA, rfl, rfl, rfl, rfl⟩ := C
  intro H locs ls hP hD hS hl
  exact va_alen hx hb hK.1 hP q 1 he (ty := .long) rfl (by rw [← hn]; exact Int32.ofInt_eq_ofNat.symm) d (kk H locs ls hP hD hS hl)
theorem z_tabIn (C : z_C X l G own cc nL R) (hx1 : z_n x) {dflt lo hi off : Int} {offs : Array Int} {len : Nat} (d : decode cc pc = .ok (.tableswitch dflt lo hi offs, len)) (k : Int) (e : x = k) (h1 : lo ≤ k ∧ k ≤ hi) (ho : offs[(k - lo).toNat]? = some off) (ht : (pc : Int) + off = (tgt : Int)) (kk : z_J X ce sl ws L tgt st) : z_J X ce sl ws L pc (z_i x :: st) := by
  obtain ⟨p, l', e', R', s, m, args, below, meth, c, G', A, H0, Q, n⟩ := X
  obtain ⟨hx, hb, hml, hown, hts, hK, hA, rfl, rfl, rfl, rfl⟩ := C
  intro H locs ls hP hD hS hl
  subst e
  exact lv_tableIn hx hb d (by rw [z_toInt hx1]; omega) (by rw [z_toInt hx1]; omega) (by rw [z_toInt hx1]; exact ho) ht (kk H locs ls hP hD hS hl)
theorem z_tabOut (C : z_C X l G own cc nL R) (hx1 : z_n x) {dflt lo hi : Int} {offs : Array Int} {len : Nat} (d : decode cc pc = .ok (.tableswitch dflt lo hi offs, len)) (h1 : x < lo ∨ hi < x) (ht : (pc : Int) + dflt = (tgt : Int)) (kk : z_J X ce sl ws L tgt st) : z_J X ce sl ws L pc (z_i x :: st) := by
  obtain ⟨p, l', e', R', s, m, args, below, meth, c, G', A, H0, Q, n⟩ := X
  obtain ⟨hx, hb, hml, hown, hts, hK, hA, rfl, rfl, rfl, rfl⟩ := C
  intro H locs ls hP hD hS hl
  exact lv_tableOut hx hb d (by rw [z_toInt hx1]; exact h1) ht (kk H locs ls hP hD hS hl)
theorem z_copyi (C : z_C X l G own cc nL R) {idx : Nat} (lk : Cond.methodLink own idx arraycopyName ∈ z_W) (hw1 : Cond.native arraycopyName ∈ z_W) (hw2 : Cond.static arraycopyName ∈ z_W) (hw3 : Cond.initialized "java/lang/System" ∈ z_W) (d : decode cc pc = .ok (.invokestatic idx, 3)) (q0 q1 : Nat) {a0 : Nat} {n0 n1 : Nat} {f g : Int → Int} {sp dp n : Int} (he0 : ws[q0]? = some (a0, z_a G.2.1 n0 f)) (he1 : ws[q1]? = some (a, z_a G.2.1 n1 g)) (hc : 0 ≤ sp ∧ 0 ≤ dp ∧ 0 ≤ n ∧ sp + n ≤ (n0 : Int) ∧ dp + n ≤ (n1 : Int)) (h1 : z_n sp) (h2 : z_n dp) (h3 : z_n n)
    (hR : 1 ≤ R.frames ∧ (st.map fun v => v.category).sum + (nativeFrameWords "java/lang/System" "arraycopy" 5 + 11) ≤ R.locals) (hw : ws.set q1 (a, z_a G.2.1 n1 (z_cpy f g sp dp n)) = ws') (kk : z_J X ce sl ws' L (pc + 3) st) : z_J X ce sl ws L pc (z_i n :: z_i dp :: .ref a :: z_i sp :: .ref a0 :: st) := by
  obtain ⟨p, l', e', R', s, m, args, below, meth, c, G', A, H0, Q, nn⟩ := X
  obtain ⟨hx, hb, hml, hown, hts, hK, hA, rfl, rfl, rfl, rfl⟩ := C
  intro H locs ls hP hD hS hl
  subst hw
  have neg : ∀ {z : Int}, z_n z → 0 ≤ z → ¬ Int32.ofInt z < 0 := fun hz h0 q => by
    have := (z_lti hz z_n0).mp q
    omega
  refine va_copyi hx hb (hml.trans hl.1.symm) hown (hts _ lk) (hts _ hw1) (hts _ hw2) (hts _ hw3) hK.1 hP hD hS q0 q1 0 0 he0 he1 (ty := .int) rfl rfl rfl (neg h1 hc.1) (neg h2 hc.2.1) (neg h3 hc.2.2.1) (by rw [z_clamp h1, z_clamp h3]; omega) (by rw [z_clamp h2, z_clamp h3]; omega) (fun _ _ => rfl) hR.1 hR.2 d (fun H1 locs1 hP hD hS => ?_)
  have e : (.inl (G'.2.1, n1, .inl (va_cpy (fun j : Nat => Int32.ofInt (f (j : Int))) (fun j : Nat => Int32.ofInt (g (j : Int))) (Int32.ofInt sp).toNatClampNeg (Int32.ofInt dp).toNatClampNeg (Int32.ofInt n).toNatClampNeg)) : va_E) = z_a G'.2.1 n1 (z_cpy f g sp dp n) := by
    unfold z_a
    congr 3
    congr 1
    funext k
    simp only [va_cpy, z_cpy, z_clamp h1, z_clamp h2, z_clamp h3]
    by_cases hk : dp ≤ (k : Int) ∧ (k : Int) < dp + n
    · rw [if_pos hk, if_pos (by omega)]
      congr 2
      omega
    · rw [if_neg hk, if_neg (by omega)]
  rw [e] at hP hD
  exact kk H1 locs1 ls hP hD hS hl
theorem z_copyl (C : z_C X l G own cc nL R) {idx : Nat} (lk : Cond.methodLink own idx arraycopyName ∈ z_W) (hw1 : Cond.native arraycopyName ∈ z_W) (hw2 : Cond.static arraycopyName ∈ z_W) (hw3 : Cond.initialized "java/lang/System" ∈ z_W) (d : decode cc pc = .ok (.invokestatic idx, 3)) (q0 q1 : Nat) {a0 : Nat} {n0 n1 : Nat} {f g : Int → Int64} {sp dp n : Int} (he0 : ws[q0]? = some (a0, z_l G.2.2.1 n0 f)) (he1 : ws[q1]? = some (a, z_l G.2.2.1 n1 g)) (hc : 0 ≤ sp ∧ 0 ≤ dp ∧ 0 ≤ n ∧ sp + n ≤ (n0 : Int) ∧ dp + n ≤ (n1 : Int)) (h1 : z_n sp) (h2 : z_n dp) (h3 : z_n n)
    (hR : 1 ≤ R.frames ∧ (st.map fun v => v.category).sum + (nativeFrameWords "java/lang/System" "arraycopy" 5 + 11) ≤ R.locals) (hw : ws.set q1 (a, z_l G.2.2.1 n1 (z_cpy f g sp dp n)) = ws') (kk : z_J X ce sl ws' L (pc + 3) st) : z_J X ce sl ws L pc (z_i n :: z_i dp :: .ref a :: z_i sp :: .ref a0 :: st) := by
  obtain ⟨p, l', e', R', s, m, args, below, meth, c, G', A, H0, Q, nn⟩ := X
  obtain ⟨hx, hb, hml, hown, hts, hK, hA, rfl, rfl, rfl, rfl⟩ := C
  intro H locs ls hP hD hS hl
  subst hw
  have neg : ∀ {z : Int}, z_n z → 0 ≤ z → ¬ Int32.ofInt z < 0 := fun hz h0 q => by
    have := (z_lti hz z_n0).mp q
    omega
  refine va_copyl hx hb (hml.trans hl.1.symm) hown (hts _ lk) (hts _ hw1) (hts _ hw2) (hts _ hw3) hK.1 hP hD hS q0 q1 1 1 he0 he1 (ty := .long) rfl rfl rfl (neg h1 hc.1) (neg h2 hc.2.1) (neg h3 hc.2.2.1) (by rw [z_clamp h1, z_clamp h3]; omega) (by rw [z_clamp h2, z_clamp h3]; omega) (fun _ _ => rfl) hR.1 hR.2 d (fun H1 locs1 hP hD hS => ?_)
  have e : (.inl (G'.2.2.1, n1, .inr (.inl (va_cpy (fun j : Nat => f (j : Int)) (fun j : Nat => g (j : Int)) (Int32.ofInt sp).toNatClampNeg (Int32.ofInt dp).toNatClampNeg (Int32.ofInt n).toNatClampNeg))) : va_E) = z_l G'.2.2.1 n1 (z_cpy f g sp dp n) := by
    unfold z_l
    congr 4
    congr 1
    funext k
    simp only [va_cpy, z_cpy, z_clamp h1, z_clamp h2, z_clamp h3]
    by_cases hk : dp ≤ (k : Int) ∧ (k : Int) < dp + n
    · rw [if_pos hk, if_pos (by omega)]
      congr 1
      omega
    · rw [if_neg hk, if_neg (by omega)]
  rw [e] at hP hD
  exact kk H1 locs1 ls hP hD hS hl
/-! ends -/
theorem z_iret (C : z_C X l G own cc nL R) {ym : MethodName} {post : Option Value → va_W → Prop} (E : z_E X ym (some .int) ce sl post) (d : decode cc pc = .ok (.ireturn, 1)) (h : post (some (z_i x)) ws) : z_J X ce sl ws L pc [z_i x] := by
  obtain ⟨p, l', e', R', s, m, args, below, meth, c, G', A, H0, Q, nn⟩ := X
  obtain ⟨hx, hb, hml, hown, hts, hK, hA, rfl, rfl, rfl, rfl⟩ := C
  obtain ⟨hr, hlk, hnm, rfl, wc, rfl, rfl⟩ := E
  intro H locs ls hP hD hS hl
  exact W.iret hx hb hr (fun t ht _ => ⟨⟨_, ws, rfl, h, by rw [ht]; exact hP, hD⟩, hS.F ht⟩) hS.2.2 d hlk
theorem z_zret (C : z_C X l G own cc nL R) {ym : MethodName} {post : Option Value → va_W → Prop} (E : z_E X ym (some .boolean) ce sl post) (hx1 : x = 0 ∨ x = 1) (d : decode cc pc = .ok (.ireturn, 1)) (h : post (some (z_i x)) ws) : z_J X ce sl ws L pc [z_i x] := by
  obtain ⟨p, l', e', R', s, m, args, below, meth, c, G', A, H0, Q, nn⟩ := X
  obtain ⟨hx, hb, hml, hown, hts, hK, hA, rfl, rfl, rfl, rfl⟩ := C
  obtain ⟨hr, hlk, hnm, rfl, wc, rfl, rfl⟩ := E
  intro H locs ls hP hD hS hl
  exact W.zret hx hb hr (by rcases hx1 with rfl | rfl <;> rfl) (fun t ht _ => ⟨⟨_, ws, rfl, h, by rw [ht]; exact hP, hD⟩, hS.F ht⟩) hS.2.2 d hlk
theorem z_lret (C : z_C X l G own cc nL R) {ym : MethodName} {post : Option Value → va_W → Prop} (E : z_E X ym (some .long) ce sl post) (d : decode cc pc = .ok (.lreturn, 1)) (h : post (some (.long v)) ws) : z_J X ce sl ws L pc [.long v] := by
  obtain ⟨p, l', e', R', s, m, args, below, meth, c, G', A, H0, Q, nn⟩ := X
  obtain ⟨hx, hb, hml, hown, hts, hK, hA, rfl, rfl, rfl, rfl⟩ := C
  obtain ⟨hr, hlk, hnm, rfl, wc, rfl, rfl⟩ := E
  intro H locs ls hP hD hS hl
  exact W.lret hx hb hr (fun t ht _ => ⟨⟨_, ws, rfl, h, by rw [ht]; exact hP, hD⟩, hS.F ht⟩) hS.2.2 d hlk
theorem z_vret (C : z_C X l G own cc nL R) {ym : MethodName} {post : Option Value → va_W → Prop} (E : z_E X ym none ce sl post) (d : decode cc pc = .ok (.return_, 1)) (h : post none ws) : z_J X ce sl ws L pc [] := by
  obtain ⟨p, l', e', R', s, m, args, below, meth, c, G', A, H0, Q, nn⟩ := X
  obtain ⟨hx, hb, hml, hown, hts, hK, hA, rfl, rfl, rfl, rfl⟩ := C
  obtain ⟨hr, hlk, hnm, rfl, wc, rfl, rfl⟩ := E
  intro H locs ls hP hD hS hl
  exact W.vret hx hb hr (fun t ht _ => ⟨⟨_, ws, rfl, h, by rw [ht]; exact hP, hD⟩, hS.F ht⟩) hS.2.2 d hlk
/-! calls -/
theorem z_callV (C : z_C X l G own cc nL R) {ym : MethodName} {cy : ByteArray} {ny n idx : Nat} {ret : Option FieldType} {rm : Room} {As : List Value} {wc w1 : va_W} {r : Option Value} {F : Prop} (M : z_M l G ym cy ny ret rm (.ref b :: As) wc 0 0 (fun v w => v = r ∧ w = w1 ∧ F)) (V : z_V ym cy ny ret n) (lk : Cond.methodLink own idx ym ∈ z_W) (d : decode cc pc = .ok (.invokevirtual idx, 3)) (is : List Nat) (hs : is.map (fun i => ws[i]?) = wc.map some) (hn : va_nd is = true) (hw : w1.map (fun q => q.1) = wc.map (fun q => q.1)) (hp : z_put ws is w1 = ws') (q : Nat) {ci : Nat} {fs : List Value} (hq : ws[q]? = some (b, z_o ci fs)) (hcn : (vwCl[ci]?).map (fun z => z.1) = some ym.cls) (hA1 : As.length = n) (rest : List Value) (hst : st = As.reverse ++ .ref b :: rest) (hW : (rest.map fun v => v.category).sum ≤ 8) (hR : rm.frames + 1 ≤ R.frames ∧ 8 + (ny + 11) + rm.locals ≤ R.locals) (hm0 : rm.cells = 0 ∧ rm.slots = 0) (hce : ce ≤ R.cells ∧ sl ≤ R.slots)
    (kk : F → z_J X ce sl ws' L (pc + 3) (r.toList ++ rest)) : z_J X ce sl ws L pc st := by
  obtain ⟨p, l', e', R', s, m, args, below, meth, c, G', A, H0, Q, nn⟩ := X
  obtain ⟨hx, hb, hml, hown, hts, hK, hA, rfl, rfl, rfl, rfl⟩ := C
  obtain ⟨v1, v2, v3, v4, v5, v6⟩ := V
  intro H locs ls hP hD hS hl
  subst hst
  subst hp
  have hPc : va_P G'.1 vwCl wc H := fun k z hz => by
    obtain ⟨i, -, hi⟩ := z_at hs k z hz
    exact hP i z hi
  have hDc : va_D A wc := hD.sub is hn hs
  obtain ⟨z, hz, hz1⟩ : ∃ z, vwCl[ci]? = some z ∧ z.1 = ym.cls := by
    cases hh : vwCl[ci]? with
    | none => rw [hh] at hcn; cases hcn
    | some z => rw [hh] at hcn; exact ⟨z, rfl, Option.some.inj hcn⟩
  have hrec := va_recv (s := s) hK.1 hP hz hq
  rw [hz1] at hrec
  have hrun := va_runV (H := H) (locs := locs) (cells := ce) (slots := sl) (below := below) (meth := meth) (p := p) (e := e') (As := As) (rest := rest) (b := b) (C := ym.cls) (cc := cc) (index := idx) (g := F0 m pc ls (As.reverse ++ .ref b :: rest)) ⟨hx, hb, hml, hown, hts⟩ (M H.size) ⟨z_callB (mc := 0) (ms := 0) hts v1 v2 v3 v4 lk hR hm0.1 hm0.2, hts _ v5, hts _ v6⟩ ⟨z_blind, hrec, fun U hU hW => ⟨rfl, by rw [hU], by rw [hU]; exact hPc, z_K.moved hW hK, hDc.weaken fun _ _ _ _ => trivial⟩⟩ rfl hA1 hl.1 rfl (lv_room hW) d ⟨hce.1, hce.2⟩
  refine z_go hP hD hS hA hrun is hs hn (fun v w h => ⟨w, [], by rw [List.append_nil], by rw [h.2.1]; exact hw⟩) (fun v w1' wn H1 locs1 hpo hw' hP hD hS => ?_)
  obtain ⟨rfl, e2, hF⟩ := hpo
  have hwn : wn = [] := by
    have h1 := congrArg List.length e2
    have h2 := congrArg List.length (hw'.trans hw.symm)
    simp only [List.length_append, List.length_map] at h1 h2
    exact List.length_eq_zero_iff.mp (by omega)
  subst hwn
  rw [List.append_nil] at e2 hP hD
  subst e2
  exact kk hF H1 locs1 ls hP hD hS hl
theorem z_callS (C : z_C X l G own cc nL R) {ym : MethodName} {cy : ByteArray} {ny n idx : Nat} {ret : Option FieldType} {rm : Room} {As : List Value} {wc w1 : va_W} {r : Option Value} {F : Prop} (M : z_M l G ym cy ny ret rm As wc 0 0 (fun v w => v = r ∧ w = w1 ∧ F)) (V : z_S ym cy ny ret n) (lk : Cond.methodLink own idx ym ∈ z_W) (d : decode cc pc = .ok (.invokestatic idx, 3)) (is : List Nat) (hs : is.map (fun i => ws[i]?) = wc.map some) (hn : va_nd is = true) (hw : w1.map (fun q => q.1) = wc.map (fun q => q.1)) (hp : z_put ws is w1 = ws') (hA1 : As.length = n) (rest : List Value) (hst : st = As.reverse ++ rest) (hW : (rest.map fun v => v.category).sum ≤ 8) (hR : rm.frames + 1 ≤ R.frames ∧ 8 + (ny + 11) + rm.locals ≤ R.locals) (hm0 : rm.cells = 0 ∧ rm.slots = 0) (hce : ce ≤ R.cells ∧ sl ≤ R.slots)
    (kk : F → z_J X ce sl ws' L (pc + 3) (r.toList ++ rest)) : z_J X ce sl ws L pc st := by
  obtain ⟨p, l', e', R', s, m, args, below, meth, c, G', A, H0, Q, nn⟩ := X
  obtain ⟨hx, hb, hml, hown, hts, hK, hA, rfl, rfl, rfl, rfl⟩ := C
  obtain ⟨v1, v2, v3, v4, v5⟩ := V
  intro H locs ls hP hD hS hl
  subst hst
  subst hp
  have hPc : va_P G'.1 vwCl wc H := fun k z hz => by
    obtain ⟨i, -, hi⟩ := z_at hs k z hz
    exact hP i z hi
  have hDc : va_D A wc := hD.sub is hn hs
  have hrun := va_runS (H := H) (locs := locs) (cells := ce) (slots := sl) (below := below) (meth := meth) (p := p) (e := e') (As := As) (rest := rest) (cc := cc) (index := idx) (g := F0 m pc ls (As.reverse ++ rest)) ⟨hx, hb, hml, hown, hts⟩ (M H.size) ⟨z_callB (mc := 0) (ms := 0) hts v1 v2 v3 v4 lk hR hm0.1 hm0.2, hts _ v5⟩ ⟨z_blind, fun U hU hW => ⟨rfl, by rw [hU], by rw [hU]; exact hPc, z_K.moved hW hK, hDc.weaken fun _ _ _ _ => trivial⟩⟩ rfl hA1 hl.1 rfl (lv_room hW) d ⟨hce.1, hce.2⟩
  refine z_go hP hD hS hA hrun is hs hn (fun v w h => ⟨w, [], by rw [List.append_nil], by rw [h.2.1]; exact hw⟩) (fun v w1' wn H1 locs1 hpo hw' hP hD hS => ?_)
  obtain ⟨rfl, e2, hF⟩ := hpo
  have hwn : wn = [] := by
    have h1 := congrArg List.length e2
    have h2 := congrArg List.length (hw'.trans hw.symm)
    simp only [List.length_append, List.length_map] at h1 h2
    exact List.length_eq_zero_iff.mp (by omega)
  subst hwn
  rw [List.append_nil] at e2 hP hD
  subst e2
  exact kk hF H1 locs1 ls hP hD hS hl
theorem z_callN (C : z_C X l G own cc nL R) {ym : MethodName} {cy : ByteArray} {ny n idx : Nat} {host : String} {ret : Option FieldType} {rm : Room} {As : List Value} {wc w1 : va_W} {r : Option Value} {F : Prop} (M : z_M l G ym cy ny ret rm As wc 0 0 (fun v w => v = r ∧ w = w1 ∧ F)) (V : z_S ym cy ny ret n) (lk : Cond.methodLinkNest own idx ym host ∈ z_nest) (d : decode cc pc = .ok (.invokestatic idx, 3)) (is : List Nat) (hs : is.map (fun i => ws[i]?) = wc.map some) (hn : va_nd is = true) (hw : w1.map (fun q => q.1) = wc.map (fun q => q.1)) (hp : z_put ws is w1 = ws') (hA1 : As.length = n) (rest : List Value) (hst : st = As.reverse ++ rest) (hW : (rest.map fun v => v.category).sum ≤ 8) (hR : rm.frames + 1 ≤ R.frames ∧ 8 + (ny + 11) + rm.locals ≤ R.locals) (hm0 : rm.cells = 0 ∧ rm.slots = 0) (hce : ce ≤ R.cells ∧ sl ≤ R.slots)
    (kk : F → z_J X ce sl ws' L (pc + 3) (r.toList ++ rest)) : z_J X ce sl ws L pc st := by
  obtain ⟨p, l', e', R', s, m, args, below, meth, c, G', A, H0, Q, nn⟩ := X
  obtain ⟨hx, hb, hml, hown, hts, hK, hA, rfl, rfl, rfl, rfl⟩ := C
  obtain ⟨v1, v2, v3, v4, v5⟩ := V
  intro H locs ls hP hD hS hl
  subst hst
  subst hp
  have hPc : va_P G'.1 vwCl wc H := fun k z hz => by
    obtain ⟨i, -, hi⟩ := z_at hs k z hz
    exact hP i z hi
  have hDc : va_D A wc := hD.sub is hn hs
  have hlk := va_Nw.use (A := args) rfl (hK.2 _ lk)
  have hsig : ∀ sig, parseMethodDescriptor ym.desc = some sig → n = sig.parameters.length := fun sig h => by
    rw [h] at v4
    exact (Option.some.inj v4).symm
  have hrun := va_runSN (H := H) (locs := locs) (cells := ce) (slots := sl) (below := below) (meth := meth) (p := p) (e := e') (As := As) (rest := rest) (cc := cc) (index := idx) (g := F0 m pc ls (As.reverse ++ rest)) (n := n) (mc := 0) (ms := 0) (bytes := cy) (maxL := ny) (ret := ret) (host := host) ⟨hx, hb, hml, hown, hts⟩ (M H.size) ⟨⟨⟨hm0.1, hm0.2, hR.1, hR.2, z_pay hts v1, List.mem_cons_self⟩, hts _ v1, hts _ v2, v3, hsig, hlk⟩, hts _ v5, trivial⟩ ⟨z_blind, fun U hU hW => ⟨rfl, by rw [hU], by rw [hU]; exact hPc, z_K.moved hW hK, hDc.weaken fun _ _ _ _ => trivial⟩⟩ rfl hA1 hl.1 rfl (lv_room hW) d ⟨hce.1, hce.2⟩
  refine z_go hP hD hS hA hrun is hs hn (fun v w h => ⟨w, [], by rw [List.append_nil], by rw [h.2.1]; exact hw⟩) (fun v w1' wn H1 locs1 hpo hw' hP hD hS => ?_)
  obtain ⟨rfl, e2, hF⟩ := hpo
  have hwn : wn = [] := by
    have h1 := congrArg List.length e2
    have h2 := congrArg List.length (hw'.trans hw.symm)
    simp only [List.length_append, List.length_map] at h1 h2
    exact List.length_eq_zero_iff.mp (by omega)
  subst hwn
  rw [List.append_nil] at e2 hP hD
  subst e2
  exact kk hF H1 locs1 ls hP hD hS hl
end
