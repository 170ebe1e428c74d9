/-! the JDK's members that the class uses; switches -/
section ZI
variable {g : zGt} {X : zX} {cc : ByteArray} {y : MethodName} {ret : Option FieldType} {tb : List (Nat × Nat × Nat × Nat)} {nl d mc ms : Nat} {Post : zRes → zG → Prop} {pc : Nat} {zl : List (Option Value)} {st : List Value} {G : zG} {k n idx : Nat}
def zmax (x z : Int32) : Int32 := if x < z then z else x
def zmin (x z : Int32) : Int32 := if z < x then z else x
theorem zr_mmax (hX : zOK g X cc y ret tb nl d mc ms) {x z : Int32} (hw : Cond.methodLink y.cls idx Lib.Math.max.name ∈ zTW) (hw2 : Cond.static Lib.Math.max.name ∈ zTW) (hw3 : Cond.initialized "java/lang/Math" ∈ zTW) (hw4 : Cond.code Lib.Math.max.name Lib.Math.max.code 2 (some .int) ∈ zTW) (hwt : (st.map fun v => v.category).sum ≤ 12) (hd1 : 1 ≤ d) (hd : decode cc pc = .ok (.invokestatic idx, 3)) (kk : zw g X Post (pc + 3) zl (.int (zmax x z) :: st) G k n) : zw g X Post pc zl (.int z :: .int x :: st) G k n := by
  obtain ⟨p, e, R, s, m, args, below, meth, c, A, nL⟩ := X
  intro H locs L hR hS hL hk hn
  exact va_mmax hX.ex hX.cd (by rw [hX.ml, hL.size]) hX.ow (hX.wk hw rfl) (hX.wk hw2 rfl) (hX.wk hw3 rfl) (hX.wk hw4 rfl) (by rw [hX.rm]; exact hd1) (by rw [hX.rm]; show _ ≤ 64 * d; omega) hk hn hd (kk H locs L hR hS hL hk hn)
theorem zr_mmin (hX : zOK g X cc y ret tb nl d mc ms) {x z : Int32} (hw : Cond.methodLink y.cls idx Lib.Math.min.name ∈ zTW) (hw2 : Cond.static Lib.Math.min.name ∈ zTW) (hw3 : Cond.initialized "java/lang/Math" ∈ zTW) (hw4 : Cond.code Lib.Math.min.name Lib.Math.min.code 2 (some .int) ∈ zTW) (hwt : (st.map fun v => v.category).sum ≤ 12) (hd1 : 1 ≤ d) (hd : decode cc pc = .ok (.invokestatic idx, 3)) (kk : zw g X Post (pc + 3) zl (.int (zmin x z) :: st) G k n) : zw g X Post pc zl (.int z :: .int x :: st) G k n := by
  obtain ⟨p, e, R, s, m, args, below, meth, c, A, nL⟩ := X
  intro H locs L hR hS hL hk hn
  exact va_mmin hX.ex hX.cd (by rw [hX.ml, hL.size]) hX.ow (hX.wk hw rfl) (hX.wk hw2 rfl) (hX.wk hw3 rfl) (hX.wk hw4 rfl) (by rw [hX.rm]; exact hd1) (by rw [hX.rm]; show _ ≤ 64 * d; omega) hk hn hd (kk H locs L hR hS hL hk hn)
theorem zr_objInit (hX : zOK g X cc y ret tb nl d mc ms) {a : Nat} (hw : Cond.methodLink y.cls idx Lib.objectInit ∈ zTW) (hw2 : Cond.instanceMethod Lib.objectInit ∈ zTW) (hw3 : Cond.code Lib.objectInit ⟨#[0xb1]⟩ 1 none ∈ zTW) (hwt : (st.map fun v => v.category).sum ≤ 12) (hd1 : 1 ≤ d) (hd : decode cc pc = .ok (.invokespecial idx, 3)) (kk : zw g X Post (pc + 3) zl st G k n) : zw g X Post pc zl (.ref a :: st) G k n := by
  obtain ⟨p, e, R, s, m, args, below, meth, c, A, nL⟩ := X
  intro H locs L hR hS hL hk hn
  exact W.objInit hX.ex hX.cd hX.ow (hX.wk hw rfl) (hX.wk hw2 rfl) (hX.wk hw3 rfl) rfl (by rw [hX.ml]; exact hL.size) rfl hd (by rw [hX.rm]; exact hd1) (by rw [hX.rm]; show 2 * 0 + _ + 12 ≤ 64 * d; omega) (kk H locs L hR hS hL hk hn)
theorem zr_anew (hX : zOK g X cc y ret tb nl d mc ms) {N t : Nat} {i : Int32} {C : String} (hw1 : Cond.classLink y.cls idx C ∈ zTW) (hw2 : Cond.arrayOver (.object C) ∈ zTW) (ht : (zty (ztc g))[t]? = some (ztc g t, .object C)) (ht6 : t < 6) (hi : ¬ i < 0) (hN : i.toNatClampNeg = N) (hb : N * 4 ≤ 536870912) (hk1 : k + 1 ≤ mc) (hn1 : n + N ≤ ms) (hd : decode cc pc = .ok (.anewarray idx, 3))
    (kk : ∀ q : Nat, G q = none → zw g X Post (pc + 3) zl (.ref q :: st) (zput G q (zR t N (fun _ => none))) (k + 1) (n + N)) : zw g X Post pc zl (.int i :: st) G k n := by
  obtain ⟨p, e, R, s, m, args, below, meth, c, A, nL⟩ := X
  intro H locs L hR hS hL hk hn
  obtain ⟨ws, h1, h2, h3, h4⟩ := hR
  have hrm := hX.rm
  have c1 : k + 1 ≤ R.cells := by rw [hrm]; exact hk1
  have c2 : n + N ≤ R.slots := by rw [hrm]; exact hn1
  refine va_newq (D := zD g) (cl := zcl) (tys := zty (ztc g)) (C := C) hX.ex hX.cd hX.ow (hX.wk hw1 rfl) (va_AO.moved hX.af.1.alike (hX.gl.1 _ hw2)) hX.K h1 h2 hS hX.hA hi hN hb c1 c2 hd (fun q cA H1 pK p1 p2 p3 => ?_)
  have e1 : cA = ztc g t := by
    obtain ⟨-, kA, comp, r1, r2, r3, r4⟩ := pK.2 6 (cA, .object C) rfl
    obtain ⟨-, kB, comp2, b1, b2, b3, b4⟩ := hX.K.2 t (ztc g t, .object C) ht
    exact Option.some.inj (r4.symm.trans b4)
  subst e1
  obtain ⟨g1, g2⟩ := zRep_push (c' := zR t N (fun _ => none)) h3 h4 p1 p2
  exact kk q g1 H1 locs L g2 p3 hL c1 c2
/-- long[].clone(), and the cast behind it -/
theorem zr_cloneJ (hX : zOK g X cc y ret tb nl d mc ms) {a N ic : Nat} {f : Nat → Int64} (hG : G a = some (zJ N f)) (hw : Cond.methodLink y.cls idx ⟨"[J", "clone", "()Ljava/lang/Object;"⟩ ∈ zTW) (hw2 : Cond.sameMethod "[J" "java/lang/Object" "clone" "()Ljava/lang/Object;" ∈ zTW) (hw3 : Cond.native ⟨"java/lang/Object", "clone", "()Ljava/lang/Object;"⟩ ∈ zTW) (hw4 : Cond.instanceMethod ⟨"java/lang/Object", "clone", "()Ljava/lang/Object;"⟩ ∈ zTW)
    (hw5 : Cond.selects "[J" ⟨"[J", "clone", "()Ljava/lang/Object;"⟩ ⟨"java/lang/Object", "clone", "()Ljava/lang/Object;"⟩ ∈ zTW) (hw6 : Cond.castable "[J" "java/lang/Cloneable" ∈ zTW) (hw7 : Cond.classLink y.cls ic "[J" ∈ zTW) (hwt : (st.map fun v => v.category).sum ≤ 12) (hd1 : 1 ≤ d) (hk1 : k + 1 ≤ mc) (hn1 : n + N ≤ ms) (hd : decode cc pc = .ok (.invokevirtual idx, 3)) (hd3 : decode cc (pc + 3) = .ok (.checkcast ic, 3))
    (kk : ∀ q : Nat, G q = none → zw g X Post (pc + 6) zl (.ref q :: st) (zput G q (zJ N f)) (k + 1) (n + N)) : zw g X Post pc zl (.ref a :: st) G k n := by
  obtain ⟨p, e, R, s, m, args, below, meth, c, A, nL⟩ := X
  intro H locs L hR hS hL hk hn
  obtain ⟨ws, h1, h2, h3, h4⟩ := hR
  obtain ⟨q0, hq⟩ := h3 a _ hG
  have hrm := hX.rm
  have c1 : k + 1 ≤ R.cells := by rw [hrm]; exact hk1
  have c2 : n + N ≤ R.slots := by rw [hrm]; exact hn1
  have hnm : s.vm.findClass "[J" = some (ztc g 2) := (hX.K.2 2 (ztc g 2, .long) rfl).2
  refine va_clone (D := zD g) (cl := zcl) (tys := zty (ztc g)) (ad := "[J") (x := (N, .inr (.inl f))) (ty := .long) hX.ex hX.cd (by rw [hX.ml, hL.size]) hX.ow (hX.wk hw rfl) (hX.wk hw2 rfl) (hX.wk hw3 rfl) (hX.wk hw4 rfl) (hX.wk hw5 rfl) (va_Nw.warmC hX.af.1 (va_Nw.of rfl (hX.gl.1 _ hw6))) hX.K h1 h2 hS hX.hA q0 2 hq rfl hnm
    (va_fit (fun i _ => rfl)) (by rw [hrm]; exact hd1) (by rw [hrm]; show _ ≤ 64 * d; omega) c1 c2 hd (fun q H1 pK p1 p2 p3 => ?_)
  have hlast : (ws ++ [(q, .inl (ztc g 2, N, .inr (.inl f)))])[ws.length]? = some (q, .inl (ztc g 2, N, .inr (.inl f))) := by
    rw [List.getElem?_append_right (Nat.le_refl _), Nat.sub_self]
    rfl
  obtain ⟨g1, g2⟩ := zRep_push (c' := zJ N f) h3 h4 p1 p2
  exact va_castA hX.ex hX.cd hX.ow (hX.wk hw7 rfl) p1 ws.length hlast hnm hd3 (kk q g1 H1 locs L g2 p3 hL c1 c2)
/-- System.arraycopy between two different long[] -/
theorem zr_copyJ (hX : zOK g X cc y ret tb nl d mc ms) {a b N M : Nat} {f f2 : Nat → Int64} {sp dp len : Int32} (hG : G a = some (zJ N f)) (hG2 : G b = some (zJ M f2)) (h1 : ¬ sp < 0) (h2 : ¬ dp < 0) (h3 : ¬ len < 0) (h4 : sp.toNatClampNeg + len.toNatClampNeg ≤ N) (h5 : dp.toNatClampNeg + len.toNatClampNeg ≤ M)
    (hw : Cond.methodLink y.cls idx arraycopyName ∈ zTW) (hw2 : Cond.native arraycopyName ∈ zTW) (hw3 : Cond.static arraycopyName ∈ zTW) (hw4 : Cond.initialized "java/lang/System" ∈ zTW) (hwt : (st.map fun v => v.category).sum ≤ 12) (hd1 : 2 ≤ d) (hd : decode cc pc = .ok (.invokestatic idx, 3))
    (kk : zw g X Post (pc + 3) zl st (zput G b (zJ M (va_cpy f f2 sp.toNatClampNeg dp.toNatClampNeg len.toNatClampNeg))) k n) : zw g X Post pc zl (.int len :: .int dp :: .ref b :: .int sp :: .ref a :: st) G k n := by
  obtain ⟨p, e, R, s, m, args, below, meth, c, A, nL⟩ := X
  intro H locs L hR hS hL hk hn
  obtain ⟨ws, w1, w2, w3, w4⟩ := hR
  obtain ⟨q0, hq0⟩ := w3 a _ hG
  obtain ⟨q1, hq1⟩ := w3 b _ hG2
  have hrm := hX.rm
  have f1 : 1 ≤ R.frames := by rw [hrm]; show 1 ≤ d; omega
  have f3 : nativeFrameWords "java/lang/System" "arraycopy" 5 ≤ 80 := by decide +kernel
  have f4 : (st.map fun v => v.category).sum + (nativeFrameWords "java/lang/System" "arraycopy" 5 + 11) ≤ R.locals := by rw [hrm]; show _ ≤ 64 * d; omega
  exact va_copyl (D := zD g) (cl := zcl) (tys := zty (ztc g)) (ty := .long) hX.ex hX.cd (by rw [hX.ml, hL.size]) hX.ow (hX.wk hw rfl) (hX.wk hw2 rfl) (hX.wk hw3 rfl) (hX.wk hw4 rfl) hX.K w1 w2 hS q0 q1 2 2 hq0 hq1 rfl rfl rfl h1 h2 h3 h4 h5 (fun i _ => rfl) f1 f4 hd (fun H1 locs1 p1 p2 p3 => kk H1 locs1 L (zRep_set (c' := zJ M (va_cpy f f2 sp.toNatClampNeg dp.toNatClampNeg len.toNatClampNeg)) w2 w3 w4 hq1 p1 p2) p3 hL hk hn)
/-- a switch over 0 .. N: by the number -/
theorem zr_tabN (hX : zOK g X cc y ret tb nl d mc ms) {dflt hi : Int} {offs : Array Int} {len : Nat} {x : Int32} (hd : decode cc pc = .ok (.tableswitch dflt 0 hi offs, len)) (j : Nat) {off : Int} {tgt : Nat} (hx : x = nI j) (hj : j < 2 ^ 31) (hjh : (j : Int) ≤ hi) (ho : offs[j]? = some off) (ht : (pc : Int) + off = (tgt : Int)) (kk : zw g X Post tgt zl st G k n) : zw g X Post pc zl (.int x :: st) G k n := by
  have e1 : x.toInt = (j : Int) := by rw [hx, nI_toInt hj]
  refine zr_tabIn hX (tgt := tgt) (off := off) hd (by rw [e1]; omega) (by rw [e1]; omega) ?_ ht kk
  rw [e1, show ((j : Int) - 0).toNat = j by omega]
  exact ho
theorem zr_tabD (hX : zOK g X cc y ret tb nl d mc ms) {dflt hi : Int} {offs : Array Int} {len : Nat} {x : Int32} (hd : decode cc pc = .ok (.tableswitch dflt 0 hi offs, len)) {tgt : Nat} {z : Int32} (hz : z.toInt = hi) (h : x < 0 ∨ z < x) (ht : (pc : Int) + dflt = (tgt : Int)) (kk : zw g X Post tgt zl st G k n) : zw g X Post pc zl (.int x :: st) G k n := by
  refine zr_tabOut hX (tgt := tgt) hd ?_ ht kk
  rcases h with h | h
  · exact Or.inl (by simpa using Int32.lt_iff_toInt_lt.mp h)
  · exact Or.inr (by rw [← hz]; exact Int32.lt_iff_toInt_lt.mp h)
end ZI
