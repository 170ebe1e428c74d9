/-! rows that read and write the heap -/
theorem u_ws_good {C : String} {T : u_T} {N : Nat} {w : Cond} (h : w ∈ u_ws C T N) : (w.onTables && w.keeps) = true := by
  obtain ⟨k, -, rfl⟩ := List.mem_map.mp h
  unfold u_lay
  split <;> rfl
/-- class ci of zcl: its name, fields, how many, their types; what the tables say of it -/
def zCl (ci : Nat) (C : String) (T : u_T) (N : Nat) (ty : Nat → FieldType) : Prop := zcl[ci]? = some (C, T, N) ∧ (∀ w ∈ u_ws C T N, w ∈ zTW) ∧ (∀ k, k < N → parseFieldDescriptor (T k).2.2.1 = some (ty k)) ∧ (∀ a, a < N → ∀ b, b < N → a ≠ b → (T a).2.1 ≠ (T b).2.1)
section ZH
variable {g : zGt} {X : zX} {cc : ByteArray} {y : MethodName} {ret : Option FieldType} {tb : List (Nat × Nat × Nat × Nat)} {nl d mc ms : Nat} {Post : zRes → zG → Prop} {pc : Nat} {zl : List (Option Value)} {st : List Value} {G : zG} {k n : Nat}
theorem zr_get (hX : zOK g X cc y ret tb nl d mc ms) {ci N a idx : Nat} {C : String} {T : u_T} {ty : Nat → FieldType} {fs : List Value} {v : Value} (hC : zCl ci C T N ty) (j : Nat) (hj : j < N) (hw : Cond.fieldLink y.cls idx C (T j).2.1 (T j).2.2.1 ∈ zTW) (ho : (T j).1 = C) (hG : G a = some (zO ci fs)) (hv : fs[j]? = some v) (hd : decode cc pc = .ok (.getfield idx, 3))
    (kk : zw g X Post (pc + 3) zl (v :: st) G k n) : zw g X Post pc zl (.ref a :: st) G k n := by
  obtain ⟨p, e, R, s, m, args, below, meth, c, A, nL⟩ := X
  intro H locs L hR hS hL hk hn
  obtain ⟨ws, h1, h2, h3, h4⟩ := hR
  obtain ⟨q, hq⟩ := h3 a _ hG
  exact va_get (D := zD g) (Ts := u_ws C T N) hX.ex hX.cd (fun w h => hX.wk (hC.2.1 w h) (u_ws_good h)) (fun w h => h) hX.ow hX.K h1 q hq hC.1 j hj (hX.wk hw rfl) (by rw [ho]; exact fun _ h => h) hv hd (kk H locs L ⟨ws, h1, h2, h3, h4⟩ hS hL hk hn)
theorem zr_put (hX : zOK g X cc y ret tb nl d mc ms) {ci N a idx : Nat} {C : String} {T : u_T} {ty : Nat → FieldType} {fs : List Value} {v : Value} (hC : zCl ci C T N ty) (j : Nat) (hj : j < N) (hw : Cond.fieldLink y.cls idx C (T j).2.1 (T j).2.2.1 ∈ zTW) (ho : (T j).1 = C) (hf : (T j).2.2.2 = false) (hn1 : narrow (ty j) v = v) (hn2 : fits (ty j) v = true) (hl : j < fs.length) (hG : G a = some (zO ci fs)) (hd : decode cc pc = .ok (.putfield idx, 3))
    (kk : zw g X Post (pc + 3) zl st (zput G a (zO ci (fs.set j v))) k n) : zw g X Post pc zl (v :: .ref a :: st) G k n := by
  obtain ⟨p, e, R, s, m, args, below, meth, c, A, nL⟩ := X
  intro H locs L hR hS hL hk hn
  obtain ⟨ws, h1, h2, h3, h4⟩ := hR
  obtain ⟨q, hq⟩ := h3 a _ hG
  exact va_put (D := zD g) (Ts := u_ws C T N) hX.ex hX.cd (fun w h => hX.wk (hC.2.1 w h) (u_ws_good h)) (fun w h => h) ty hC.2.2.1 hC.2.2.2 hX.ow hX.K h1 h2 hS q hq hC.1 j hj (hX.wk hw rfl) (by rw [ho]; exact fun _ h => h) hf (hC.2.2.1 j hj) hn1 hn2 hl hd
    (fun H1 locs1 p1 p2 p3 => kk H1 locs1 L (zRep_set (c' := zO ci (fs.set j v)) h2 h3 h4 hq p1 p2) p3 hL hk hn)
theorem zr_putF (hX : zOK g X cc y ret tb nl d mc ms) {ci N a idx : Nat} {C : String} {T : u_T} {ty : Nat → FieldType} {fs : List Value} {v : Value} (hC : zCl ci C T N ty) (j : Nat) (hj : j < N) (hw : Cond.fieldLink y.cls idx C (T j).2.1 (T j).2.2.1 ∈ zTW) (ho : (T j).1 = C) (hf : (T j).2.2.2 = true) (hi : y.name = "<init>") (hoo : C = y.cls) (hn1 : narrow (ty j) v = v) (hn2 : fits (ty j) v = true) (hl : j < fs.length) (hG : G a = some (zO ci fs)) (hd : decode cc pc = .ok (.putfield idx, 3))
    (kk : zw g X Post (pc + 3) zl st (zput G a (zO ci (fs.set j v))) k n) : zw g X Post pc zl (v :: .ref a :: st) G k n := by
  obtain ⟨p, e, R, s, m, args, below, meth, c, A, nL⟩ := X
  intro H locs L hR hS hL hk hn
  obtain ⟨ws, h1, h2, h3, h4⟩ := hR
  obtain ⟨q, hq⟩ := h3 a _ hG
  exact va_putF (D := zD g) (Ts := u_ws C T N) hX.ex hX.cd (fun w h => hX.wk (hC.2.1 w h) (u_ws_good h)) (fun w h => h) ty hC.2.2.1 hC.2.2.2 hX.ow hX.K h1 h2 hS q hq hC.1 j hj (hX.wk hw rfl) (by rw [ho]; exact fun _ h => h) hf (hX.nm.trans hi) (ho.trans hoo) (hC.2.2.1 j hj) hn1 hn2 hl hd
    (fun H1 locs1 p1 p2 p3 => kk H1 locs1 L (zRep_set (c' := zO ci (fs.set j v)) h2 h3 h4 hq p1 p2) p3 hL hk hn)
theorem zr_iald (hX : zOK g X cc y ret tb nl d mc ms) {a N : Nat} {f : Nat → Int32} {i : Int32} (hG : G a = some (zI N f)) (hi : vp_in i N) (hd : decode cc pc = .ok (.iaload, 1)) (kk : zw g X Post (pc + 1) zl (.int (f i.toNatClampNeg) :: st) G k n) : zw g X Post pc zl (.int i :: .ref a :: st) G k n := by
  obtain ⟨p, e, R, s, m, args, below, meth, c, A, nL⟩ := X
  intro H locs L hR hS hL hk hn
  obtain ⟨ws, h1, h2, h3, h4⟩ := hR
  obtain ⟨q, hq⟩ := h3 a _ hG
  exact va_iald (tys := zty (ztc g)) hX.ex hX.cd hX.K h1 q 0 hq rfl hi hd (kk H locs L ⟨ws, h1, h2, h3, h4⟩ hS hL hk hn)
theorem zr_zald (hX : zOK g X cc y ret tb nl d mc ms) {a N : Nat} {f : Nat → Int32} {i : Int32} (hG : G a = some (zB N f)) (hi : vp_in i N) (hd : decode cc pc = .ok (.baload, 1)) (kk : zw g X Post (pc + 1) zl (.int (f i.toNatClampNeg) :: st) G k n) : zw g X Post pc zl (.int i :: .ref a :: st) G k n := by
  obtain ⟨p, e, R, s, m, args, below, meth, c, A, nL⟩ := X
  intro H locs L hR hS hL hk hn
  obtain ⟨ws, h1, h2, h3, h4⟩ := hR
  obtain ⟨q, hq⟩ := h3 a _ hG
  exact va_zald (tys := zty (ztc g)) hX.ex hX.cd hX.K h1 q 1 hq rfl hi hd (kk H locs L ⟨ws, h1, h2, h3, h4⟩ hS hL hk hn)
theorem zr_lald (hX : zOK g X cc y ret tb nl d mc ms) {a N : Nat} {f : Nat → Int64} {i : Int32} (hG : G a = some (zJ N f)) (hi : vp_in i N) (hd : decode cc pc = .ok (.laload, 1)) (kk : zw g X Post (pc + 1) zl (.long (f i.toNatClampNeg) :: st) G k n) : zw g X Post pc zl (.int i :: .ref a :: st) G k n := by
  obtain ⟨p, e, R, s, m, args, below, meth, c, A, nL⟩ := X
  intro H locs L hR hS hL hk hn
  obtain ⟨ws, h1, h2, h3, h4⟩ := hR
  obtain ⟨q, hq⟩ := h3 a _ hG
  exact va_lald (tys := zty (ztc g)) hX.ex hX.cd hX.K h1 q 2 hq rfl hi hd (kk H locs L ⟨ws, h1, h2, h3, h4⟩ hS hL hk hn)
/-- an array of references: t its kind (3, 4, 5) -/
theorem zr_aald (hX : zOK g X cc y ret tb nl d mc ms) {a t N : Nat} {C : String} {f : Nat → Option Nat} {i : Int32} (ht : (zty (ztc g))[t]? = some (ztc g t, .object C)) (hG : G a = some (zR t N f)) (hi : vp_in i N) (hd : decode cc pc = .ok (.aaload, 1)) (kk : zw g X Post (pc + 1) zl (va_rf (f i.toNatClampNeg) :: st) G k n) : zw g X Post pc zl (.int i :: .ref a :: st) G k n := by
  obtain ⟨p, e, R, s, m, args, below, meth, c, A, nL⟩ := X
  intro H locs L hR hS hL hk hn
  obtain ⟨ws, h1, h2, h3, h4⟩ := hR
  obtain ⟨q, hq⟩ := h3 a _ hG
  exact va_aldq (tys := zty (ztc g)) hX.ex hX.cd hX.K h1 q t hq ht hi hd (kk H locs L ⟨ws, h1, h2, h3, h4⟩ hS hL hk hn)
theorem zr_iast (hX : zOK g X cc y ret tb nl d mc ms) {a N : Nat} {f : Nat → Int32} {i x : Int32} (hG : G a = some (zI N f)) (hi : vp_in i N) (hd : decode cc pc = .ok (.iastore, 1)) (kk : zw g X Post (pc + 1) zl st (zput G a (zI N (upd f i.toNatClampNeg x))) k n) : zw g X Post pc zl (.int x :: .int i :: .ref a :: st) G k n := by
  obtain ⟨p, e, R, s, m, args, below, meth, c, A, nL⟩ := X
  intro H locs L hR hS hL hk hn
  obtain ⟨ws, h1, h2, h3, h4⟩ := hR
  obtain ⟨q, hq⟩ := h3 a _ hG
  exact va_iast (tys := zty (ztc g)) hX.ex hX.cd hX.K h1 h2 hS q 0 hq rfl hi hd (fun H1 locs1 p1 p2 p3 => kk H1 locs1 L (zRep_set (c' := zI N (upd f i.toNatClampNeg x)) h2 h3 h4 hq p1 p2) p3 hL hk hn)
theorem zr_zast (hX : zOK g X cc y ret tb nl d mc ms) {a N : Nat} {f : Nat → Int32} {i x : Int32} (hG : G a = some (zB N f)) (hi : vp_in i N) (hd : decode cc pc = .ok (.bastore, 1)) (kk : zw g X Post (pc + 1) zl st (zput G a (zB N (upd f i.toNatClampNeg (vp_nar .boolean x)))) k n) : zw g X Post pc zl (.int x :: .int i :: .ref a :: st) G k n := by
  obtain ⟨p, e, R, s, m, args, below, meth, c, A, nL⟩ := X
  intro H locs L hR hS hL hk hn
  obtain ⟨ws, h1, h2, h3, h4⟩ := hR
  obtain ⟨q, hq⟩ := h3 a _ hG
  exact va_zast (tys := zty (ztc g)) hX.ex hX.cd hX.K h1 h2 hS q 1 hq rfl hi hd (fun H1 locs1 p1 p2 p3 => kk H1 locs1 L (zRep_set (c' := zB N (upd f i.toNatClampNeg (vp_nar .boolean x))) h2 h3 h4 hq p1 p2) p3 hL hk hn)
theorem zr_last (hX : zOK g X cc y ret tb nl d mc ms) {a N : Nat} {f : Nat → Int64} {i : Int32} {x : Int64} (hG : G a = some (zJ N f)) (hi : vp_in i N) (hd : decode cc pc = .ok (.lastore, 1)) (kk : zw g X Post (pc + 1) zl st (zput G a (zJ N (vp_updL f i.toNatClampNeg x))) k n) : zw g X Post pc zl (.long x :: .int i :: .ref a :: st) G k n := by
  obtain ⟨p, e, R, s, m, args, below, meth, c, A, nL⟩ := X
  intro H locs L hR hS hL hk hn
  obtain ⟨ws, h1, h2, h3, h4⟩ := hR
  obtain ⟨q, hq⟩ := h3 a _ hG
  exact va_last (tys := zty (ztc g)) hX.ex hX.cd hX.K h1 h2 hS q 2 hq rfl hi hd (fun H1 locs1 p1 p2 p3 => kk H1 locs1 L (zRep_set (c' := zJ N (vp_updL f i.toNatClampNeg x)) h2 h3 h4 hq p1 p2) p3 hL hk hn)
theorem zr_aast (hX : zOK g X cc y ret tb nl d mc ms) {a t N v ci M : Nat} {C : String} {T : u_T} {f : Nat → Option Nat} {vs : List Value} {i : Int32} (hc : zcl[ci]? = some (C, T, M)) (ht : (zty (ztc g))[t]? = some (ztc g t, .object C)) (hG : G a = some (zR t N f)) (hV : G v = some (zO ci vs)) (hi : vp_in i N) (hd : decode cc pc = .ok (.aastore, 1)) (kk : zw g X Post (pc + 1) zl st (zput G a (zR t N (va_up f i.toNatClampNeg (some v)))) k n) : zw g X Post pc zl (.ref v :: .int i :: .ref a :: st) G k n := by
  obtain ⟨p, e, R, s, m, args, below, meth, c, A, nL⟩ := X
  intro H locs L hR hS hL hk hn
  obtain ⟨ws, h1, h2, h3, h4⟩ := hR
  obtain ⟨q, hq⟩ := h3 a _ hG
  obtain ⟨q2, hq2⟩ := h3 v _ hV
  exact va_astq (tys := zty (ztc g)) hX.ex hX.cd hX.K h1 h2 hS q t q2 ci hq ht hq2 hc hi hd (fun H1 locs1 p1 p2 p3 => kk H1 locs1 L (zRep_set (c' := zR t N (va_up f i.toNatClampNeg (some v))) h2 h3 h4 hq p1 p2) p3 hL hk hn)
theorem zr_ilen (hX : zOK g X cc y ret tb nl d mc ms) {a N : Nat} {f : Nat → Int32} (hG : G a = some (zI N f)) (hd : decode cc pc = .ok (.arraylength, 1)) (kk : zw g X Post (pc + 1) zl (.int (Int32.ofNat N) :: st) G k n) : zw g X Post pc zl (.ref a :: st) G k n := by
  obtain ⟨p, e, R, s, m, args, below, meth, c, A, nL⟩ := X
  intro H locs L hR hS hL hk hn
  obtain ⟨ws, h1, h2, h3, h4⟩ := hR
  obtain ⟨q, hq⟩ := h3 a _ hG
  exact va_alen (tys := zty (ztc g)) hX.ex hX.cd hX.K h1 q 0 hq rfl rfl hd (kk H locs L ⟨ws, h1, h2, h3, h4⟩ hS hL hk hn)
theorem zr_llen (hX : zOK g X cc y ret tb nl d mc ms) {a N : Nat} {f : Nat → Int64} (hG : G a = some (zJ N f)) (hd : decode cc pc = .ok (.arraylength, 1)) (kk : zw g X Post (pc + 1) zl (.int (Int32.ofNat N) :: st) G k n) : zw g X Post pc zl (.ref a :: st) G k n := by
  obtain ⟨p, e, R, s, m, args, below, meth, c, A, nL⟩ := X
  intro H locs L hR hS hL hk hn
  obtain ⟨ws, h1, h2, h3, h4⟩ := hR
  obtain ⟨q, hq⟩ := h3 a _ hG
  exact va_alen (tys := zty (ztc g)) hX.ex hX.cd hX.K h1 q 2 hq rfl rfl hd (kk H locs L ⟨ws, h1, h2, h3, h4⟩ hS hL hk hn)
theorem zr_new (hX : zOK g X cc y ret tb nl d mc ms) {ci N idx : Nat} {C : String} {T : u_T} {ty : Nat → FieldType} {fs : List Value} (hC : zCl ci C T N ty) (hw1 : Cond.classLink y.cls idx C ∈ zTW) (hw2 : Cond.instantiable C N ∈ zTW) (hw3 : Cond.initialized C ∈ zTW) (hfs : ∀ j, j < N → defaultValue (ty j) = vp_V fs j) (hk1 : k + 1 ≤ mc) (hn1 : n + N ≤ ms) (hd : decode cc pc = .ok (.new idx, 3))
    (kk : ∀ q : Nat, G q = none → zw g X Post (pc + 3) zl (.ref q :: st) (zput G q (zO ci fs)) (k + 1) (n + N)) : zw g X Post pc zl st G k n := by
  obtain ⟨p, e, R, s, m, args, below, meth, c, A, nL⟩ := X
  intro H locs L hR hS hL hk hn
  obtain ⟨ws, h1, h2, h3, h4⟩ := hR
  have hrm := hX.rm
  have c1 : k + 1 ≤ R.cells := by rw [hrm]; exact hk1
  have c2 : n + N ≤ R.slots := by rw [hrm]; exact hn1
  exact va_new (D := zD g) (Ts := u_ws C T N) (tys := zty (ztc g)) hX.ex hX.cd (fun w h => hX.wk (hC.2.1 w h) (u_ws_good h)) (fun w h => h) ty hC.2.2.1 hX.ow (hX.wk hw1 rfl) (hX.wk hw2 rfl) (hX.wk hw3 rfl) hX.K h1 h2 hS hX.hA hC.1 hfs c1 c2 hd
    (fun q H1 p1 p2 p3 => by
      obtain ⟨g1, g2⟩ := zRep_push (c' := zO ci fs) h3 h4 p1 p2
      exact kk q g1 H1 locs L g2 p3 hL c1 c2)
theorem zr_newI (hX : zOK g X cc y ret tb nl d mc ms) {N : Nat} {i : Int32} (hw : Cond.arrayClass .int ∈ zTW) (hi : ¬ i < 0) (hN : i.toNatClampNeg = N) (hb : N * 4 ≤ 536870912) (hk1 : k + 1 ≤ mc) (hn1 : n + N ≤ ms) (hd : decode cc pc = .ok (.newarray .int, 2))
    (kk : ∀ q : Nat, G q = none → zw g X Post (pc + 2) zl (.ref q :: st) (zput G q (zI N (fun _ => 0))) (k + 1) (n + N)) : zw g X Post pc zl (.int i :: st) G k n := by
  obtain ⟨p, e, R, s, m, args, below, meth, c, A, nL⟩ := X
  intro H locs L hR hS hL hk hn
  obtain ⟨ws, h1, h2, h3, h4⟩ := hR
  have hrm := hX.rm
  have c1 : k + 1 ≤ R.cells := by rw [hrm]; exact hk1
  have c2 : n + N ≤ R.slots := by rw [hrm]; exact hn1
  refine va_newa (atype := .int) (D := zD g) (cl := zcl) (tys := zty (ztc g)) (ty := .int) (a0 := (N, .inl (fun _ => 0))) hX.ex hX.cd (hX.wd hw (Or.inr ⟨_, rfl⟩)) rfl hX.K h1 h2 hS hX.hA (fun cA => rfl) hi hN hb c1 c2 hd (fun q cA H1 pK p1 p2 p3 => ?_)
  have e1 : cA = ztc g 0 := by
    have r1 := (pK.2 6 (cA, .int) rfl).2
    have r2 := (pK.2 0 (ztc g 0, .int) rfl).2
    exact Option.some.inj (r1.symm.trans r2)
  subst e1
  obtain ⟨g1, g2⟩ := zRep_push (c' := zI N (fun _ => 0)) h3 h4 p1 p2
  exact kk q g1 H1 locs L g2 p3 hL c1 c2
theorem zr_newZ (hX : zOK g X cc y ret tb nl d mc ms) {N : Nat} {i : Int32} (hw : Cond.arrayClass .boolean ∈ zTW) (hi : ¬ i < 0) (hN : i.toNatClampNeg = N) (hb : N * 1 ≤ 536870912) (hk1 : k + 1 ≤ mc) (hn1 : n + N ≤ ms) (hd : decode cc pc = .ok (.newarray .boolean, 2))
    (kk : ∀ q : Nat, G q = none → zw g X Post (pc + 2) zl (.ref q :: st) (zput G q (zB N (fun _ => 0))) (k + 1) (n + N)) : zw g X Post pc zl (.int i :: st) G k n := by
  obtain ⟨p, e, R, s, m, args, below, meth, c, A, nL⟩ := X
  intro H locs L hR hS hL hk hn
  obtain ⟨ws, h1, h2, h3, h4⟩ := hR
  have hrm := hX.rm
  have c1 : k + 1 ≤ R.cells := by rw [hrm]; exact hk1
  have c2 : n + N ≤ R.slots := by rw [hrm]; exact hn1
  refine va_newa (atype := .boolean) (D := zD g) (cl := zcl) (tys := zty (ztc g)) (ty := .boolean) (a0 := (N, .inl (fun _ => 0))) hX.ex hX.cd (hX.wd hw (Or.inr ⟨_, rfl⟩)) rfl hX.K h1 h2 hS hX.hA (fun cA => rfl) hi hN hb c1 c2 hd (fun q cA H1 pK p1 p2 p3 => ?_)
  have e1 : cA = ztc g 1 := by
    have r1 := (pK.2 6 (cA, .boolean) rfl).2
    have r2 := (pK.2 1 (ztc g 1, .boolean) rfl).2
    exact Option.some.inj (r1.symm.trans r2)
  subst e1
  obtain ⟨g1, g2⟩ := zRep_push (c' := zB N (fun _ => 0)) h3 h4 p1 p2
  exact kk q g1 H1 locs L g2 p3 hL c1 c2
theorem zr_newJ (hX : zOK g X cc y ret tb nl d mc ms) {N : Nat} {i : Int32} (hw : Cond.arrayClass .long ∈ zTW) (hi : ¬ i < 0) (hN : i.toNatClampNeg = N) (hb : N * 8 ≤ 536870912) (hk1 : k + 1 ≤ mc) (hn1 : n + N ≤ ms) (hd : decode cc pc = .ok (.newarray .long, 2))
    (kk : ∀ q : Nat, G q = none → zw g X Post (pc + 2) zl (.ref q :: st) (zput G q (zJ N (fun _ => 0))) (k + 1) (n + N)) : zw g X Post pc zl (.int i :: st) G k n := by
  obtain ⟨p, e, R, s, m, args, below, meth, c, A, nL⟩ := X
  intro H locs L hR hS hL hk hn
  obtain ⟨ws, h1, h2, h3, h4⟩ := hR
  have hrm := hX.rm
  have c1 : k + 1 ≤ R.cells := by rw [hrm]; exact hk1
  have c2 : n + N ≤ R.slots := by rw [hrm]; exact hn1
  refine va_newa (atype := .long) (D := zD g) (cl := zcl) (tys := zty (ztc g)) (ty := .long) (a0 := (N, .inr (.inl (fun _ => 0)))) hX.ex hX.cd (hX.wd hw (Or.inr ⟨_, rfl⟩)) rfl hX.K h1 h2 hS hX.hA (fun cA => rfl) hi hN hb c1 c2 hd (fun q cA H1 pK p1 p2 p3 => ?_)
  have e1 : cA = ztc g 2 := by
    have r1 := (pK.2 6 (cA, .long) rfl).2
    have r2 := (pK.2 2 (ztc g 2, .long) rfl).2
    exact Option.some.inj (r1.symm.trans r2)
  subst e1
  obtain ⟨g1, g2⟩ := zRep_push (c' := zJ N (fun _ => 0)) h3 h4 p1 p2
  exact kk q g1 H1 locs L g2 p3 hL c1 c2
/-! returns -/
theorem zr_iret (hX : zOK g X cc y (some .int) tb nl d mc ms) {v : Int32} (hd : decode cc pc = .ok (.ireturn, 1)) (hp : Post (.inl (some (.int v))) G) : zw g X Post pc zl [.int v] G k n := by
  obtain ⟨p, e, R, s, m, args, below, meth, c, A, nL⟩ := X
  intro H locs L hR hS hL hk hn
  refine W.widen hk hn ?_
  intro T hT X
  obtain ⟨t, a1, o, b1, b2, b3, L9, b4, b5⟩ := W.iret (Qc := fun _ st o t => o = .returned (some (.int v)) ∧ t.heap = H) (free := A) hX.ex hX.cd hX.rt (fun t ht _ => ⟨rfl, ht⟩) hS.2.2 hd hX.lk T hT X
  exact ⟨t, a1, o, b1, b2, .inl (some (.int v)), G, L9, hp, by rw [b3.2]; exact hR, hS.F b3.2, b4.2.1, b4.2.2, b5, b3.1⟩
theorem zr_zret (hX : zOK g X cc y (some .boolean) tb nl d mc ms) {v : Int32} (hv : narrow .boolean (.int v) = .int v) (hd : decode cc pc = .ok (.ireturn, 1)) (hp : Post (.inl (some (.int v))) G) : zw g X Post pc zl [.int v] G k n := by
  obtain ⟨p, e, R, s, m, args, below, meth, c, A, nL⟩ := X
  intro H locs L hR hS hL hk hn
  refine W.widen hk hn ?_
  intro T hT X
  obtain ⟨t, a1, o, b1, b2, b3, L9, b4, b5⟩ := W.zret (Qc := fun _ st o t => o = .returned (some (.int v)) ∧ t.heap = H) (free := A) hX.ex hX.cd hX.rt hv (fun t ht _ => ⟨rfl, ht⟩) hS.2.2 hd hX.lk T hT X
  exact ⟨t, a1, o, b1, b2, .inl (some (.int v)), G, L9, hp, by rw [b3.2]; exact hR, hS.F b3.2, b4.2.1, b4.2.2, b5, b3.1⟩
theorem zr_lret (hX : zOK g X cc y (some .long) tb nl d mc ms) {v : Int64} (hd : decode cc pc = .ok (.lreturn, 1)) (hp : Post (.inl (some (.long v))) G) : zw g X Post pc zl [.long v] G k n := by
  obtain ⟨p, e, R, s, m, args, below, meth, c, A, nL⟩ := X
  intro H locs L hR hS hL hk hn
  refine W.widen hk hn ?_
  intro T hT X
  obtain ⟨t, a1, o, b1, b2, b3, L9, b4, b5⟩ := W.lret (Qc := fun _ st o t => o = .returned (some (.long v)) ∧ t.heap = H) (free := A) hX.ex hX.cd hX.rt (fun t ht _ => ⟨rfl, ht⟩) hS.2.2 hd hX.lk T hT X
  exact ⟨t, a1, o, b1, b2, .inl (some (.long v)), G, L9, hp, by rw [b3.2]; exact hR, hS.F b3.2, b4.2.1, b4.2.2, b5, b3.1⟩
theorem zr_vret (hX : zOK g X cc y none tb nl d mc ms) (hd : decode cc pc = .ok (.return_, 1)) (hp : Post (.inl none) G) : zw g X Post pc zl [] G k n := by
  obtain ⟨p, e, R, s, m, args, below, meth, c, A, nL⟩ := X
  intro H locs L hR hS hL hk hn
  refine W.widen hk hn ?_
  intro T hT X
  obtain ⟨t, a1, o, b1, b2, b3, L9, b4, b5⟩ := W.vret (Qc := fun _ st o t => o = .returned none ∧ t.heap = H) (free := A) hX.ex hX.cd hX.rt (fun t ht _ => ⟨rfl, ht⟩) hS.2.2 hd hX.lk T hT X
  exact ⟨t, a1, o, b1, b2, .inl none, G, L9, hp, by rw [b3.2]; exact hR, hS.F b3.2, b4.2.1, b4.2.2, b5, b3.1⟩
theorem zr_aret (hX : zOK g X cc y ret tb nl d mc ms) {rt : FieldType} (hrt : ret = some rt) (hro : (∃ n, rt = .object n) ∨ ∃ t, rt = .array t) {v : Value} (hv : v = .null ∨ ∃ a, v = .ref a) (hd : decode cc pc = .ok (.areturn, 1)) (hp : Post (.inl (some v)) G) : zw g X Post pc zl [v] G k n := by
  obtain ⟨p, e, R, s, m, args, below, meth, c, A, nL⟩ := X
  intro H locs L hR hS hL hk hn
  refine W.widen hk hn ?_
  intro T hT X
  obtain ⟨t, a1, o, b1, b2, b3, L9, b4, b5⟩ := W.aret (Qc := fun _ st o t => o = .returned (some v) ∧ t.heap = H) (free := A) hX.ex hX.cd (hX.rt.trans hrt) hro hv (fun t ht _ => ⟨rfl, ht⟩) hS.2.2 hd hX.lk T hT X
  exact ⟨t, a1, o, b1, b2, .inl (some v), G, L9, hp, by rw [b3.2]; exact hR, hS.F b3.2, b4.2.1, b4.2.2, b5, b3.1⟩
end ZH
