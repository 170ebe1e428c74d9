/-! exceptions: how one is caught here, or goes on to the caller -/
def zFt (e : Env) (S : State) (f : JFrame) (a : Addr) (h : Handler) (vm' : Vm) : Prop :=
  ∀ (Q : Handler → Pre) (E : CtlPost) (d : Bool) (acts : List Action), wp (findHandler f a) Q E e d acts S ↔ Q h d acts (S.setVm vm')
/-- a row of the table that doesn't take an object of class 'thrown', at the tables of s0 -/
def zPass (pl : Platform) (s0 : State) (dc : ClassId) (pc : Nat) (thrown : ClassId) (x : ExceptionTableEntry) : Prop :=
  covers x pc = false ∨ (x.catchType ≠ 0 ∧ ∃ c, s0.vm.ClassLinks pl dc x.catchType c ∧ s0.vm.assignable thrown c = false)
theorem zgo_one {Q : Handler → Pre} {E : CtlPost} {e : Env} {d : Bool} {acts : List Action} {S : State} {f : JFrame} {a : Addr} {x : ExceptionTableEntry} {t : List ExceptionTableEntry} {c : ClassId} {cell : Cell} (hx : covers x f.pc = true) (h0 : x.catchType ≠ 0)
    (hl : S.vm.ClassLinks e.platform f.method.cls x.catchType c) (hcell : S.heap[a]? = some cell) (hobj : ∀ k, cell.vm ≠ .statics k) (hk : ∃ k, S.vm.classes[cell.cls]? = some k) (hc : ∃ k, S.vm.classes[c]? = some k) :
    (S.vm.assignable cell.cls c = true → (wp (findHandler.go f a (x :: t)) Q E e d acts S ↔ Q (.found x.handlerPc) d acts (S.setVm (S.vm.noted f.method.cls x.catchType (.cls c))))) ∧
    (S.vm.assignable cell.cls c = false → (wp (findHandler.go f a (x :: t)) Q E e d acts S ↔ wp (findHandler.go f a t) Q E e d acts (S.setVm (S.vm.noted f.method.cls x.catchType (.cls c))))) := by
  simp only [covers] at hx
  obtain ⟨ha, ht⟩ := (resolveClass_links e.toSetting hl).op (op := VmOp.resolveClass f.method.cls x.catchType) rfl
  have hal : S.vm.Alike (S.vm.noted f.method.cls x.catchType (.cls c)) := (Vm.Alike.refl S.vm).noted _ _ _
  obtain ⟨k1, hk1⟩ := hk
  obtain ⟨k2, hk2⟩ := hc
  obtain ⟨k3, hk3, -⟩ := hal.2.2 _ _ hk1
  obtain ⟨k4, hk4, -⟩ := hal.2.2 _ _ hk2
  refine ⟨fun hf => ?_, fun hf => ?_⟩
  · have hf2 : (S.vm.noted f.method.cls x.catchType (.cls c)).assignable cell.cls c = true := by rw [hal.assignable]; exact hf
    simp [findHandler.go, hx, h0, ha, ht, hcell, hobj, hk3, hk4, hf2, VmOp.dirties, VmOp.acts]
  · have hf2 : (S.vm.noted f.method.cls x.catchType (.cls c)).assignable cell.cls c = false := by rw [hal.assignable]; exact hf
    simp [findHandler.go, hx, h0, ha, ht, hcell, hobj, hk3, hk4, hf2, VmOp.dirties, VmOp.acts]
theorem zgo_all {e : Env} {s0 : State} {f : JFrame} {a : Addr} {cell : Cell} (hobj : ∀ k, cell.vm ≠ .statics k) {k0 : Class} (hk0 : s0.vm.classes[cell.cls]? = some k0)
    (x : ExceptionTableEntry) (rest : List ExceptionTableEntry) (hx : covers x f.pc = true) (h0 : x.catchType ≠ 0) {c : ClassId} (hl : s0.vm.ClassLinks e.platform f.method.cls x.catchType c) (hfit : s0.vm.assignable cell.cls c = true) :
    ∀ (pre : List ExceptionTableEntry) (S : State), s0.WarmedH S.vm → S.heap[a]? = some cell → (∀ z ∈ pre, zPass e.platform s0 f.method.cls f.pc cell.cls z) →
      ∃ vm', s0.WarmedH vm' ∧ ∀ (Q : Handler → Pre) (E : CtlPost) (d : Bool) (acts : List Action), wp (findHandler.go f a (pre ++ x :: rest)) Q E e d acts S ↔ Q (.found x.handlerPc) d acts (S.setVm vm') := by
  intro pre
  induction pre with
  | nil =>
    intro S hW hcell _
    obtain ⟨k1, hk1, -⟩ := hW.alike.2.2 _ _ hk0
    obtain ⟨dk, _, _, kt, hd, _, _, _, _, hkt, _, hopen⟩ := hl.here
    obtain ⟨k2, hk2, -⟩ := hW.alike.2.2 _ _ hkt
    exact ⟨_, hW.noted hd hopen (State.rightAt_cls hl), fun Q E d acts => (zgo_one hx h0 (hW.classLinks hl) hcell hobj ⟨k1, hk1⟩ ⟨k2, hk2⟩).1 (by rw [hW.alike.assignable]; exact hfit)⟩
  | cons z zs ih =>
    intro S hW hcell hp
    obtain ⟨k1, hk1, -⟩ := hW.alike.2.2 _ _ hk0
    have hp2 : ∀ w ∈ zs, zPass e.platform s0 f.method.cls f.pc cell.cls w := fun w hw => hp w (List.mem_cons_of_mem _ hw)
    by_cases hcov : covers z f.pc = true
    · rcases hp z List.mem_cons_self with h | ⟨hz0, c9, hl9, hno⟩
      · rw [h] at hcov; cases hcov
      · obtain ⟨dk, _, _, kt, hd, _, _, _, _, hkt, _, hopen⟩ := hl9.here
        obtain ⟨k2, hk2, -⟩ := hW.alike.2.2 _ _ hkt
        obtain ⟨vm', hW', hq⟩ := ih (S.setVm (S.vm.noted f.method.cls z.catchType (.cls c9))) (hW.noted hd hopen (State.rightAt_cls hl9)) hcell hp2
        exact ⟨vm', hW', fun Q E d acts => ((zgo_one hcov hz0 (hW.classLinks hl9) hcell hobj ⟨k1, hk1⟩ ⟨k2, hk2⟩).2 (by rw [hW.alike.assignable]; exact hno)).trans (hq Q E d acts)⟩
    · obtain ⟨vm', hW', hq⟩ := ih S hW hcell hp2
      exact ⟨vm', hW', fun Q E d acts => by
        rw [List.cons_append, W.findHandler_go_skip (by simpa using hcov)]
        exact hq Q E d acts⟩
theorem zstep_catch {e : Env} {S : State} {a : Addr} {f : JFrame} {r : List Frame} {pc : Nat} {vm' : Vm} (hf : zFt e S f a (.found pc) vm') :
    (stepThrowing e S a (.java f :: r)).Is ((S.setVm vm').setFrames (.java { f with pc := pc, stack := [.ref a] } :: r)) [] := by
  simp only [stepThrowing, searchFrame, vmDo]
  generalize hr : Sem.go _ e false [] S = res
  obtain ⟨as, rfl, ha⟩ := Sem.eq_ok_of hr (a := Handler.found pc) (s' := S.setVm vm') (acts' := []) (by simp [hf _ _ _ _])
  exact ⟨rfl, ha⟩
theorem zcaught {tbl : Tables} {e : Env} {S target : State} {gf : JFrame} {c : Code} {below : List Frame} {a : Addr} (h : At S gf.method c below) {pc : Nat} {vm' : Vm}
    (hf : zFt e ((S.setTop gf).pushFrame (.throwing a)) gf a (.found pc) vm') (hr : Steps tbl e below ((S.setVm vm').setTop { gf with pc := pc, stack := [.ref a] }) target) :
    Steps tbl e below ((S.setTop gf).pushFrame (.throwing a)) target := by
  obtain ⟨hgo, hw⟩ := h.throwing a
  refine Steps.head hgo hw ?_
  rw [stepThread_throwing (frames_entered h.top _), (zstep_catch (S := (S.setTop gf).pushFrame (.throwing a)) hf).1]
  obtain ⟨g₀, hg⟩ := Option.isSome_iff_exists.mp h.top
  obtain ⟨r, hr0⟩ := State.topJava?_eq_some.mp hg
  have hr1 : (S.setVm vm').frames = .java g₀ :: r := hr0
  have key : ∀ (u : State) (F F2 : List Frame), ((u.setFrames F).setVm vm').setFrames F2 = (u.setVm vm').setFrames F2 := fun u F F2 => by
    have h1 : (u.setFrames F).setVm vm' = (u.setVm vm').setFrames F := rfl
    rw [h1, State.setFrames_setFrames]
  rw [State.setTop_of_frames _ hr1] at hr
  rw [hr0, List.tail_cons, State.pushFrame, key, State.setTop_of_frames _ hr0, key]
  exact hr
section ZEX
variable {g : zGt} {X : zX} {cc : ByteArray} {y : MethodName} {ret : Option FieldType} {tb : List (Nat × Nat × Nat × Nat)} {nl d mc ms : Nat} {Post : zRes → zG → Prop} {pc : Nat} {zl : List (Option Value)} {G : zG} {k n : Nat}
/-- it isn't caught here -/
theorem zt_out (hX : zOK g X cc y ret tb nl d mc ms) (hout : ∀ x ∈ tableOf tb, covers x pc = false) {E : String} (hp : Post (.inr E) G) : zt g X Post pc E zl G k n := by
  obtain ⟨p, e, R, s, m, args, below, meth, c, A, nL⟩ := X
  intro H locs L st q ce hR hS hL hk hn h1 h2 h3 T hT X
  obtain ⟨st1, hrun, hend, hW, hsm⟩ := X.leaveThrown q (g := F0 m pc L st) rfl rfl rfl (by rw [hX.tq]; exact hout) hX.lk
  have hh : (T.setFrames (.throwing q :: below)).heap = H := hT
  exact ⟨_, st1, .threw q, hrun, hend, .inr E, G, locs, hp, by rw [hh]; exact hR, hS.F hh, hW, hsm.mono hk hn, hS.2.2, q, ce, rfl, by rw [hh]; exact h1, h2, h3⟩
/-- it is caught by the row x of the table, behind rows that don't take it -/
theorem zt_catch (hX : zOK g X cc y ret tb nl d mc ms) {E name : String} (pre : List ExceptionTableEntry) (x : ExceptionTableEntry) (suf : List ExceptionTableEntry) (hsp : tableOf tb = pre ++ x :: suf)
    (hpass : ∀ z ∈ pre, covers z pc = false ∨ (z.catchType ≠ 0 ∧ ∃ nm : String, Cond.classLink y.cls z.catchType nm ∈ zTW ∧ Cond.not (.castable E nm) ∈ zTW)) (hx : covers x pc = true) (h0 : x.catchType ≠ 0)
    (hw1 : Cond.classLink y.cls x.catchType name ∈ zTW) (hw2 : Cond.castable E name ∈ zTW) (kk : ∀ q : Nat, zw g X Post x.handlerPc zl [.ref q] G k n) : zt g X Post pc E zl G k n := by
  obtain ⟨p, e, R, s, m, args, below, meth, c, A, nL⟩ := X
  intro H locs L st q ce hR hS hL hk hn h1 h2 h3 T hT X
  have hpl : e.platform.magicAccessors = ({} : Platform).magicAccessors := by rw [X.admits.platform]
  have hWm := hX.af.1
  obtain ⟨c3, c4, hc3, hc4, hasg⟩ := Cond.castable_spec (va_Nw.use (A := args) rfl (va_Nw.warmC hWm (va_Nw.of rfl (hX.gl.1 _ hw2))))
  cases Option.some.inj (hc3.symm.trans h3)
  obtain ⟨c5, hc5, hcl5⟩ := Cond.classLink_spec hX.ow (hX.wk hw1 rfl) e.platform hpl
  cases Option.some.inj (hc4.symm.trans hc5)
  obtain ⟨k9, h9, -⟩ := Vm.findClass_spec h3
  have hobj : ∀ kk, ce.vm ≠ .statics kk := fun kk h => by rw [h2] at h; cases h
  obtain ⟨vm', hW', hq⟩ := zgo_all (e := e) (s0 := s) (f := F0 m pc L st) (a := q) hobj h9 x suf hx h0 hcl5 hasg pre ((T.setTop (F0 m pc L st)).pushFrame (.throwing q)) X.warmed (by
      show T.heap[q]? = some ce
      rw [hT]; exact h1) (fun z hz => by
    rcases hpass z hz with h | ⟨hz0, nm, hl1, hn1⟩
    · exact Or.inl h
    · obtain ⟨c6, hc6, hcl6⟩ := Cond.classLink_spec hX.ow (hX.wk hl1 rfl) e.platform hpl
      have hnc : va_Nc E nm (zs0 g) := va_Nc.of (hX.gl.1 _ hn1)
      obtain ⟨a8, b8, g1, g2, g3⟩ := hnc.moved hWm.alike
      cases Option.some.inj (g1.symm.trans h3)
      cases Option.some.inj (g2.symm.trans hc6)
      exact Or.inr ⟨hz0, _, hcl6, g3⟩)
  obtain ⟨t, a1, b1⟩ := kk q H locs L hR hS hL hk hn (T.setVm vm') hT (X.noted hW')
  refine ⟨t, zcaught (gf := F0 m pc L st) X.here (vm' := vm') (pc := x.handlerPc) (fun Q E d acts => ?_) a1, b1⟩
  rw [W.findHandler_eq (meth := meth) (code := c) X.method' X.code, hX.tq, hsp]
  exact hq Q E d acts
end ZEX
/-! 'throw new E()' -/
/-- the same frame, seen from here: as if the method were called anew in this heap -/
theorem zanew {p : Program} {l : Launch} {e : Env} {R : Room} {s : State} {m : MethodId} {args : Array Value} {below : List Frame} {meth : Method} {c : Code} {T : State} {locs : List Loc} {k n : Nat} (X : Stand p l e R s m args below meth c T locs k n) (hc : k + 1 ≤ R.cells) (hs : n + 6 ≤ R.slots) :
    Stand p l e { frames := R.frames, locals := R.locals, cells := 1, slots := 6 } ((T.setVm s.vm).setFrames (.invoking m args :: below)) m args below meth c T [] 0 0 := by
  have htop : (T.setVm s.vm).topJava?.isSome := X.here.top
  have hF : ((T.setVm s.vm).setFrames (.invoking m args :: below)).frames = .invoking m args :: below := State.frames_setFrames _ (State.cur_lt_of_top htop)
  obtain ⟨g₀, hg0⟩ := Option.isSome_iff_exists.mp htop
  obtain ⟨r, hr⟩ := State.topJava?_eq_some.mp hg0
  have hl9 : e.platform.stackLimits (T.setVm s.vm).me = e.platform.stackLimits s.me := X.limits
  have hb9 : (T.setVm s.vm).me.stackBytes = s.me.stackBytes := X.bytes
  have hnil : (T.heap.toList.drop T.heap.size).map (fun z => z.slots.size) = [] := by
    rw [List.drop_eq_nil_of_le (Nat.le_of_eq Array.length_toList)]
    rfl
  refine ⟨X.admits, X.cas, X.clock, hF, ?_, X.hears, X.method, X.code, X.here, X.tail, X.warmed, ?_, ?_, ?_⟩
  · have h := X.room
    have hU : ((T.setVm s.vm).setFrames (.invoking m args :: below)).localsInUse = s.localsInUse := by
      rw [State.localsInUse_invoking hF (meth := meth) (c := c) X.method X.code, State.localsInUse_invoking X.frames X.method X.code]
    simp only [State.hasRoom, Bool.and_eq_true, decide_eq_true_eq] at h ⊢
    obtain ⟨⟨⟨⟨h1, h2, h3, h4, h5, h6⟩, h7⟩, h8⟩, h9⟩ := h
    rw [X.frames, List.length_cons] at h2 h3
    have q1 := X.heapSize
    have q2 := X.used
    simp only [hF, hU, List.length_cons, State.stackLimits_setFrames, State.stackBytes_setFrames, hl9, hb9]
    refine ⟨⟨⟨⟨by omega, by omega, by omega, by omega, by omega, h6⟩, ?_⟩, ?_⟩, X.book⟩
    · show T.heap.size + 1 ≤ e.platform.maxCells
      omega
    · show T.slotsUsed + 6 ≤ e.platform.maxSlots
      omega
  · rw [State.stackLimits_setFrames]; rfl
  · rw [State.stackBytes_setFrames]; rfl
  · refine ⟨?_, Nat.le_refl _, Nat.le_refl _, ?_, ?_, fun a c9 h9 => ⟨c9, h9, rfl, rfl, fun _ _ => rfl⟩⟩
    · obtain ⟨t, ht, -⟩ := State.frames_cons hr
      show T.setVm s.vm = { ((T.setVm s.vm).setFrames (.invoking m args :: below)).setFrames (T.setVm s.vm).frames with heap := T.heap, slotsUsed := T.slotsUsed }
      rw [State.setFrames_setFrames, State.setFrames_self ht]
      rfl
    · show T.slotsUsed = T.slotsUsed + ((T.heap.toList.drop T.heap.size).map (fun z => z.slots.size)).sum
      rw [hnil]
      rfl
    · show ((T.heap.toList.drop T.heap.size).map (fun z => z.slots.size)).sum ≤ 0
      rw [hnil]
      exact Nat.le_refl _
/-- words of the law's start, at a later state with the same old cells -/
theorem zlays_static {g : zGt} {U : State} {args : Array Value} (hA : zAft g U U.heap) {C n d : String} (h : (Cond.laysStatic C n d).before (za0 g) (zs0 g) = true) : (Cond.laysStatic C n d).before args U = true := by
  obtain ⟨c, k, i, f, a, cell, h1, h2, h3, h4, h5, h6, h7, h8, h9⟩ := Cond.laysStatic_spec h
  have hvm := hA.1.alike
  obtain ⟨k', hi', he⟩ := State.fieldFound?_setVm hvm h2
  show (Cond.laysStatic C n d).holds args U none U [] = true
  exact Cond.laysStatic_of (by rw [hvm.findClass]; exact h1) hi' h3 (by rw [he]; exact h4) (by rw [hA.2.2 a (Array.getElem?_eq_some_iff.mp h5).1]; exact h5) h6 h7 h8 (by rw [he]; exact h9)
theorem zref_static {g : zGt} {U : State} {args : Array Value} (hA : zAft g U U.heap) {C n d : String} (hl : (Cond.laysStatic C n d).before (za0 g) (zs0 g) = true) (hi : (Cond.initialized C).before (za0 g) (zs0 g) = true) (h : (Cond.isRef (.static C n d)).before (za0 g) (zs0 g) = true) : (Cond.isRef (.static C n d)).before args U = true := by
  have hz := va_Zqof (A := fun q => (zs0 g).heap.size ≤ q) hl hi h (fun a h1 h2 => by omega)
  have hz2 : va_Zq C n d (fun q => (zs0 g).heap.size ≤ q) U U.heap := va_Zq.moved hA.1.alike (va_Zq.kept hz (fun a h1 _ => hA.2.2 a h1))
  have key : ∀ v : Value, v.isRef = true → va_Z C n d v (fun q => (zs0 g).heap.size ≤ q) U U.heap → (Cond.isRef (.static C n d)).before args U = true := by
    intro v hv hz3
    obtain ⟨cf, kf, fi, f, a, cell, h1, h2, h3, h4, h5, h6, h7, -⟩ := hz3
    have he : (Term.static C n d).eval args U none [] U = some v := by
      simp [Term.eval, State.fieldNamed?, h1, h2, h4, h5, h6, h7]
    simp only [Cond.before, Cond.holds, Cond.value, he]
    cases v <;> simp_all [Value.isRef]
  rcases hz2 with h9 | ⟨t, h9⟩
  · exact key _ rfl h9
  · exact key _ rfl h9
def zheap (w : Cond) : Bool := decide (w = .isRef (.static Bundle.tN "UNASSIGNED_STACK" Bundle.steD)) || decide (w = .isRef (.static Bundle.tN "SUPPRESSED_SENTINEL" Bundle.listD)) || decide (w = .laysStatic Bundle.tN "UNASSIGNED_STACK" Bundle.steD) || decide (w = .laysStatic Bundle.tN "SUPPRESSED_SENTINEL" Bundle.listD)
def zkind (w : Cond) : Bool := match w with
  | .castable _ _ => true
  | w => goodWord w || zheap w
theorem zword {g : zGt} {U : State} {args : Array Value} (hg : zGl g) (hA : zAft g U U.heap) {w : Cond} (hw : w ∈ zTW) (hk : zkind w = true)
    (hq : Cond.laysStatic Bundle.tN "UNASSIGNED_STACK" Bundle.steD ∈ zTW ∧ Cond.laysStatic Bundle.tN "SUPPRESSED_SENTINEL" Bundle.listD ∈ zTW ∧ Cond.initialized Bundle.tN ∈ zTW) : w.before args U = true := by
  have h0 := hg.1 w hw
  have hgood : (goodWord w || zheap w) = true → w.before args U = true := by
    intro h
    rw [Bool.or_eq_true] at h
    rcases h with h | h
    · exact word_at hA.1 (good_of_word h) h0
    · simp only [zheap, Bool.or_eq_true, decide_eq_true_eq] at h
      rcases h with ((h | h) | h) | h
      · subst h; exact zref_static hA (hg.1 _ hq.1) (hg.1 _ hq.2.2) h0
      · subst h; exact zref_static hA (hg.1 _ hq.2.1) (hg.1 _ hq.2.2) h0
      · subst h; exact zlays_static hA h0
      · subst h; exact zlays_static hA h0
  unfold zkind at hk
  split at hk
  · exact va_Nw.use rfl (va_Nw.warmC hA.1 (va_Nw.of rfl h0))
  · exact hgood hk
theorem zr_throw0 {g : zGt} {X : zX} {cc : ByteArray} {y : MethodName} {ret : Option FieldType} {tb : List (Nat × Nat × Nat × Nat)} {nl d mc ms : Nat} {Post : zRes → zG → Prop} {pc : Nat} {zl : List (Option Value)} {G : zG} {k n : Nat} (hX : zOK g X cc y ret tb nl d mc ms) {st : List Value} {E : String} {names : List String} {ik ic : Nat} (hE : Bundle.fit E = true) (hns : ∀ n ∈ names, Bundle.fit n = true)
    (hat : ∀ w ∈ Cond.classLink y.cls ik E :: Cond.initialized E :: Bundle.ownAtoms0 y.cls ic E names, w ∈ zTW ∧ zkind w = true) (hq : Cond.laysStatic Bundle.tN "UNASSIGNED_STACK" Bundle.steD ∈ zTW ∧ Cond.laysStatic Bundle.tN "SUPPRESSED_SENTINEL" Bundle.listD ∈ zTW ∧ Cond.initialized Bundle.tN ∈ zTW)
    (d0 : decode cc pc = .ok (.new ik, 3)) (d3 : decode cc (pc + 3) = .ok (.dup, 1)) (d4 : decode cc (pc + 4) = .ok (.invokespecial ic, 3)) (d7 : decode cc (pc + 7) = .ok (.athrow, 1)) (hout : ∀ x ∈ tableOf tb, covers x (pc + 7) = false)
    (hd1 : names.length + 4 ≤ d) (hwt : (st.map fun v => v.category).sum ≤ 12) (hk1 : k + 1 ≤ mc) (hn1 : n + 6 ≤ ms) (hp : Post (.inr E) G) : zw g X Post pc zl st G k n := by
  obtain ⟨p, e, R, s, m, args, below, meth, c, A, nL⟩ := X
  intro H locs L hR hS hL hk hn T hT X
  have hrm := hX.rm
  have c1 : k + 1 ≤ R.cells := by rw [hrm]; exact hk1
  have c2 : n + 6 ≤ R.slots := by rw [hrm]; exact hn1
  have c3 : names.length + 3 < R.frames := by rw [hrm]; show _ < d; omega
  have c4 : (st.map fun v => v.category).sum + (13 * (names.length + 1) + 43) ≤ R.locals := by rw [hrm]; show _ ≤ 64 * d; omega
  have htr : e.platform.stackTraces = false := (show e.platform.stackTraces = (zl0 g).stackTraces by rw [X.admits.platform]).trans hX.gl.2.2
  have Y := zanew X c1 c2
  obtain ⟨s', hA⟩ : ∃ z, z = (T.setVm s.vm).setFrames (.invoking m args :: below) := ⟨_, rfl⟩
  rw [← hA] at Y
  have hvm : s'.vm = s.vm := by rw [hA]; rfl
  have hhp : s'.heap = H := by rw [hA]; exact hT
  have hAf : zAft g s' s'.heap := by
    rw [hhp]
    exact zAft.to hX.af (by rw [hvm]; exact State.WarmedH.refl s) hX.A0 hS.1 hS.2.1
  have hat' : ∀ w ∈ Cond.classLink y.cls ik E :: Cond.initialized E :: Bundle.ownAtoms0 y.cls ic E names, w.before args s' = true := fun w hw => zword hX.gl hAf (hat w hw).1 (hat w hw).2 hq
  have h : ∀ w ∈ Bundle.ownAtoms0 y.cls ic E names, w.before args s' = true := fun w hw => hat' w (List.mem_cons_of_mem _ (List.mem_cons_of_mem _ hw))
  have hown' : s'.vm.findClass y.cls = some m.cls := by rw [hvm]; exact hX.ow
  have hins : (Cond.instantiable E 6).before args s' = true := h _ (by simp [Bundle.ownAtoms0])
  obtain ⟨vm₁, cX, kX, hfX, hkX, -, -, X₁, st1⟩ := Y.newCold hX.ex (own := y.cls) (C := E) (index := ik) (n := 6) hown' (hat' _ List.mem_cons_self) hins (hat' _ (List.mem_cons_of_mem _ List.mem_cons_self))
    (g := F0 m pc L st) rfl (by rw [hX.cd]; exact d0) (Nat.le_refl _) (Nat.le_refl _)
  generalize hT1 : (T.setVm vm₁).pushCell { cls := cX, slots := kX.instanceTypes.map defaultValue, vm := .none } = T1 at X₁ st1
  have hcat : (Value.ref T.heap.size).category = 1 := rfl
  have hcellA : T1.heap[T.heap.size]? = some (freshCell cX kX) := by rw [← hT1]; exact State.heap_pushCell_size _ _
  have d3' : decode c.code (pc + 3) = .ok (.dup, 1) := by rw [hX.cd]; exact d3
  obtain ⟨U, hsteps, hrun, hend, hW, hsame, ce, hce, hO⟩ := X₁.ctorThrow0 hX.ex htr (own := y.cls) (cls := E) (names := names) (ic := ic) hown' hE hns h (fun x hx => nomatch hx) hfX hkX hcellA (by rw [hhp, hT]; exact Nat.le_refl _)
    (g := { method := m, pc := pc + 4, locals := L, stack := .ref T.heap.size :: .ref T.heap.size :: st, locked := none }) rfl (by rw [hX.ml]; exact hL.size) rfl rfl (rest := st) rfl
    (by rw [hX.cd]; exact d4) (by rw [hX.cd]; exact d7) (by rw [hX.tq]; exact hout) c3 (by simp only [List.map_cons, List.sum_cons, hcat]; show 2 * 0 + _ + _ ≤ R.locals; omega) hX.lk
  have hfr : H.size ≤ U.heap.size ∧ ∀ q : Nat, q < H.size → U.heap[q]? = H[q]? := by
    obtain ⟨-, h2, -, -, -, h6⟩ := hsame
    rw [hhp] at h2
    refine ⟨h2, fun q hq9 => ?_⟩
    have hq8 : q < s'.heap.size := by rw [hhp]; exact hq9
    obtain ⟨c9, e1, e2, e3, e4⟩ := h6 q _ (Array.getElem?_eq_getElem hq8)
    have hs9 : c9.slots = (s'.heap[q]).slots := Array.ext_getElem? fun i => e4 i fun hm => nomatch hm
    have h9 : c9 = s'.heap[q] := by
      rw [hs9] at e2
      exact e2
    have e5 : U.heap[q]? = some c9 := e1
    rw [e5, h9, ← Array.getElem?_eq_getElem hq8, hhp]
  have hWs : s.WarmedH U.vm := by
    have h9 : s'.WarmedH U.vm := hW
    exact State.WarmedH.trans (show s.WarmedH s'.vm by rw [hvm]; exact State.WarmedH.refl s) h9
  have hcl : s.vm.findClass E = some ce.cls := by
    have h9 := hO.cls
    rw [hvm] at h9
    exact h9
  have hall : s.sameButNew ({ U with vm := s.vm } : State) locs R.cells R.slots := by
    subst hA
    obtain ⟨e1, e2⟩ := hsame
    rw [State.setFrames_setFrames] at e1
    have h2 : (T.setVm s.vm).sameButNew ({ U with vm := s.vm } : State) [] (0 + 1) (0 + 6) := ⟨e1, e2⟩
    have h3 := X.same.trans h2
    rw [List.append_nil] at h3
    exact h3.mono (by omega) (by omega)
  refine ⟨U, ?_, .threw T.heap.size, hrun, hend, .inr E, G, locs, hp, hR.kept hfr.2, ⟨Nat.le_trans hS.1 hfr.1, fun q h1 h2 => by rw [hfr.2 q (Nat.lt_of_lt_of_le h1 hS.1)]; exact hS.2.1 q h1 h2⟩, hWs, hall, hS.2.2, _, ce, rfl, hce, hO.vm, hcl⟩
  refine st1 _ ?_
  show Steps p.tables e below (T1.setTop { method := m, pc := pc + 3, locals := L, stack := .ref T.heap.size :: st, locked := none }) _
  jvm_step X₁.here [X₁.here.top, hX.ex, d3', Value.category]
  exact hsteps
