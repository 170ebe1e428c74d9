/-! contracts and calls -/
def zcw (y : MethodName) (cc : ByteArray) (nl : Nat) (ret : Option FieldType) (tb : List (Nat × Nat × Nat × Nat)) : Cond := match tb with
  | [] => .code y cc nl ret
  | _ => .codeWith y cc nl ret tb
/-- method y, called with av on a heap that holds G: it returns or throws, as Post says; at most mc cells of ms slots are new; d deep -/
def zMet (g : zGt) (y : MethodName) (cc : ByteArray) (nl : Nat) (ret : Option FieldType) (tb : List (Nat × Nat × Nat × Nat)) (d mc ms : Nat) (av : List Value) (G : zG) (Post : zRes → zG → Prop) : Prop :=
  zGl g → ∀ sz : Nat, MetFree (zl0 g) y (headSpec [zcw y cc nl ret tb] (zrm d mc ms)) (fun v U => v = av.toArray ∧ U.heap.size = sz ∧ zRep (zD g) (ztc g) (zA g G sz) G U.heap ∧ zAft g U U.heap) (fun _ _ _ _ _ => True) (zQ g (zA g G sz) mc ms Post)
theorem zloc_entry (av : List Value) {n : Nat} (h : (lg_sl av).length ≤ n) : zloc ((lg_sl av ++ List.replicate (n - (lg_sl av).length) Slot.unset).toArray) n (zent av n) := by
  refine ⟨_, lv_entry av h, fun i v hi => ?_⟩
  have h1 := zarg_in av 0 i v (zlk_app _ _ _ _ hi)
  rw [Nat.zero_add] at h1
  exact h1
theorem zcw_spec {y : MethodName} {cc : ByteArray} {nl : Nat} {ret : Option FieldType} {tb : List (Nat × Nat × Nat × Nat)} {args : Array Value} {s : State} {m : MethodId} (hn : s.methodNamed? y = some m) (h : (zcw y cc nl ret tb).before args s = true) :
    ∃ meth c, s.vm.method? m = some meth ∧ meth.code = some c ∧ c.code = cc ∧ c.maxLocals = nl ∧ meth.sig.returnType = ret ∧ meth.locks = false ∧ c.exceptionTable.toList = tableOf tb ∧ parseMethodDescriptor y.desc = some meth.sig := by
  cases tb with
  | nil =>
    obtain ⟨meth, c, h1, h2, h3, h4, h5, h6, h7, h8⟩ := Cond.code_spec hn h
    refine ⟨meth, c, h1, h2, h3, h4, h5, h6, ?_, h8⟩
    rw [Array.isEmpty_iff.mp h7]
    rfl
  | cons a r =>
    obtain ⟨m9, meth, c, hn9, h1, h2, h3, h4, h6, h5, h7, h8⟩ := Cond.codeWith_spec h
    cases Option.some.inj (hn9.symm.trans hn)
    exact ⟨meth, c, h1, h2, h3, h4, h5, h7, by rw [← h6, table_eq], h8⟩
theorem zMet.of {g : zGt} {y : MethodName} {cc : ByteArray} {nl : Nat} {ret : Option FieldType} {tb : List (Nat × Nat × Nat × Nat)} {d mc ms : Nat} {av : List Value} {G : zG} {Post : zRes → zG → Prop} {zl : List (Option Value)} (hy : plainName y.cls = true) (hz : (lg_sl av).length ≤ nl) (hzl : zent av nl = zl)
    (body : ∀ X, zOK g X cc y ret tb nl d mc ms → zw g X Post 0 zl [] G 0 0) : zMet g y cc nl ret tb d mc ms av G Post := by
  subst hzl
  intro hg sz
  refine MetFree.of_bodyS (code := cc) (maxLocals := nl) (ret := ret) hy ?_ ?_
  · intro args s m h hn
    obtain ⟨meth, c, h1, h2, h3, h4, h5, h6, -, -⟩ := zcw_spec hn (atoms_spec (ws := [zcw y cc nl ret tb]) h _ List.mem_cons_self)
    exact ⟨meth, c, h1, h2, h3, h4, h5, h6⟩
  · intro p e s m args below meth c s₁ B hml hP _
    obtain ⟨rfl, hsz, hR, hA⟩ := hP
    subst hsz
    have hh0 : s₁.heap = s.heap := by rw [B.state]; rfl
    obtain ⟨meth9, c9, h1, h2, -, -, -, -, h7, -⟩ := zcw_spec B.named (atoms_spec (ws := [zcw y cc nl ret tb]) B.pre _ List.mem_cons_self)
    cases Option.some.inj (h1.symm.trans B.method)
    cases Option.some.inj (h2.symm.trans (Stand.of_body B).code)
    have hX : zOK g (p, e, zrm d mc ms, s, m, av.toArray, below, meth, c, zA g G s.heap.size, nl) cc y ret tb nl d mc ms :=
      ⟨hg, B.exec, B.bytes, hml, rfl, findClass_of_methodNamed B.named, (name_of_methodNamed B.named B.method).1, hA, fun q h => ⟨Or.inr h, Nat.le_trans hA.2.1 h⟩, fun q h => h.2, B.notSynchronized, B.returns, h7, rfl⟩
    have K := body _ hX s.heap [] _ hR va_S.rf (zloc_entry av hz) (Nat.zero_le _) (Nat.zero_le _)
    rw [lg_entry_eq]
    obtain ⟨t, a1, o, b1, b2, b3⟩ := K s₁ hh0 (Stand.of_body B)
    exact ⟨t, o, a1, b1, b2, b3⟩
theorem zAft.to {g : zGt} {U V : State} {H H1 : Heap} {A : Nat → Prop} (h : zAft g U H) (hW : U.WarmedH V.vm) (hA : ∀ q, A q → (zs0 g).heap.size ≤ q) (h1 : H.size ≤ H1.size) (h2 : ∀ q : Nat, q < H.size → ¬ A q → H1[q]? = H[q]?) : zAft g V H1 :=
  ⟨State.WarmedH.trans h.1 hW, Nat.le_trans h.2.1 h1, fun q hq => by rw [h2 q (Nat.lt_of_lt_of_le hq h.2.1) (fun z => by have := hA q z; omega)]; exact h.2.2 q hq⟩
/-- what a call of y does to the caller's walk -/
theorem zback {g : zGt} {p : Program} {e : Env} {R : Room} {s : State} {m : MethodId} {sargs : Array Value} {below : List Frame} {meth : Method} {c : Code} {U : State} {locs : List Loc} {k n : Nat}
    {y : MethodName} {cc : ByteArray} {nl : Nat} {ret : Option FieldType} {tb : List (Nat × Nat × Nat × Nat)} {d mc ms W9 : Nat} {av : List Value} {G : zG} {Post : zRes → zG → Prop}
    (hM : zMet g y cc nl ret tb d mc ms av G Post) (hg : zGl g) (X : Stand p (zl0 g) e R s m sargs below meth c U locs k n) {gf : JFrame} (hgm : gf.method = m) (hsize : gf.locals.size = c.maxLocals) {ig : Instr} {len : Nat} (hdg : decode c.code gf.pc = .ok (ig, len))
    (hW : 2 * gf.monitorRoom + (gf.stack.map fun v => v.category).sum ≤ W9) {mk : MethodId} (hn : U.methodNamed? y = some mk) (hcode : (zcw y cc nl ret tb).before av.toArray U = true) (hinit : (Cond.initialized y.cls).before av.toArray U = true)
    (hfr : d + 1 ≤ R.frames) (hlo : W9 + (nl + 11) + 64 * d ≤ R.locals) (hc1 : k + mc ≤ R.cells) (hs1 : n + ms ≤ R.slots) (hR : zRep (zD g) (ztc g) (zA g G U.heap.size) G U.heap) (hA : zAft g U U.heap) :
    ∃ (r : zRes) (G1 : zG) (B : State) (L : List Loc), Post r G1 ∧ zRep (zD g) (ztc g) (zA g G U.heap.size) G1 B.heap ∧ U.heap.size ≤ B.heap.size ∧ (∀ q : Nat, q < U.heap.size → ¬ zA g G U.heap.size q → B.heap[q]? = U.heap[q]?) ∧ U.WarmedH B.vm ∧ (∀ z ∈ L, zA g G U.heap.size z.base) ∧
      Stand p (zl0 g) e R s m sargs below meth c B (locs ++ L) (k + mc) (n + ms) ∧
      ((∃ v, r = .inl v ∧ Steps p.tables e below (doInvoke e (U.setTop gf) [] mk av.toArray).1 (B.setTop { gf with pc := gf.pc + len, stack := v.toList ++ gf.stack })) ∨
       (∃ E q ce, r = .inr E ∧ B.heap[q]? = some ce ∧ ce.vm = .none ∧ U.vm.findClass E = some ce.cls ∧ Steps p.tables e below (doInvoke e (U.setTop gf) [] mk av.toArray).1 ((B.setTop gf).pushFrame (.throwing q)))) := by
  have hM1 := hM hg U.heap.size
  obtain ⟨methY, cY, hmY, hcY, -, hlY, -⟩ := zcw_spec hn hcode
  obtain ⟨kY, hkY, -⟩ := className_of_methodNamed hn
  have hinitY : kY.init = .initialized := Cond.initialized_spec (findClass_of_methodNamed hn) hkY hinit
  have h : At U gf.method c below := by rw [hgm]; exact X.here
  have h1 : (headSpec [zcw y cc nl ret tb] (zrm d mc ms)).pre.before av.toArray U = true := atoms_intro fun w hw => by
    rw [List.mem_singleton.mp hw]; exact hcode
  have happ : (headSpec [zcw y cc nl ret tb] (zrm d mc ms)).appliesLoose y e.platform (U.calling gf mk av.toArray) = true :=
    Spec.appliesLoose_calling (g := gf) h hdg hn hkY hinitY
      (X.room_calling (g := gf) (R' := zrm d mc ms) hsize hmY hcY hfr (by rw [hlY]; show _ + (64 * d) ≤ _; omega) hc1 hs1) h1
  obtain ⟨mid, hmid⟩ := h.above
  have hfr0 : (U.setTop gf).frames = (.java gf :: mid) ++ below := by rw [State.frames_setTop' gf h.top, hmid]; rfl
  obtain ⟨o, s₂, hsteps, -, hend, hq⟩ := Steps.callFree hM1 p X.admits X.cas X.clock (acts := []) hfr0 happ ⟨rfl, rfl, hR, hA⟩ trivial
  have hq' : zQ g (zA g G U.heap.size) mc ms Post av.toArray (U.calling gf mk av.toArray) o s₂ := hq
  obtain ⟨r, G1, L, q1, q2, ⟨q3, q4⟩, q5, q6, q7, q8⟩ := hq'
  have q3' : U.heap.size ≤ s₂.heap.size := q3
  have q4' : ∀ q : Nat, q < U.heap.size → ¬ zA g G U.heap.size q → s₂.heap[q]? = U.heap[q]? := q4
  have hW' : U.WarmedH s₂.vm := q5
  rw [State.frames_setTop' gf h.top] at hend
  obtain ⟨g₀, hg0⟩ := Option.isSome_iff_exists.mp h.top
  obtain ⟨r0, hr⟩ := State.topJava?_eq_some.mp hg0
  have hr' : (({ U with heap := s₂.heap, slotsUsed := s₂.slotsUsed } : State).setVm s₂.vm).frames = .java g₀ :: r0 := hr
  obtain ⟨e2, p2, p3, p4, p5, p6⟩ := id q6
  have e3 : s₂ = ({ (U.calling gf mk av.toArray).setFrames s₂.frames with heap := s₂.heap, slotsUsed := s₂.slotsUsed } : State).setVm s₂.vm := by
    have : s₂ = ({ s₂ with vm := (U.calling gf mk av.toArray).vm } : State).setVm s₂.vm := rfl
    rw [e2] at this
    exact this
  have hsame : U.sameButNew ({ U with heap := s₂.heap, slotsUsed := s₂.slotsUsed } : State) L mc ms := by
    refine ⟨?_, p2, p3, p4, p5, p6⟩
    obtain ⟨t, ht, -⟩ := State.frames_cons hr
    show ({ U with heap := s₂.heap, slotsUsed := s₂.slotsUsed } : State) = { U.setFrames U.frames with heap := s₂.heap, slotsUsed := s₂.slotsUsed }
    rw [State.setFrames_self ht]
  have XB : Stand p (zl0 g) e R s m sargs below meth c (({ U with heap := s₂.heap, slotsUsed := s₂.slotsUsed } : State).setVm s₂.vm) (locs ++ L) (k + mc) (n + ms) := by
    subst hgm
    exact ⟨X.admits, X.cas, X.clock, X.frames, X.room, X.hears, X.method, X.code, (X.here.setHeapUsed s₂.heap s₂.slotsUsed).setVm hW'.alike, X.tail, State.WarmedH.trans X.warmed hW', X.limits, X.bytes, X.same.trans (hsame.setVm s.vm)⟩
  refine ⟨r, G1, (({ U with heap := s₂.heap, slotsUsed := s₂.slotsUsed } : State).setVm s₂.vm), L, q1, q2, q3', q4', hW', q7, XB, ?_⟩
  cases r with
  | inl v =>
    have q8' : o = .returned v := q8
    subst q8'
    obtain ⟨c₂, i₂, len₂, hc₂, hd₂, hf₂⟩ := hend
    have hcc : c₂ = c := by
      have h1 : s₂.code? gf.method = U.code? gf.method := by
        rw [State.code?_eq, State.code?_eq, hW'.alike.method?]
      exact Option.some.inj (hc₂.symm.trans (h1.trans h.code))
    subst hcc
    have hlen : len₂ = len := by rw [hdg] at hd₂; cases hd₂; rfl
    subst hlen
    refine Or.inl ⟨v, rfl, ?_⟩
    have hs₂ : s₂ = (({ U with heap := s₂.heap, slotsUsed := s₂.slotsUsed } : State).setVm s₂.vm).setTop { gf with pc := gf.pc + len₂, stack := v.toList ++ gf.stack } := by
      refine e3.trans ?_
      rw [hf₂, State.calling_eq h.top, State.setFrames_setFrames, State.setTop_of_frames _ hr', hr]
      rfl
    rw [← hs₂]
    exact hsteps
  | inr E =>
    obtain ⟨q, ce, q9, q10, q11, q12⟩ := q8
    subst q9
    have hf₂ : s₂.frames = .throwing q :: .java gf :: U.frames.tail := hend
    refine Or.inr ⟨E, q, ce, rfl, q10, q11, q12, ?_⟩
    have hs₂ : s₂ = ((({ U with heap := s₂.heap, slotsUsed := s₂.slotsUsed } : State).setVm s₂.vm).setTop gf).pushFrame (.throwing q) := by
      refine e3.trans ?_
      rw [hf₂, State.calling_eq h.top, State.setFrames_setFrames, State.pushFrame, State.frames_setTop _ hr', State.setTop_of_frames _ hr', State.setFrames_setFrames, hr]
      rfl
    rw [← hs₂]
    exact hsteps
section ZD
variable {g : zGt} {X : zX} {cc : ByteArray} {y : MethodName} {ret : Option FieldType} {tb : List (Nat × Nat × Nat × Nat)} {nl d mc ms : Nat} {Post : zRes → zG → Prop} {pc : Nat} {zl : List (Option Value)} {G : zG} {k n : Nat}
variable {y2 : MethodName} {cc2 : ByteArray} {nl2 : Nat} {ret2 : Option FieldType} {tb2 : List (Nat × Nat × Nat × Nat)} {mc2 ms2 idx : Nat} {av rest : List Value} {Post1 : zRes → zG → Prop}
/-- the pool's entry idx of class own names y2 -/
def zlk2 (own : String) (idx : Nat) (y2 : MethodName) : Prop := Cond.methodLink own idx y2 ∈ zTW ∨ ∃ host, Cond.methodLinkNest own idx y2 host ∈ zTW
theorem zlk2.a {own : String} {idx : Nat} {y2 : MethodName} (h : Cond.methodLink own idx y2 ∈ zTW) : zlk2 own idx y2 := Or.inl h
theorem zlk2.b {own : String} {idx : Nat} {y2 : MethodName} {host : String} (h : Cond.methodLinkNest own idx y2 host ∈ zTW) : zlk2 own idx y2 := Or.inr ⟨host, h⟩
theorem zcw_good {y : MethodName} {cc : ByteArray} {nl : Nat} {ret : Option FieldType} {tb : List (Nat × Nat × Nat × Nat)} : ((zcw y cc nl ret tb).onTables && (zcw y cc nl ret tb).keeps) = true := by
  cases tb <;> rfl
/-- a method that is named, with its code: static or not, it can be called -/
def zFit (y2 : MethodName) (cc2 : ByteArray) (nl2 : Nat) (ret2 : Option FieldType) (tb2 : List (Nat × Nat × Nat × Nat)) (n : Nat) : Prop :=
  Cond.initialized y2.cls ∈ zTW ∧ zcw y2 cc2 nl2 ret2 tb2 ∈ zTW ∧ (y2.cls ≠ "java/lang/invoke/MethodHandle" ∧ y2.cls ≠ "java/lang/invoke/VarHandle") ∧ (parseMethodDescriptor y2.desc).map (fun d => d.parameters.length) = some n ∧ nl2 ≤ 40
theorem zcall_go {p : Program} {e : Env} {R : Room} {s : State} {m : MethodId} {args : Array Value} {below : List Frame} {meth : Method} {c : Code} {A : Nat → Prop} {nL : Nat} (hX : zOK g (p, e, R, s, m, args, below, meth, c, A, nL) cc y ret tb nl d mc ms)
    (hM : zMet g y2 cc2 nl2 ret2 tb2 (d - 1) mc2 ms2 av G Post1) {N : Nat} (hF : zFit y2 cc2 nl2 ret2 tb2 N) (hwt : (rest.map fun v => v.category).sum ≤ 12) (hd1 : 1 ≤ d) (hk1 : k + mc2 ≤ mc) (hn1 : n + ms2 ≤ ms) {i0 : Instr} (hdg : decode cc pc = .ok (i0, 3))
    (kk : ∀ (v : Option Value) (G1 : zG), Post1 (.inl v) G1 → zw g (p, e, R, s, m, args, below, meth, c, A, nL) Post (pc + 3) zl (v.toList ++ rest) G1 (k + mc2) (n + ms2))
    (kx : ∀ (E : String) (G1 : zG), Post1 (.inr E) G1 → zt g (p, e, R, s, m, args, below, meth, c, A, nL) Post pc E zl G1 (k + mc2) (n + ms2))
    {H : Heap} {locs : List Loc} {L : Array Slot} (hR : zRep (zD g) (ztc g) A G H) (hS : va_S A s.heap H locs) (hL : zloc L nL zl) {T : State} (hT : T.heap = H) {vm₁ : Vm} (X₁ : Stand p (zl0 g) e R s m args below meth c (T.setVm vm₁) locs k n) {mk : MethodId} (hn : s.methodNamed? y2 = some mk) {gs : List Value}
    (hstep : ∀ target, (∀ acts, Steps p.tables e below (doInvoke e ((T.setVm vm₁).setTop (F0 m pc L rest)) acts mk av.toArray).1 target) → Steps p.tables e below (T.setTop (F0 m pc L gs)) target) :
    ∃ t, Steps p.tables e below (T.setTop (F0 m pc L gs)) t ∧ zEnd g below args s A R.cells R.slots Post t := by
  subst hT
  have hrm := hX.rm
  have c1 : k + mc2 ≤ R.cells := by rw [hrm]; exact hk1
  have c2 : n + ms2 ≤ R.slots := by rw [hrm]; exact hn1
  have c3 : d - 1 + 1 ≤ R.frames := by rw [hrm]; show d - 1 + 1 ≤ d; omega
  have c4 : 12 + (nl2 + 11) + 64 * (d - 1) ≤ R.locals := by
    rw [hrm]; show _ ≤ 64 * d
    have := hF.2.2.2.2
    omega
  have hWU : s.WarmedH (T.setVm vm₁).vm := X₁.warmed
  have hAf : zAft g (T.setVm vm₁) (T.setVm vm₁).heap := zAft.to hX.af hWU hX.A0 hS.1 hS.2.1
  have hsub : ∀ q, zA g G (T.setVm vm₁).heap.size q → A q := fun q hq => by
    rcases hq.1 with h | h
    · exact hR.inA h
    · exact hX.hA q (Nat.le_trans hS.1 h)
  have hRU : zRep (zD g) (ztc g) (zA g G (T.setVm vm₁).heap.size) G (T.setVm vm₁).heap := by
    obtain ⟨ws, h1, h2, h3, h4⟩ := hR
    refine ⟨ws, h1, h2.weaken (fun j q hj hq => ?_), h3, h4⟩
    obtain ⟨c9, h9, -⟩ := h4 j q hj
    exact ⟨Or.inl (by rw [h9]; exact fun z => by cases z), hX.A0 _ hq⟩
  obtain ⟨r, G1, B, L1, q1, q2, q3, q4, q5, q6, XB, q7⟩ := zback (W9 := 12) hM hX.gl X₁ (gf := F0 m pc L rest) rfl (by rw [hX.ml]; exact hL.size) (by rw [hX.cd]; exact hdg) (by show 2 * 0 + (rest.map fun v => v.category).sum ≤ 12; omega) (X₁.named hn)
    (word_at hAf.1 (Or.inl zcw_good) (hX.gl.1 _ hF.2.1)) (word_at hAf.1 (Or.inl rfl) (hX.gl.1 _ hF.1)) c3 c4 c1 c2 hRU hAf
  have hS1 : va_S A s.heap B.heap (locs ++ L1) := ⟨Nat.le_trans hS.1 q3, fun q h1 h2 => by rw [q4 q (Nat.lt_of_lt_of_le h1 hS.1) (fun z => h2 (hsub q z))]; exact hS.2.1 q h1 h2, fun q hq => by
      rcases List.mem_append.mp hq with h | h
      · exact hS.2.2 q h
      · exact hsub _ (q6 q h)⟩
  rcases q7 with ⟨v, rfl, hst⟩ | ⟨E, q, ce, rfl, h1, h2, h3, hst⟩
  · obtain ⟨t, a1, b1⟩ := kk v G1 q1 B.heap (locs ++ L1) L (q2.weaken hsub) hS1 hL c1 c2 B rfl XB
    exact ⟨t, hstep t fun acts => by rw [doInvoke_state]; exact hst.trans a1, b1⟩
  · have h3' : s.vm.findClass E = some ce.cls := by
      rw [← hWU.alike.findClass]
      exact h3
    obtain ⟨t, a1, b1⟩ := kx E G1 q1 B.heap (locs ++ L1) L rest q ce (q2.weaken hsub) hS1 hL c1 c2 h1 h2 h3' B rfl XB
    exact ⟨t, hstep t fun acts => by rw [doInvoke_state]; exact hst.trans a1, b1⟩
theorem zOK.wn {p : Program} {e : Env} {R : Room} {s : State} {m : MethodId} {args : Array Value} {below : List Frame} {meth : Method} {c : Code} {A : Nat → Prop} {nL : Nat} (hX : zOK g (p, e, R, s, m, args, below, meth, c, A, nL) cc y ret tb nl d mc ms) {own host : String} (hw : Cond.methodLinkNest own idx y2 host ∈ zTW) : (Cond.methodLinkNest own idx y2 host).before args s = true :=
  va_Nw.use rfl (va_Nw.warmM hX.af.1 (va_Nw.of rfl (hX.gl.1 _ hw)))
theorem zr_callS (hX : zOK g X cc y ret tb nl d mc ms) {st : List Value} (hM : zMet g y2 cc2 nl2 ret2 tb2 (d - 1) mc2 ms2 av G Post1) (hw1 : zlk2 y.cls idx y2) (hw2 : Cond.static y2 ∈ zTW) (hF : zFit y2 cc2 nl2 ret2 tb2 av.length) (hst : st = av.reverse ++ rest) (hwt : (rest.map fun v => v.category).sum ≤ 12) (hd1 : 1 ≤ d) (hk1 : k + mc2 ≤ mc) (hn1 : n + ms2 ≤ ms) (hd : decode cc pc = .ok (.invokestatic idx, 3))
    (kk : ∀ (v : Option Value) (G1 : zG), Post1 (.inl v) G1 → zw g X Post (pc + 3) zl (v.toList ++ rest) G1 (k + mc2) (n + ms2))
    (kx : ∀ (E : String) (G1 : zG), Post1 (.inr E) G1 → zt g X Post pc E zl G1 (k + mc2) (n + ms2)) : zw g X Post pc zl st G k n := by
  obtain ⟨p, e, R, s, m, args, below, meth, c, A, nL⟩ := X
  subst hst
  intro H locs L hR hS hL hk hn T hT X
  have hcode : (zcw y2 cc2 nl2 ret2 tb2).before args s = true := hX.wk hF.2.1 zcw_good
  obtain ⟨mk, hnamed⟩ : ∃ mk, s.methodNamed? y2 = some mk := by
    cases tb2 with
    | nil => exact Cond.code_named hcode
    | cons a r => obtain ⟨m9, -, -, h9, -⟩ := Cond.codeWith_spec hcode; exact ⟨m9, h9⟩
  obtain ⟨methM, cM, hmethM, -, -, -, -, -, -, hsigM⟩ := zcw_spec hnamed hcode
  have hstatic : methM.isStatic = true := Cond.static_spec hnamed hmethM (hX.wk hw2 rfl)
  obtain ⟨kP, hkP, -⟩ := className_of_methodNamed hnamed
  have hinitP : kP.init = .initialized := Cond.initialized_spec (findClass_of_methodNamed hnamed) hkP (hX.wk hF.1 rfl)
  have hlen : av.length = methM.sig.parameters.length := by
    have h9 := hF.2.2.2.1
    rw [hsigM] at h9
    exact (Option.some.inj h9).symm
  rcases hw1 with hw1 | ⟨host, hw1⟩
  · obtain ⟨vm₁, X₁, hstep₁⟩ := X.invokestatic hX.ex hX.ow (hX.wk hw1 rfl) hnamed hmethM hstatic hkP hinitP hF.2.2.1 (g := F0 m pc L (av.reverse ++ rest)) rfl (argsL := av) (rest := rest) hlen rfl (by rw [hX.cd]; exact hd)
    exact zcall_go hX hM hF hwt hd1 hk1 hn1 hd kk kx hR hS hL hT X₁ hnamed hstep₁
  · obtain ⟨vm₁, X₁, hstep₁⟩ := X.invokestaticNest hX.ex hX.ow (hX.wn hw1) hnamed hmethM hstatic hkP hinitP hF.2.2.1 (g := F0 m pc L (av.reverse ++ rest)) rfl (argsL := av) (rest := rest) hlen rfl (by rw [hX.cd]; exact hd)
    exact zcall_go hX hM hF hwt hd1 hk1 hn1 hd kk kx hR hS hL hT X₁ hnamed hstep₁
theorem zr_callV (hX : zOK g X cc y ret tb nl d mc ms) {st : List Value} {b ci M : Nat} {fs : List Value} {C : String} {T9 : u_T} (hM : zMet g y2 cc2 nl2 ret2 tb2 (d - 1) mc2 ms2 (.ref b :: av) G Post1) (hw1 : zlk2 y.cls idx y2) (hw2 : Cond.instanceMethod y2 ∈ zTW) (hw3 : Cond.selects C y2 y2 ∈ zTW) (hF : zFit y2 cc2 nl2 ret2 tb2 av.length) (hc : zcl[ci]? = some (C, T9, M)) (hG : G b = some (zO ci fs)) (hst : st = av.reverse ++ .ref b :: rest) (hwt : (rest.map fun v => v.category).sum ≤ 12) (hd1 : 1 ≤ d) (hk1 : k + mc2 ≤ mc) (hn1 : n + ms2 ≤ ms) (hd : decode cc pc = .ok (.invokevirtual idx, 3))
    (kk : ∀ (v : Option Value) (G1 : zG), Post1 (.inl v) G1 → zw g X Post (pc + 3) zl (v.toList ++ rest) G1 (k + mc2) (n + ms2))
    (kx : ∀ (E : String) (G1 : zG), Post1 (.inr E) G1 → zt g X Post pc E zl G1 (k + mc2) (n + ms2)) : zw g X Post pc zl st G k n := by
  obtain ⟨p, e, R, s, m, args, below, meth, c, A, nL⟩ := X
  subst hst
  intro H locs L hR hS hL hk hn T hT X
  have hcode : (zcw y2 cc2 nl2 ret2 tb2).before args s = true := hX.wk hF.2.1 zcw_good
  obtain ⟨mk, methM, hnamed, hmethM, hstM, habM⟩ := Cond.instanceMethod_spec (hX.wk hw2 rfl)
  obtain ⟨methM', cM, hmethM', -, -, -, -, -, -, hsigM⟩ := zcw_spec hnamed hcode
  cases hmethM.symm.trans hmethM'
  obtain ⟨cellB, hcB, hoB, hclB⟩ : ∃ cell : Cell, H[b]? = some cell ∧ cell.vm.isStatics = false ∧ s.vm.findClass C = some cell.cls := by
    obtain ⟨ws, h1, h2, h3, h4⟩ := hR
    obtain ⟨q, hq⟩ := h3 b _ hG
    exact va_recv hX.K h1 hc hq
  obtain ⟨c2, r2, m2, q1, q2, q3, q4, kP, hkP, hkPi⟩ := Cond.selects_spec (hX.wk hw3 rfl)
  cases hclB.symm.trans q1
  cases (State.methodFound?_of_named hnamed hF.2.2.1).symm.trans q2
  cases hnamed.symm.trans q3
  have hselP : selectMethod e.platform s.vm cellB.cls mk = .method mk := by rw [Launch.admits_selectMethod X.admits]; exact q4
  have hlen : av.length = methM.sig.parameters.length := by
    have h9 := hF.2.2.2.1
    rw [hsigM] at h9
    exact (Option.some.inj h9).symm
  rcases hw1 with hw1 | ⟨host, hw1⟩
  · obtain ⟨vm₁, X₁, hstep₁⟩ := X.invokevirtual hX.ex hX.ow (hX.wk hw1 rfl) hnamed hmethM hstM hkP hkPi hF.2.2.1 (a := b) (cell := cellB) (by rw [hT]; exact hcB) (fun z h => by rw [h] at hoB; cases hoB) hselP hmethM habM hkP hkPi (g := F0 m pc L (av.reverse ++ .ref b :: rest)) rfl (argsL := av) (rest := rest) hlen rfl (by rw [hX.cd]; exact hd)
    exact zcall_go hX hM hF hwt hd1 hk1 hn1 hd kk kx hR hS hL hT X₁ hnamed hstep₁
  · obtain ⟨vm₁, X₁, hstep₁⟩ := X.invokevirtualNest hX.ex hX.ow (hX.wn hw1) hnamed hmethM hstM hkP hkPi hF.2.2.1 (a := b) (cell := cellB) (by rw [hT]; exact hcB) (fun z h => by rw [h] at hoB; cases hoB) hselP hmethM habM hkP hkPi (g := F0 m pc L (av.reverse ++ .ref b :: rest)) rfl (argsL := av) (rest := rest) hlen rfl (by rw [hX.cd]; exact hd)
    exact zcall_go hX hM hF hwt hd1 hk1 hn1 hd kk kx hR hS hL hT X₁ hnamed hstep₁
theorem zr_callI (hX : zOK g X cc y ret tb nl d mc ms) {st : List Value} {b : Nat} (hM : zMet g y2 cc2 nl2 none [] (d - 1) mc2 ms2 (.ref b :: av) G Post1) (hw1 : zlk2 y.cls idx y2) (hy1 : y2.name = "<init>") (hw2 : Cond.instanceMethod y2 ∈ zTW) (hF : zFit y2 cc2 nl2 none [] av.length) (hst : st = av.reverse ++ .ref b :: rest) (hwt : (rest.map fun v => v.category).sum ≤ 12) (hd1 : 1 ≤ d) (hk1 : k + mc2 ≤ mc) (hn1 : n + ms2 ≤ ms) (hd : decode cc pc = .ok (.invokespecial idx, 3))
    (kk : ∀ (v : Option Value) (G1 : zG), Post1 (.inl v) G1 → zw g X Post (pc + 3) zl (v.toList ++ rest) G1 (k + mc2) (n + ms2))
    (kx : ∀ (E : String) (G1 : zG), Post1 (.inr E) G1 → zt g X Post pc E zl G1 (k + mc2) (n + ms2)) : zw g X Post pc zl st G k n := by
  obtain ⟨p, e, R, s, m, args, below, meth, c, A, nL⟩ := X
  subst hst
  intro H locs L hR hS hL hk hn T hT X
  have hcode : (Cond.code y2 cc2 nl2 none).before args s = true := hX.wk hF.2.1 rfl
  have hpl : e.platform.magicAccessors = ({} : Platform).magicAccessors := by rw [X.admits.platform]
  have hlen : ∀ sig, parseMethodDescriptor y2.desc = some sig → av.length = sig.parameters.length := fun sig h => by
    have h9 := hF.2.2.2.1
    rw [h] at h9
    exact (Option.some.inj h9).symm
  rcases hw1 with hw1 | ⟨host, hw1⟩
  · obtain ⟨mk, methM, cM, kP, vm₁, hnamed, hmethM, hcodeM, -, hlocalsM, -, hkP, -, hW₁, hstep₁⟩ := Steps.initColdArgs (e := e) X.here hX.ex X.warmed hpl hX.ow hy1 hF.2.2.1 (hX.wk hw1 rfl) (hX.wk hw2 rfl) hcode (f := F0 m pc L (av.reverse ++ .ref b :: rest)) rfl hlen rfl (by rw [hX.cd]; exact hd)
    exact zcall_go hX hM hF hwt hd1 hk1 hn1 hd kk kx hR hS hL hT (X.noted hW₁) hnamed hstep₁
  · obtain ⟨mk, methM, cM, kP, vm₁, hnamed, hmethM, hcodeM, -, hlocalsM, -, hkP, -, hW₁, hstep₁⟩ := Steps.initColdArgsNest (e := e) X.here hX.ex X.warmed hpl hX.ow hy1 hF.2.2.1 (hX.wn hw1) (hX.wk hw2 rfl) hcode (f := F0 m pc L (av.reverse ++ .ref b :: rest)) rfl hlen rfl (by rw [hX.cd]; exact hd)
    exact zcall_go hX hM hF hwt hd1 hk1 hn1 hd kk kx hR hS hL hT (X.noted hW₁) hnamed hstep₁
end ZD
