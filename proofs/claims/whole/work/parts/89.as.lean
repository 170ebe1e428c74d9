def R_law : String := "SurveyStoreLaw"
def lw_P (b : Addr) (xs : List Int32) (args : Array Value) (s : State) : Prop := args = #[.ref b] ∧ s.IntsAt b xs ∧ xs.length ≤ 3584 ∧ (Jvm.Cond.and given_1 narrow_1).before args s = true
def lw_Q (_ : Array Value) (s : State) (o : Outcome) (t : State) : Prop := o = .returned (some (.int 1)) ∧ Framed s o t [] 601024 7293034
def lw_Z (below : List Frame) (a : Array Value) (s : State) : State → Prop := fun t => ∃ o, t.status = .running ∧ Ended t below o ∧ lw_Q a s o t
/-- what holds at the law's entry: the machine, the code, the tables' words (any of lw_tbl by 'hts w (by decide +kernel)'), the script of L ints xs at the cell b, what the Statement gives of the start (any of its parts by flat_of_before) -/
def lw_At (p : Program) (s : State) (m : MethodId) (meth : Method) (c : Code) (b L : Nat) (xs : Nat → Int32) : Prop :=
  p.tables.exec = Jvm.exec ∧ c.code = code ∧ meth.sig.returnType = ret ∧ c.maxLocals = 7 ∧ s.vm.findClass R_law = some m.cls ∧ (∀ w ∈ lw_tbl, w.before #[Value.ref b] s = true) ∧ va_X b L xs s s.heap ∧ b < s.heap.size ∧ meth.locks = false ∧ (Jvm.Cond.and given_1 narrow_1).before #[Value.ref b] s = true
theorem zroom {s : State} {pl : Platform} (h : s.hasRoom pl room_1 = true) : s.hasRoom pl (zrm 1312 601024 7293034) = true := by
  unfold State.hasRoom at h ⊢
  simp only [Bool.and_eq_true, decide_eq_true_eq] at h ⊢
  obtain ⟨⟨⟨⟨h1, h2, h3, h4, h5, h6⟩, h7⟩, h8⟩, h9⟩ := h
  have e1 : room_1.locals = 84000 := rfl
  have e2 : room_1.frames = 2048 := rfl
  have f1 : (zrm 1312 601024 7293034).locals = 83968 := rfl
  have f2 : (zrm 1312 601024 7293034).frames = 1312 := rfl
  rw [e1] at h1 h4 h5
  rw [e2] at h2 h3
  rw [f1, f2]
  exact ⟨⟨⟨⟨by omega, by omega, by omega, by omega, by omega, h6⟩, h7⟩, h8⟩, h9⟩
theorem zarrT {s : State} {args : Array Value} {ty : FieldType} (h : (Cond.arrayClass ty).before args s = true) : ∃ cA, ArrOfT s cA ty ∧ s.vm.findClass ("[" ++ ty.toString) = some cA := by
  obtain ⟨c, k, comp, h1, h2, h3⟩ := Cond.arrayClass_spec h
  exact ⟨c, fun n z => ⟨fun k h => (by cases h), k, h2, comp, h3⟩, h1⟩
theorem zarrO {s : State} {args : Array Value} {C : String} (h : (Cond.arrayOver (.object C)).before args s = true) : ∃ cA, ArrOfT s cA (.object C) ∧ va_RA s cA (.object C) := by
  obtain ⟨comp, c, k, h1, h2, h3, h4, h5⟩ := Cond.arrayOver_spec h
  exact ⟨c, fun n z => ⟨fun k h => (by cases h), k, h3, comp, h4⟩, k, comp, h3, h4, h1, h5⟩
theorem zglob {s : State} {args : Array Value} {l : Launch} (hl : l.stackTraces = false) (hN : ∀ w ∈ zTW, w.before args s = true) : ∃ (D : va_G) (tc : Nat → ClassId), zGl (s, args, D, tc, l) := by
  obtain ⟨c0, i0, K0⟩ := u_known hN k_S.2.1 (hN _ q17)
  obtain ⟨c1, i1, K1⟩ := u_known hN k_C.2.1 (hN _ q34)
  obtain ⟨c2, i2, K2⟩ := u_known hN k_B.2.1 (hN _ q58)
  obtain ⟨c3, i3, K3⟩ := u_known hN k_K.2.1 (hN _ q581)
  obtain ⟨c4, i4, K4⟩ := u_known hN k_R.2.1 (hN _ q549)
  obtain ⟨c5, i5, K5⟩ := u_known hN k_T.2.1 (hN _ q300)
  obtain ⟨c6, i6, K6⟩ := u_known hN k_M.2.1 (hN _ q645)
  obtain ⟨a0, A0, B0⟩ := zarrT (hN _ q56)
  obtain ⟨a1, A1, B1⟩ := zarrT (hN _ q612)
  obtain ⟨a2, A2, B2⟩ := zarrT (hN _ q57)
  obtain ⟨a3, A3, B3⟩ := zarrO (hN _ q25)
  obtain ⟨a4, A4, B4⟩ := zarrO (hN _ q27)
  obtain ⟨a5, A5, B5⟩ := zarrO (hN _ q29)
  refine ⟨(fun k => match k with | 0 => c0 | 1 => c1 | 2 => c2 | 3 => c3 | 4 => c4 | 5 => c5 | _ => c6, fun k => match k with | 0 => i0 | 1 => i1 | 2 => i2 | 3 => i3 | 4 => i4 | 5 => i5 | _ => i6), fun k => match k with | 0 => a0 | 1 => a1 | 2 => a2 | 3 => a3 | 4 => a4 | _ => a5, hN, ⟨fun c q hq => ?_, fun c q hq => ?_⟩, hl⟩
  · obtain ⟨hlt, hq⟩ := List.getElem?_eq_some_iff.mp hq
    have hlt : c < 7 := hlt
    have : c = 0 ∨ c = 1 ∨ c = 2 ∨ c = 3 ∨ c = 4 ∨ c = 5 ∨ c = 6 := by omega
    rcases this with rfl | rfl | rfl | rfl | rfl | rfl | rfl <;> cases hq
    · exact K0
    · exact K1
    · exact K2
    · exact K3
    · exact K4
    · exact K5
    · exact K6
  · obtain ⟨hlt, hq⟩ := List.getElem?_eq_some_iff.mp hq
    have hlt : c < 6 := hlt
    have : c = 0 ∨ c = 1 ∨ c = 2 ∨ c = 3 ∨ c = 4 ∨ c = 5 := by omega
    rcases this with rfl | rfl | rfl | rfl | rfl | rfl <;> cases hq
    · exact ⟨A0, B0⟩
    · exact ⟨A1, B1⟩
    · exact ⟨A2, B2⟩
    · exact ⟨A3, B3⟩
    · exact ⟨A4, B4⟩
    · exact ⟨A5, B5⟩
theorem zsame {s t : State} {L : List Loc} {k n : Nat} (h : s.sameButNew t L k n) (hL : ∀ z ∈ L, s.heap.size ≤ z.base) : s.sameButNew t [] k n := by
  obtain ⟨h1, h2, h3, h4, h5, h6⟩ := h
  refine ⟨h1, h2, h3, h4, h5, fun a c ha => ?_⟩
  obtain ⟨c2, g1, g2, g3, g4⟩ := h6 a c ha
  refine ⟨c2, g1, g2, g3, fun i _ => g4 i (fun hi => ?_)⟩
  have h7 := hL _ hi
  have h8 : a < s.heap.size := (Array.getElem?_eq_some_iff.mp ha).1
  exact absurd h8 (Nat.not_lt.mpr h7)
/-- from the entry, for every script of at most 3584 ints, the law comes to its end with true -/
theorem whole_start {p : Program} {e : Env} {s : State} {m : MethodId} {below : List Frame} {meth : Method} {c : Code} (l : Launch) (hl : l.stackTraces = false) {b L : Nat} {xs : Nat → Int32} (hL : L ≤ 3584) (C0 : lw_At p s m meth c b L xs) (hnm : meth.name = "law") (htb : c.exceptionTable.toList = tableOf []) : W p l e room_1 s m #[Value.ref b] below meth c s.heap [] 0 0 (lw_Z below #[Value.ref b] s) (entryFrame m ([Value.ref b] : List Value).toArray 7) := by
  obtain ⟨hx, hcd, hret, hml, hown, hts, hXs, hbl, hlk, hgv⟩ := C0
  have hf := flat_of_before _ hgv
  have hN : ∀ w ∈ zTW, w.before #[Value.ref b] s = true := fun w hw => by
    rcases List.mem_append.mp hw with h | h
    · exact hts w h
    · rcases List.mem_cons.mp h with rfl | h
      · exact hf _ (by decide +kernel)
      rcases List.mem_cons.mp h with rfl | h
      · exact hf _ (by decide +kernel)
      rcases List.mem_cons.mp h with rfl | h
      · exact hf _ (by decide +kernel)
      · cases h
  obtain ⟨D, tc, hG⟩ := zglob hl hN
  have hX : zOK (s, #[Value.ref b], D, tc, l) (p, e, zrm 1312 601024 7293034, s, m, #[Value.ref b], below, meth, c, (fun q => s.heap.size ≤ q), 7) b_L_law y_L_law (some .boolean) [] 7 1312 601024 7293034 :=
    ⟨hG, hx, hcd, hml, rfl, hown, hnm, ⟨State.WarmedH.refl _, Nat.le_refl _, fun _ _ => rfl⟩, fun _ h => h, fun _ h => h, hlk, hret, htb, rfl⟩
  have hR : zRep D tc (fun q => s.heap.size ≤ q) (fun _ => none) s.heap :=
    ⟨[], fun k q h => (by simp at h), ⟨fun i j p q h => (by simp at h), fun k q h => (by simp at h)⟩, fun a c h => (by cases h), fun k q h => (by simp at h)⟩
  have K := lw_begin hX (by decide) (b := b) (L := L) (xs := xs) ⟨hXs, hbl, fun h => absurd hbl (Nat.not_lt.mpr h)⟩ hL s.heap [] _ hR va_S.rf (zloc_entry [Value.ref b] (n := 7) (Nat.le_of_ble_eq_true rfl)) (Nat.zero_le _) (Nat.zero_le _)
  rw [lg_entry_eq]
  intro T hT X
  obtain ⟨t, a1, o, b1, b2, b3⟩ := K T hT ⟨X.admits, X.cas, X.clock, X.frames, zroom X.room, X.hears, X.method, X.code, X.here, X.tail, X.warmed, X.limits, X.bytes, X.same⟩
  obtain ⟨r, G, Lc, q1, q2, q3, q4, q5, q6, q7⟩ := b3
  cases q1
  exact ⟨t, a1, o, b1, b2, q7, ⟨_, q7⟩, q4, zsame q5 q6⟩
set_option maxHeartbeats 4000000 in
theorem lw_walk (l : Launch) (hl : l.stackTraces = false) (b : Addr) (xs : List Int32) : MetFree l x (headSpec (Jvm.Cond.code x code maxLocals ret :: tables_1) room_1) (lw_P b xs) (fun _ _ _ _ _ => True) lw_Q := by
  refine MetFree.of_bodyS (code := code) (maxLocals := maxLocals) (ret := ret) (by decide) ?_ ?_
  · intro args s m h hn
    obtain ⟨meth, c, h1, h2, h3, h4, h5, h6, -, -⟩ := Cond.code_spec hn (atoms_spec (ws := Jvm.Cond.code x code maxLocals ret :: tables_1) h _ List.mem_cons_self)
    exact ⟨meth, c, h1, h2, h3, h4, h5, h6⟩
  · intro p e s m args below meth c s₁ B hml0 hP _
    obtain ⟨rfl, hx, hbd, hgv⟩ := hP
    obtain ⟨scr, harrAt, hlist, hof, hsmall⟩ := hx
    obtain ⟨hcb, hkn, -, -⟩ := State.arrayAt?_spec harrAt
    have hown : s.vm.findClass R_law = some m.cls := findClass_of_methodNamed B.named
    have hts0 : ∀ c ∈ (Jvm.Cond.code x code maxLocals ret :: tables_1), c.before #[Value.ref b] s = true := atoms_spec (ws := Jvm.Cond.code x code maxLocals ret :: tables_1) B.pre
    have hts : ∀ w ∈ lw_tbl, w.before #[Value.ref b] s = true := k2_hts_sels lw_privs (fun w hw => hts0 w (List.mem_cons_of_mem _ hw)) lw_privs_ok
    have hml : c.maxLocals = 7 := B.maxLocals_eq (hts0 _ List.mem_cons_self)
    have X₀ : Stand p l e room_1 s m #[Value.ref b] below meth c s₁ [] 0 0 := Stand.of_body B
    have hh0 : s₁.heap = s.heap := by rw [B.state]; rfl
    have hsz : scr.slots.size = xs.length := by rw [← Array.length_toList, hlist, List.length_map]
    have hval : ∀ j : Nat, j < xs.length → scr.slots[j]? = some (.int (xs.getD j 0)) := fun j hj => by
      rw [← Array.getElem?_toList, hlist]
      simp [hj]
    have hbl : b < s.heap.size := (Array.getElem?_eq_some_iff.mp hcb).1
    have hX : va_X b xs.length (fun j => xs.getD j 0) s s.heap := ⟨scr, hcb, hof, hkn, hsz, hval⟩
    have K : W p l e room_1 s m #[Value.ref b] below meth c s₁.heap [] 0 0 (lw_Z below #[Value.ref b] s) (entryFrame m ([Value.ref b] : List Value).toArray 7) := by
      rw [hh0]
      obtain ⟨meth9, c9, y1, y2, -, -, -, -, y7, -⟩ := Cond.code_spec B.named (hts0 _ List.mem_cons_self)
      cases Option.some.inj (y1.symm.trans B.method)
      cases Option.some.inj (y2.symm.trans (Stand.of_body B).code)
      exact whole_start l hl hbd ⟨B.exec, B.bytes, B.returns, hml, hown, hts, hX, hbl, B.notSynchronized, hgv⟩ (name_of_methodNamed B.named B.method).1 (by rw [Array.isEmpty_iff.mp y7]; rfl)
    obtain ⟨t, a1, o, b1, b2, b3⟩ := K s₁ rfl X₀
    exact ⟨t, o, a1, b1, b2, b3⟩
theorem lw_pre_spec {args : Array Value} {s : State} (h : (Jvm.Cond.and given_1 narrow_1).before args s = true) (hr : rest_1_c.before args s = true) : ∃ (b : Addr) (xs : List Int32), lw_P b xs args s := by
  have hs := flat_of_before _ h
  have hq := flat_of_before _ hr
  have hc : (Cond.count 1).before args s = true := hs _ (by decide +kernel)
  have harr : (Cond.arrayOf (.arg 0) .int).before args s = true := hs _ (by decide +kernel)
  have hle : (Cond.le (.length (.arg 0)) (.int 3584)).before args s = true := hs _ (by decide +kernel)
  have hlen : (Cond.isInt (.length (.arg 0))).before args s = true := hq _ (by decide +kernel)
  have hall : (Cond.all (.arg 0) (.isInt (.elem (.arg 0) (.index 0)))).before args s = true := hq _ (by decide +kernel)
  obtain ⟨b, xs, hb, hx⟩ := State.ints_of_pre rfl harr hlen hall
  have hsm : xs.length < 2 ^ 31 := hx.choose_spec.2.2.2
  have hev : (Term.length (.arg 0)).eval args s none [] s = some (.int xs.length.toInt32) := hx.length_eval hb
  have hv := Cond.le_ints hev (show (Term.int 3584).eval args s none [] s = some (.int 3584) from rfl)
  have hd : xs.length.toInt32 ≤ 3584 := by
    simpa [Cond.before, Cond.holds, hv] using hle
  have hN : xs.length ≤ 3584 := (Int32.ofNat_le_ofNat hsm (by decide)).mp (show Int32.ofNat xs.length ≤ Int32.ofNat 3584 from hd)
  exact ⟨b, xs, Cond.one_arg hc (show args[0]? = some (.ref b) from hb), hx, hN, h⟩
theorem lw_comes (l : Launch) (hl : l.stackTraces = false) : Comes l x (Jvm.Cond.code x code maxLocals ret :: tables_1) room_1 (fun tb e args s => Calls_1 tb e args s ∧ rest_1 tb e args s ∧ Pre_1 tb e args s)
    (fun _ _ args s o t => lw_Q args s o t) := by
  intro p e ha hc hk s m args below hf hfit hheap happ hpre
  obtain ⟨b, xs, hP⟩ := lw_pre_spec hpre.2.2 hpre.2.1
  obtain ⟨k, o, h1, h2, h3, hQ⟩ := lw_walk l hl b xs p e ha hc hk s m args below hf ((Spec.applies_iff_loose hf).mp happ).1 hP trivial
  exact ⟨k, o, h1, h2, h3, hQ⟩
theorem lw_frame {s t : State} {o : Outcome} {args : Array Value} (h : Framed s o t [] 601024 7293034) :
    Framed s o t (fieldLocs frame_1_writes args s ++ arrayLocs frame_1_arrays args s ++ staticLocs frame_1_statics s) 601024 7293034 := h
theorem lw_limb (L : Cond) (hL : ∀ (args : Array Value) (s t : State), L.after args s (.returned (some (.int 1))) t = true) :
    ArmFor flags0 classFile x code maxLocals ret World_1 tables_1 room_1 Calls_1 rest_1 Pre_1
      (fun tb e a s o t => postC L tb e a s o t ∧ Framed s o t (fieldLocs frame_1_writes a s ++ arrayLocs frame_1_arrays a s ++ staticLocs frame_1_statics s) 601024 7293034) := by
  intro l hfl _ _ p e ha hc hk s m args below hf hfit hheap happ hpre
  have hl : l.stackTraces = false := by
    unfold Launch.stackTraces
    rw [hfl]
    decide +kernel
  obtain ⟨k, o, h1, h2, h3, rfl, hF⟩ := lw_comes l hl p e ha hc hk s m args below hf hfit hheap happ hpre
  exact ⟨k, _, h1, h2, h3, hL args s _, lw_frame hF⟩
theorem i_vc : Claimed_1_1 ∧ Claimed_1_2 := ⟨lw_limb limb_1_1 (fun args s t => by simp [limb_1_1, Cond.after, Cond.holds, Cond.value]), lw_limb limb_1_2 (fun args s t => Cond.after_iff.mpr (by
  first | (rw [show limb_1_2 = Cond.eq .result (.int 1) from rfl, Cond.eq_ints (x := 1) (y := 1) rfl rfl]; simp; done) | (simp [limb_1_2, Cond.value, Term.eval]; done)))⟩
