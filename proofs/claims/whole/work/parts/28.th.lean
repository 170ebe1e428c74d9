/-- words that stay, 'declares' among them -/
def zkind2 (w : Cond) : Bool := match w with
  | .declares _ => true
  | w => zkind w
theorem zword2 {g : zGt} {U : State} {args : Array Value} (hg : zGl g) (hA : zAft g U U.heap) {w : Cond} (hw : w ∈ zTW) (hk : zkind2 w = true)
    (hq : Cond.laysStatic Bundle.tN "UNASSIGNED_STACK" Bundle.steD ∈ zTW ∧ Cond.laysStatic Bundle.tN "SUPPRESSED_SENTINEL" Bundle.listD ∈ zTW ∧ Cond.initialized Bundle.tN ∈ zTW) : w.before args U = true := by
  unfold zkind2 at hk
  split at hk
  · exact va_Nw.use rfl (va_Nw.warmD hA.1 (va_Nw.of rfl (hg.1 _ hw)))
  · exact zword hg hA hw hk hq
theorem zr_throw1 {g : zGt} {X : zX} {cc : ByteArray} {y : MethodName} {ret : Option FieldType} {tb : List (Nat × Nat × Nat × Nat)} {nl d mc ms : Nat} {Post : zRes → zG → Prop} {pc : Nat} {zl : List (Option Value)} {G : zG} {k n : Nat} (hX : zOK g X cc y ret tb nl d mc ms) {st : List Value} {E : String} {names : List String} {ik ic : Nat} (hE : Bundle.fit E = true) (hns : ∀ n ∈ names, Bundle.fit n = true)
    (hat : ∀ w ∈ Cond.classLink y.cls ik E :: Cond.initialized E :: Bundle.ownAtoms0 y.cls ic E names, w ∈ zTW ∧ zkind2 w = true) (hq : Cond.laysStatic Bundle.tN "UNASSIGNED_STACK" Bundle.steD ∈ zTW ∧ Cond.laysStatic Bundle.tN "SUPPRESSED_SENTINEL" Bundle.listD ∈ zTW ∧ Cond.initialized Bundle.tN ∈ zTW)
    (d0 : decode cc pc = .ok (.new ik, 3)) (d3 : decode cc (pc + 3) = .ok (.dup, 1)) (d4 : decode cc (pc + 4) = .ok (.invokespecial ic, 3)) (d7 : decode cc (pc + 7) = .ok (.athrow, 1)) (hout : ∀ x ∈ tableOf tb, covers x (pc + 7) = false)
    (hd1 : names.length + 4 ≤ d) (hwt : (st.map fun v => v.category).sum ≤ 12) (hk1 : k + 1 ≤ mc) (hn1 : n + 6 ≤ ms) (hp : Post (.inr E) G) : zw g X Post pc zl st G k n := by
  obtain ⟨p, e, R, s, m, args, below, meth, c, A, nL⟩ := X
  intro H locs L hR hS hL hk hn T hT X
  have hrm := hX.rm
  have c1 : k + 1 ≤ R.cells := by rw [hrm]; exact hk1
  have c2 : n + 6 ≤ R.slots := by rw [hrm]; exact hn1
  have c3 : names.length + 3 < R.frames := by rw [hrm]; show _ < d; omega
  have c4 : (st.map fun v => v.category).sum + (13 * (names.length + 1) + 43) ≤ R.locals := by rw [hrm]; show _ ≤ 64 * d; omega
  have htr : e.platform.stackTraces = false := (show e.platform.stackTraces = (zl0 g).stackTraces by rw [X.admits.platform]).trans hX.gl.2.2
  have Y := zanew X c1 c2
  obtain ⟨s', hA⟩ : ∃ z, z = (T.setVm s.vm).setFrames (.invoking m args :: below) := ⟨_, rfl⟩
  rw [← hA] at Y
  have hvm : s'.vm = s.vm := by rw [hA]; rfl
  have hhp : s'.heap = H := by rw [hA]; exact hT
  have hAf : zAft g s' s'.heap := by
    rw [hhp]
    exact zAft.to hX.af (by rw [hvm]; exact State.WarmedH.refl s) hX.A0 hS.1 hS.2.1
  have hat' : ∀ w ∈ Cond.classLink y.cls ik E :: Cond.initialized E :: Bundle.ownAtoms0 y.cls ic E names, w.before args s' = true := fun w hw => zword2 hX.gl hAf (hat w hw).1 (hat w hw).2 hq
  have h : ∀ w ∈ Bundle.ownAtoms0 y.cls ic E names, w.before args s' = true := fun w hw => hat' w (List.mem_cons_of_mem _ (List.mem_cons_of_mem _ hw))
  have hown' : s'.vm.findClass y.cls = some m.cls := by rw [hvm]; exact hX.ow
  have hins : (Cond.instantiable E 6).before args s' = true := h _ (by simp [Bundle.ownAtoms0])
  obtain ⟨vm₁, cX, kX, hfX, hkX, -, -, X₁, st1⟩ := Y.newCold hX.ex (own := y.cls) (C := E) (index := ik) (n := 6) hown' (hat' _ List.mem_cons_self) hins (hat' _ (List.mem_cons_of_mem _ List.mem_cons_self))
    (g := F0 m pc L st) rfl (by rw [hX.cd]; exact d0) (Nat.le_refl _) (Nat.le_refl _)
  generalize hT1 : (T.setVm vm₁).pushCell { cls := cX, slots := kX.instanceTypes.map defaultValue, vm := .none } = T1 at X₁ st1
  have hcat : (Value.ref T.heap.size).category = 1 := rfl
  have hcellA : T1.heap[T.heap.size]? = some (freshCell cX kX) := by rw [← hT1]; exact State.heap_pushCell_size _ _
  have d3' : decode c.code (pc + 3) = .ok (.dup, 1) := by rw [hX.cd]; exact d3
  obtain ⟨U, hsteps, hrun, hend, hW, hsame, ce, hce, hO⟩ := X₁.ctorThrow0 hX.ex htr (own := y.cls) (cls := E) (names := names) (ic := ic) hown' hE hns h (fun x hx => nomatch hx) hfX hkX hcellA (by rw [hhp, hT]; exact Nat.le_refl _)
    (g := { method := m, pc := pc + 4, locals := L, stack := .ref T.heap.size :: .ref T.heap.size :: st, locked := none }) rfl (by rw [hX.ml]; exact hL.size) rfl rfl (rest := st) rfl
    (by rw [hX.cd]; exact d4) (by rw [hX.cd]; exact d7) (by rw [hX.tq]; exact hout) c3 (by simp only [List.map_cons, List.sum_cons, hcat]; show 2 * 0 + _ + _ ≤ R.locals; omega) hX.lk
  have hfr : H.size ≤ U.heap.size ∧ ∀ q : Nat, q < H.size → U.heap[q]? = H[q]? := by
    obtain ⟨-, h2, -, -, -, h6⟩ := hsame
    rw [hhp] at h2
    refine ⟨h2, fun q hq9 => ?_⟩
    have hq8 : q < s'.heap.size := by rw [hhp]; exact hq9
    obtain ⟨c9, e1, e2, e3, e4⟩ := h6 q _ (Array.getElem?_eq_getElem hq8)
    have hs9 : c9.slots = (s'.heap[q]).slots := Array.ext_getElem? fun i => e4 i fun hm => nomatch hm
    have h9 : c9 = s'.heap[q] := by
      rw [hs9] at e2
      exact e2
    have e5 : U.heap[q]? = some c9 := e1
    rw [e5, h9, ← Array.getElem?_eq_getElem hq8, hhp]
  have hWs : s.WarmedH U.vm := by
    have h9 : s'.WarmedH U.vm := hW
    exact State.WarmedH.trans (show s.WarmedH s'.vm by rw [hvm]; exact State.WarmedH.refl s) h9
  have hcl : s.vm.findClass E = some ce.cls := by
    have h9 := hO.cls
    rw [hvm] at h9
    exact h9
  have hall : s.sameButNew ({ U with vm := s.vm } : State) locs R.cells R.slots := by
    subst hA
    obtain ⟨e1, e2⟩ := hsame
    rw [State.setFrames_setFrames] at e1
    have h2 : (T.setVm s.vm).sameButNew ({ U with vm := s.vm } : State) [] (0 + 1) (0 + 6) := ⟨e1, e2⟩
    have h3 := X.same.trans h2
    rw [List.append_nil] at h3
    exact h3.mono (by omega) (by omega)
  refine ⟨U, ?_, .threw T.heap.size, hrun, hend, .inr E, G, locs, hp, hR.kept hfr.2, ⟨Nat.le_trans hS.1 hfr.1, fun q h1 h2 => by rw [hfr.2 q (Nat.lt_of_lt_of_le h1 hS.1)]; exact hS.2.1 q h1 h2⟩, hWs, hall, hS.2.2, _, ce, rfl, hce, hO.vm, hcl⟩
  refine st1 _ ?_
  show Steps p.tables e below (T1.setTop { method := m, pc := pc + 3, locals := L, stack := .ref T.heap.size :: st, locked := none }) _
  jvm_step X₁.here [X₁.here.top, hX.ex, d3', Value.category]
  exact hsteps
theorem zal {α : Type} {P : α → Prop} {a : α} {l : List α} (h : P a) (t : ∀ w ∈ l, P w) : ∀ w ∈ a :: l, P w := fun w hw => (List.mem_cons.mp hw).elim (fun e => e ▸ h) (t w)
theorem zan {α : Type} {P : α → Prop} : ∀ w ∈ ([] : List α), P w := fun _ hw => nomatch hw
theorem zat_iae : ∀ w ∈ Cond.classLink "SurveyStore" 81 "java/lang/IllegalArgumentException" :: Cond.initialized "java/lang/IllegalArgumentException" :: Bundle.ownAtoms0 "SurveyStore" 83 "java/lang/IllegalArgumentException" ["java/lang/RuntimeException", "java/lang/Exception"], w ∈ zTW ∧ zkind2 w = true :=
  (zal ⟨q354, rfl⟩ (zal ⟨q10, rfl⟩ (zal ⟨q7, rfl⟩ (zal ⟨q376, rfl⟩ (zal ⟨q385, rfl⟩ (zal ⟨q388, rfl⟩ (zal ⟨q391, rfl⟩ (zal ⟨q393, rfl⟩ (zal ⟨q377, rfl⟩ (zal ⟨q378, rfl⟩ (zal ⟨q22, rfl⟩ (zal ⟨q23, rfl⟩ (zal ⟨q379, rfl⟩ (zal ⟨q384, rfl⟩ (zal ⟨q389, rfl⟩ (zal ⟨q405, rfl⟩ (zal ⟨q366, rfl⟩ (zal ⟨q406, rfl⟩ (zal ⟨q368, rfl⟩ (zal ⟨q407, rfl⟩ (zal ⟨q370, rfl⟩ (zal ⟨q380, rfl⟩ (zal ⟨q381, rfl⟩ (zal ⟨q382, rfl⟩ (zal ⟨q383, rfl⟩ (zal ⟨q372, rfl⟩ (zal ⟨q395, rfl⟩ (zal ⟨q396, rfl⟩ (zal ⟨q397, rfl⟩ (zal ⟨q398, rfl⟩ (zal ⟨q357, rfl⟩ (zal ⟨q398, rfl⟩ (zal ⟨q399, rfl⟩ (zal ⟨q400, rfl⟩ (zal ⟨q401, rfl⟩ (zal ⟨q359, rfl⟩ (zal ⟨q401, rfl⟩ (zal ⟨q402, rfl⟩ (zal ⟨q403, rfl⟩ (zal ⟨q377, rfl⟩ (zal ⟨q361, rfl⟩ (zal ⟨q394, rfl⟩ (zal ⟨q355, rfl⟩ (zal ⟨q356, rfl⟩ (zal ⟨q363, rfl⟩ (zal ⟨q364, rfl⟩ (zal ⟨q365, rfl⟩ (zal ⟨q367, rfl⟩ (zal ⟨q369, rfl⟩ (zal ⟨q371, rfl⟩ (zal ⟨qn0, rfl⟩ (zal ⟨qn1, rfl⟩ (zal ⟨q375, rfl⟩ (zal ⟨q374, rfl⟩ (zal ⟨q373, rfl⟩ zan)))))))))))))))))))))))))))))))))))))))))))))))))))))))
theorem zr_iae {g : zGt} {X : zX} {cc : ByteArray} {y : MethodName} {ret : Option FieldType} {nl d mc ms : Nat} {Post : zRes → zG → Prop} {pc : Nat} {zl : List (Option Value)} {G : zG} {k n : Nat} (hX : zOK g X cc y ret [] nl d mc ms) (hy : y.cls = "SurveyStore") {st : List Value} (d0 : decode cc pc = .ok (.new 81, 3)) (d3 : decode cc (pc + 3) = .ok (.dup, 1)) (d4 : decode cc (pc + 4) = .ok (.invokespecial 83, 3)) (d7 : decode cc (pc + 7) = .ok (.athrow, 1)) (hd1 : 6 ≤ d) (hwt : (st.map fun v => v.category).sum ≤ 12) (hk1 : k + 1 ≤ mc) (hn1 : n + 6 ≤ ms) (hp : Post (.inr "java/lang/IllegalArgumentException") G) : zw g X Post pc zl st G k n :=
  zr_throw1 hX (E := "java/lang/IllegalArgumentException") (names := ["java/lang/RuntimeException", "java/lang/Exception"]) (ik := 81) (ic := 83) (by decide) (by decide) (by rw [hy]; exact zat_iae) ⟨q381, q383, q7⟩ d0 d3 d4 d7 (fun _ hx => nomatch hx) hd1 hwt hk1 hn1 hp
theorem zat_ise : ∀ w ∈ Cond.classLink "SurveyStore" 88 "java/lang/IllegalStateException" :: Cond.initialized "java/lang/IllegalStateException" :: Bundle.ownAtoms0 "SurveyStore" 90 "java/lang/IllegalStateException" ["java/lang/RuntimeException", "java/lang/Exception"], w ∈ zTW ∧ zkind2 w = true :=
  (zal ⟨q416, rfl⟩ (zal ⟨q11, rfl⟩ (zal ⟨q7, rfl⟩ (zal ⟨q376, rfl⟩ (zal ⟨q385, rfl⟩ (zal ⟨q388, rfl⟩ (zal ⟨q391, rfl⟩ (zal ⟨q393, rfl⟩ (zal ⟨q377, rfl⟩ (zal ⟨q378, rfl⟩ (zal ⟨q22, rfl⟩ (zal ⟨q23, rfl⟩ (zal ⟨q379, rfl⟩ (zal ⟨q384, rfl⟩ (zal ⟨q389, rfl⟩ (zal ⟨q405, rfl⟩ (zal ⟨q366, rfl⟩ (zal ⟨q406, rfl⟩ (zal ⟨q368, rfl⟩ (zal ⟨q407, rfl⟩ (zal ⟨q370, rfl⟩ (zal ⟨q380, rfl⟩ (zal ⟨q381, rfl⟩ (zal ⟨q382, rfl⟩ (zal ⟨q383, rfl⟩ (zal ⟨q372, rfl⟩ (zal ⟨q426, rfl⟩ (zal ⟨q427, rfl⟩ (zal ⟨q428, rfl⟩ (zal ⟨q398, rfl⟩ (zal ⟨q357, rfl⟩ (zal ⟨q398, rfl⟩ (zal ⟨q399, rfl⟩ (zal ⟨q400, rfl⟩ (zal ⟨q401, rfl⟩ (zal ⟨q359, rfl⟩ (zal ⟨q401, rfl⟩ (zal ⟨q402, rfl⟩ (zal ⟨q403, rfl⟩ (zal ⟨q377, rfl⟩ (zal ⟨q361, rfl⟩ (zal ⟨q425, rfl⟩ (zal ⟨q417, rfl⟩ (zal ⟨q418, rfl⟩ (zal ⟨q419, rfl⟩ (zal ⟨q387, rfl⟩ (zal ⟨q420, rfl⟩ (zal ⟨q421, rfl⟩ (zal ⟨q422, rfl⟩ (zal ⟨q423, rfl⟩ (zal ⟨qn0, rfl⟩ (zal ⟨qn1, rfl⟩ (zal ⟨q375, rfl⟩ (zal ⟨q374, rfl⟩ (zal ⟨q424, rfl⟩ zan)))))))))))))))))))))))))))))))))))))))))))))))))))))))
theorem zr_ise {g : zGt} {X : zX} {cc : ByteArray} {y : MethodName} {ret : Option FieldType} {nl d mc ms : Nat} {Post : zRes → zG → Prop} {pc : Nat} {zl : List (Option Value)} {G : zG} {k n : Nat} (hX : zOK g X cc y ret [] nl d mc ms) (hy : y.cls = "SurveyStore") {st : List Value} (d0 : decode cc pc = .ok (.new 88, 3)) (d3 : decode cc (pc + 3) = .ok (.dup, 1)) (d4 : decode cc (pc + 4) = .ok (.invokespecial 90, 3)) (d7 : decode cc (pc + 7) = .ok (.athrow, 1)) (hd1 : 6 ≤ d) (hwt : (st.map fun v => v.category).sum ≤ 12) (hk1 : k + 1 ≤ mc) (hn1 : n + 6 ≤ ms) (hp : Post (.inr "java/lang/IllegalStateException") G) : zw g X Post pc zl st G k n :=
  zr_throw1 hX (E := "java/lang/IllegalStateException") (names := ["java/lang/RuntimeException", "java/lang/Exception"]) (ik := 88) (ic := 90) (by decide) (by decide) (by rw [hy]; exact zat_ise) ⟨q381, q383, q7⟩ d0 d3 d4 d7 (fun _ hx => nomatch hx) hd1 hwt hk1 hn1 hp
