/-! A layer of my own over the kit's worlds: the heap as a function from addresses to cells ('zG'), one judgement 'zw' (the machine comes to an end that Post takes), one contract 'zMet' (a method returns or throws), and a row for each instruction. All words of the tables are read at ONE state s0, the law's start: every later state has warmer tables and the same old cells. -/
abbrev zC : Type := (Nat × List Value) ⊕ (Nat × (Nat → Int32)) ⊕ (Nat × (Nat → Int32)) ⊕ (Nat × (Nat → Int64)) ⊕ (Nat × Nat × (Nat → Option Nat))
abbrev zO (ci : Nat) (fs : List Value) : zC := .inl (ci, fs)
abbrev zI (n : Nat) (f : Nat → Int32) : zC := .inr (.inl (n, f))
abbrev zB (n : Nat) (f : Nat → Int32) : zC := .inr (.inr (.inl (n, f)))
abbrev zJ (n : Nat) (f : Nat → Int64) : zC := .inr (.inr (.inr (.inl (n, f))))
abbrev zR (t n : Nat) (f : Nat → Option Nat) : zC := .inr (.inr (.inr (.inr (t, n, f))))
abbrev zG : Type := Nat → Option zC
def zput (G : zG) (a : Nat) (c : zC) : zG := fun q => if q = a then some c else G q
theorem zput_s (G : zG) (a : Nat) (c : zC) : zput G a c a = some c := if_pos rfl
theorem zput_n {G : zG} {a b : Nat} {c : zC} (h : b ≠ a) : zput G a c b = G b := if_neg h
theorem zput_e {G : zG} {a b : Nat} {c : zC} (h : b = a) : zput G a c b = some c := if_pos h
theorem zput_z (G : zG) (a : Nat) (c c' : zC) : zput (zput G a c) a c' = zput G a c' := by
  funext q
  unfold zput
  by_cases h : q = a
  · rw [if_pos h, if_pos h]
  · rw [if_neg h, if_neg h, if_neg h]
theorem zput_id {G : zG} {a : Nat} {c : zC} (h : G a = some c) : zput G a c = G := by
  funext q
  unfold zput
  by_cases e : q = a
  · rw [if_pos e, e, h]
  · rw [if_neg e]
theorem zput_c {G : zG} {a b : Nat} {c c' : zC} (h : a ≠ b) : zput (zput G a c) b c' = zput (zput G b c') a c := by
  funext q
  unfold zput
  by_cases e : q = a
  · subst e
    rw [if_neg h, if_pos rfl, if_pos rfl]
  · rw [if_neg e, if_neg e]
def zE (tc : Nat → ClassId) (c : zC) : va_E := match c with
  | .inl o => .inr o
  | .inr (.inl x) => .inl (tc 0, x.1, .inl x.2)
  | .inr (.inr (.inl x)) => .inl (tc 1, x.1, .inl x.2)
  | .inr (.inr (.inr (.inl x))) => .inl (tc 2, x.1, .inr (.inl x.2))
  | .inr (.inr (.inr (.inr x))) => .inl (tc x.1, x.2.1, .inr (.inr (.inr (.inr x.2.2))))
/-- the heap H holds the cells of G, and they lie in A -/
def zRep (D : va_G) (tc : Nat → ClassId) (A : Nat → Prop) (G : zG) (H : Heap) : Prop :=
  ∃ ws : va_W, va_P D zcl ws H ∧ va_D A ws ∧ (∀ (a : Nat) (c : zC), G a = some c → ∃ k : Nat, ws[k]? = some (a, zE tc c)) ∧ ∀ (k : Nat) (q : Nat × va_E), ws[k]? = some q → ∃ c : zC, G q.1 = some c ∧ q.2 = zE tc c
theorem zRep_set {D : va_G} {tc : Nat → ClassId} {A : Nat → Prop} {G : zG} {H1 : Heap} {ws : va_W} {a k : Nat} {e : va_E} {c' : zC} (hD : va_D A ws) (h3 : ∀ (a : Nat) (c : zC), G a = some c → ∃ k : Nat, ws[k]? = some (a, zE tc c)) (h4 : ∀ (k : Nat) (q : Nat × va_E), ws[k]? = some q → ∃ c : zC, G q.1 = some c ∧ q.2 = zE tc c)
    (hk : ws[k]? = some (a, e)) (hP1 : va_P D zcl (ws.set k (a, zE tc c')) H1) (hD1 : va_D A (ws.set k (a, zE tc c'))) : zRep D tc A (zput G a c') H1 := by
  have hlt : k < ws.length := (List.getElem?_eq_some_iff.mp hk).1
  refine ⟨_, hP1, hD1, fun b cb hb => ?_, fun j q hq => ?_⟩
  · by_cases e1 : b = a
    · subst e1
      rw [zput_s] at hb
      cases hb
      exact ⟨k, List.getElem?_set_self hlt⟩
    · rw [zput_n e1] at hb
      obtain ⟨j, hj⟩ := h3 b cb hb
      have hne : k ≠ j := fun e2 => by
        subst e2
        rw [hk] at hj
        cases hj
        exact e1 rfl
      exact ⟨j, by rw [List.getElem?_set_ne hne]; exact hj⟩
  · by_cases e1 : k = j
    · subst e1
      rw [List.getElem?_set_self hlt] at hq
      cases hq
      exact ⟨c', zput_s _ _ _, rfl⟩
    · rw [List.getElem?_set_ne e1] at hq
      obtain ⟨c, g1, g2⟩ := h4 j q hq
      have hne : q.1 ≠ a := fun e2 => e1 (hD.1 k j _ _ hk hq e2.symm)
      exact ⟨c, by rw [zput_n hne]; exact g1, g2⟩
theorem zRep_push {D : va_G} {tc : Nat → ClassId} {A : Nat → Prop} {G : zG} {H1 : Heap} {ws : va_W} {q : Nat} {c' : zC} (h3 : ∀ (a : Nat) (c : zC), G a = some c → ∃ k : Nat, ws[k]? = some (a, zE tc c)) (h4 : ∀ (k : Nat) (q : Nat × va_E), ws[k]? = some q → ∃ c : zC, G q.1 = some c ∧ q.2 = zE tc c)
    (hP1 : va_P D zcl (ws ++ [(q, zE tc c')]) H1) (hD1 : va_D A (ws ++ [(q, zE tc c')])) : G q = none ∧ zRep D tc A (zput G q c') H1 := by
  have hlast : (ws ++ [(q, zE tc c')])[ws.length]? = some (q, zE tc c') := by
    rw [List.getElem?_append_right (Nat.le_refl _), Nat.sub_self]
    rfl
  have hold : ∀ (j : Nat) (x : Nat × va_E), ws[j]? = some x → (ws ++ [(q, zE tc c')])[j]? = some x := fun j x hx => by
    rw [List.getElem?_append_left (List.getElem?_eq_some_iff.mp hx).1]
    exact hx
  have hno : ∀ (j : Nat) (x : Nat × va_E), ws[j]? = some x → x.1 ≠ q := fun j x hx e => by
    have h1 := hD1.1 j ws.length _ _ (hold j x hx) hlast e
    have h2 := (List.getElem?_eq_some_iff.mp hx).1
    omega
  refine ⟨?_, _, hP1, hD1, fun b cb hb => ?_, fun j x hx => ?_⟩
  · cases hg : G q with
    | none => rfl
    | some c =>
      obtain ⟨j, hj⟩ := h3 q c hg
      exact absurd rfl (hno j _ hj)
  · by_cases e1 : b = q
    · subst e1
      rw [zput_s] at hb
      cases hb
      exact ⟨ws.length, hlast⟩
    · rw [zput_n e1] at hb
      obtain ⟨j, hj⟩ := h3 b cb hb
      exact ⟨j, hold j _ hj⟩
  · by_cases hl : j < ws.length
    · rw [List.getElem?_append_left hl] at hx
      obtain ⟨c, g1, g2⟩ := h4 j x hx
      exact ⟨c, by rw [zput_n (hno j x hx)]; exact g1, g2⟩
    · rw [List.getElem?_append_right (by omega)] at hx
      have hz : j - ws.length < 1 := (List.getElem?_eq_some_iff.mp hx).1
      rw [show j - ws.length = 0 by omega] at hx
      cases hx
      exact ⟨c', zput_s _ _ _, rfl⟩
theorem zRep.weaken {D : va_G} {tc : Nat → ClassId} {A B : Nat → Prop} {G : zG} {H : Heap} (h : zRep D tc A G H) (hAB : ∀ q, A q → B q) : zRep D tc B G H := by
  obtain ⟨ws, h1, h2, h3, h4⟩ := h
  exact ⟨ws, h1, h2.weaken (fun _ _ _ hq => hAB _ hq), h3, h4⟩
theorem zRep.kept {D : va_G} {tc : Nat → ClassId} {A : Nat → Prop} {G : zG} {H H1 : Heap} (h : zRep D tc A G H) (hq : ∀ q : Nat, q < H.size → H1[q]? = H[q]?) : zRep D tc A G H1 := by
  obtain ⟨ws, h1, h2, h3, h4⟩ := h
  exact ⟨ws, h1.kept (fun k q hk => hq _ (h1 k q hk).lt), h2, h3, h4⟩
theorem zRep.inA {D : va_G} {tc : Nat → ClassId} {A : Nat → Prop} {G : zG} {H : Heap} (h : zRep D tc A G H) {a : Nat} (ha : G a ≠ none) : A a := by
  obtain ⟨ws, h1, h2, h3, h4⟩ := h
  cases hg : G a with
  | none => exact absurd hg ha
  | some c =>
    obtain ⟨k, hk⟩ := h3 a c hg
    exact h2.2 k _ hk
theorem zRep.lt {D : va_G} {tc : Nat → ClassId} {A : Nat → Prop} {G : zG} {H : Heap} (h : zRep D tc A G H) {a : Nat} (ha : G a ≠ none) : a < H.size := by
  obtain ⟨ws, h1, h2, h3, h4⟩ := h
  cases hg : G a with
  | none => exact absurd hg ha
  | some c =>
    obtain ⟨k, hk⟩ := h3 a c hg
    exact (h1 k _ hk).lt
/-! locals by their places -/
def zlk : List (Option Value) → Nat → Option Value
  | [], _ => none
  | o :: _, 0 => o
  | _ :: r, i + 1 => zlk r i
def zse : List (Option Value) → Nat → Option Value → List (Option Value)
  | [], _, _ => []
  | _ :: r, 0, v => v :: r
  | o :: r, i + 1, v => o :: zse r i v
theorem zlk_se : ∀ (zl : List (Option Value)) (i j : Nat) (v : Option Value) (w : Value), zlk (zse zl i v) j = some w → (j = i ∧ v = some w) ∨ (j ≠ i ∧ zlk zl j = some w)
  | [], i, j, v, w, h => by
    cases h
  | o :: r, 0, 0, v, w, h => Or.inl ⟨rfl, h⟩
  | o :: r, 0, j + 1, v, w, h => Or.inr ⟨Nat.succ_ne_zero j, h⟩
  | o :: r, i + 1, 0, v, w, h => Or.inr ⟨(Nat.succ_ne_zero i).symm, h⟩
  | o :: r, i + 1, j + 1, v, w, h => by
    rcases zlk_se r i j v w h with ⟨h1, h2⟩ | ⟨h1, h2⟩
    · exact Or.inl ⟨by omega, h2⟩
    · exact Or.inr ⟨by omega, h2⟩
def zbl (zl : List (Option Value)) (i : Nat) : List (Option Value) := match i with
  | 0 => zl
  | j + 1 => match zlk zl j with
    | some (.long _) => zse zl j none
    | some (.double _) => zse zl j none
    | _ => zl
/-- a value of one word is kept at place i; a value of two words that would be cut is forgotten -/
def zst (zl : List (Option Value)) (i : Nat) (v : Value) : List (Option Value) := zse (zbl zl i) i (some v)
def zst2 (zl : List (Option Value)) (i : Nat) (v : Value) : List (Option Value) := zse (zse (zbl zl i) i (some v)) (i + 1) none
theorem zbl_sub {zl : List (Option Value)} {i j : Nat} {w : Value} (h : zlk (zbl zl i) j = some w) : zlk zl j = some w ∧ ¬ (j + 1 = i ∧ w.category = 2) := by
  cases i with
  | zero => exact ⟨h, fun q => by omega⟩
  | succ i =>
    unfold zbl at h
    dsimp only at h
    split at h
    · rcases zlk_se _ _ _ _ _ h with ⟨_, h2⟩ | ⟨h1, h2⟩
      · cases h2
      · exact ⟨h2, fun q => h1 (by omega)⟩
    · rcases zlk_se _ _ _ _ _ h with ⟨_, h2⟩ | ⟨h1, h2⟩
      · cases h2
      · exact ⟨h2, fun q => h1 (by omega)⟩
    · rename_i h1 h2
      refine ⟨h, fun q => ?_⟩
      have e : j = i := by omega
      subst e
      obtain ⟨-, q⟩ := q
      cases w with
      | long x => exact h1 x h
      | double x => exact h2 x h
      | _ => exact absurd q (by simp [Value.category])
def zloc (L : Array Slot) (nL : Nat) (zl : List (Option Value)) : Prop := ∃ l : List (Nat × Value), lv_has L nL l ∧ ∀ (i : Nat) (v : Value), zlk zl i = some v → (i, v) ∈ l
theorem zloc.at {L : Array Slot} {nL : Nat} {zl : List (Option Value)} (h : zloc L nL zl) {i : Nat} {v : Value} (hi : zlk zl i = some v) : L[i]? = some (.val v) := by
  obtain ⟨l, h1, h2⟩ := h
  exact h1.2.2 _ (h2 i v hi)
theorem zloc.size {L : Array Slot} {nL : Nat} {zl : List (Option Value)} (h : zloc L nL zl) : L.size = nL := by
  obtain ⟨l, h1, h2⟩ := h
  exact h1.1
theorem zloc.st1 {l : List (Nat × Value)} {zl : List (Option Value)} (h2 : ∀ (i : Nat) (v : Value), zlk zl i = some v → (i, v) ∈ l) {L : Array Slot} {nL i : Nat} {v : Value} (h : lv_has L nL ((i, v) :: l.filter (fun q => !(q.1 == i) && !(q.1 + 1 == i && q.2.category == 2)))) : zloc L nL (zst zl i v) := by
  refine ⟨_, h, fun j w hw => ?_⟩
  rcases zlk_se _ _ _ _ _ hw with ⟨e1, e2⟩ | ⟨e1, e2⟩
  · cases e2
    rw [e1]
    exact List.mem_cons_self
  · obtain ⟨g1, g2⟩ := zbl_sub e2
    refine List.mem_cons_of_mem _ (List.mem_filter.mpr ⟨h2 j w g1, ?_⟩)
    show (!(j == i) && !(j + 1 == i && w.category == 2)) = true
    rw [Bool.and_eq_true, Bool.not_eq_true', Bool.not_eq_true']
    refine ⟨beq_false_of_ne e1, ?_⟩
    rw [Bool.and_eq_false_iff]
    by_cases e : j + 1 = i
    · exact Or.inr (beq_false_of_ne fun q => g2 ⟨e, q⟩)
    · exact Or.inl (beq_false_of_ne e)
theorem zloc.st2 {l : List (Nat × Value)} {zl : List (Option Value)} (h2 : ∀ (i : Nat) (v : Value), zlk zl i = some v → (i, v) ∈ l) {L : Array Slot} {nL i : Nat} {v : Value} (h : lv_has L nL ((i, v) :: l.filter (fun q => !(q.1 == i) && (!(q.1 == i + 1) && !(q.1 + 1 == i && q.2.category == 2))))) : zloc L nL (zst2 zl i v) := by
  refine ⟨_, h, fun j w hw => ?_⟩
  rcases zlk_se _ _ _ _ _ hw with ⟨e1, e2⟩ | ⟨e0, e2⟩
  · cases e2
  · rcases zlk_se _ _ _ _ _ e2 with ⟨e1, e2⟩ | ⟨e1, e2⟩
    · cases e2
      rw [e1]
      exact List.mem_cons_self
    · obtain ⟨g1, g2⟩ := zbl_sub e2
      refine List.mem_cons_of_mem _ (List.mem_filter.mpr ⟨h2 j w g1, ?_⟩)
      show (!(j == i) && (!(j == i + 1) && !(j + 1 == i && w.category == 2))) = true
      rw [Bool.and_eq_true, Bool.and_eq_true, Bool.not_eq_true', Bool.not_eq_true', Bool.not_eq_true']
      refine ⟨beq_false_of_ne e1, beq_false_of_ne e0, ?_⟩
      rw [Bool.and_eq_false_iff]
      by_cases e : j + 1 = i
      · exact Or.inr (beq_false_of_ne fun q => g2 ⟨e, q⟩)
      · exact Or.inl (beq_false_of_ne e)
def zarg : List Value → List (Option Value)
  | [] => []
  | v :: r => if v.category = 2 then some v :: none :: zarg r else some v :: zarg r
theorem zarg_in : ∀ (vs : List Value) (b i : Nat) (v : Value), zlk (zarg vs) i = some v → (b + i, v) ∈ lv_args b vs
  | [], b, i, v, h => by cases h
  | w :: r, b, i, v, h => by
    unfold zarg at h
    unfold lv_args
    by_cases hc : w.category = 2
    · rw [if_pos hc] at h ⊢
      match i, h with
      | 0, h => cases h; exact List.mem_cons_self
      | 1, h => cases h
      | i + 2, h => exact List.mem_cons_of_mem _ (by rw [show b + (i + 2) = (b + 2) + i by omega]; exact zarg_in r (b + 2) i v h)
    · rw [if_neg hc] at h ⊢
      match i, h with
      | 0, h => cases h; exact List.mem_cons_self
      | i + 1, h => exact List.mem_cons_of_mem _ (by rw [show b + (i + 1) = (b + 1) + i by omega]; exact zarg_in r (b + 1) i v h)
theorem zlk_app : ∀ (zl : List (Option Value)) (n i : Nat) (v : Value), zlk (zl ++ List.replicate n none) i = some v → zlk zl i = some v
  | [], n, i, v, h => by
    exfalso
    revert i
    induction n with
    | zero => intro i h; cases h
    | succ n ih =>
      intro i h
      cases i with
      | zero => cases h
      | succ i => exact ih i h
  | o :: r, n, 0, v, h => h
  | o :: r, n, i + 1, v, h => zlk_app r n i v h
def zent (vs : List Value) (nL : Nat) : List (Option Value) := zarg vs ++ List.replicate (nL - (zarg vs).length) none
/-! the judgement -/
/-- the law's start, its arguments, where the classes' fields lie, the array classes, the launch -/
abbrev zGt : Type := State × Array Value × va_G × (Nat → ClassId) × Launch
abbrev zs0 (g : zGt) : State := g.1
abbrev za0 (g : zGt) : Array Value := g.2.1
abbrev zD (g : zGt) : va_G := g.2.2.1
abbrev ztc (g : zGt) : Nat → ClassId := g.2.2.2.1
abbrev zl0 (g : zGt) : Launch := g.2.2.2.2
def zGl (g : zGt) : Prop := (∀ w ∈ zTW, w.before (za0 g) (zs0 g) = true) ∧ va_K (zD g) zcl (zty (ztc g)) (zs0 g) ∧ (zl0 g).stackTraces = false
abbrev zRes : Type := Option Value ⊕ String
def zrm (d mc ms : Nat) : Room := { frames := d, cells := mc, slots := ms, locals := 64 * d }
def zA (g : zGt) (G : zG) (sz : Nat) : Nat → Prop := fun q => (G q ≠ none ∨ sz ≤ q) ∧ (zs0 g).heap.size ≤ q
/-- a later state: warmer tables, the old cells as they were -/
def zAft (g : zGt) (U : State) (H : Heap) : Prop := (zs0 g).WarmedH U.vm ∧ (zs0 g).heap.size ≤ H.size ∧ ∀ q : Nat, q < (zs0 g).heap.size → H[q]? = (zs0 g).heap[q]?
def zOut (r : zRes) (o : Outcome) (st t : State) : Prop := match r with
  | .inl v => o = .returned v
  | .inr E => ∃ (q : Addr) (ce : Cell), o = .threw q ∧ t.heap[q]? = some ce ∧ ce.vm = .none ∧ st.vm.findClass E = some ce.cls
def zQ (g : zGt) (A : Nat → Prop) (mc ms : Nat) (Post : zRes → zG → Prop) : Array Value → State → Outcome → State → Prop := fun _ st o t =>
  ∃ (r : zRes) (G : zG) (L : List Loc), Post r G ∧ zRep (zD g) (ztc g) A G t.heap ∧ va_F A st t ∧ st.WarmedH t.vm ∧ st.sameButNew ({ t with vm := st.vm } : State) L mc ms ∧ (∀ z ∈ L, A z.base) ∧ zOut r o st t
def zEnd (g : zGt) (below : List Frame) (args : Array Value) (s : State) (A : Nat → Prop) (mc ms : Nat) (Post : zRes → zG → Prop) : State → Prop := fun t =>
  ∃ o, t.status = .running ∧ Ended t below o ∧ zQ g A mc ms Post args s o t
abbrev zX : Type := Program × Env × Room × State × MethodId × Array Value × List Frame × Method × Code × (Nat → Prop) × Nat
def zw (g : zGt) (X : zX) (Post : zRes → zG → Prop) (pc : Nat) (zl : List (Option Value)) (st : List Value) (G : zG) (k n : Nat) : Prop := match X with
  | (p, e, R, s, m, args, below, meth, c, A, nL) => ∀ (H : Heap) (locs : List Loc) (L : Array Slot), zRep (zD g) (ztc g) A G H → va_S A s.heap H locs → zloc L nL zl → k ≤ R.cells → n ≤ R.slots →
      W p (zl0 g) e R s m args below meth c H locs k n (zEnd g below args s A R.cells R.slots Post) (F0 m pc L st)
/-- the machine throws the cell q, an E, at pc -/
def zt (g : zGt) (X : zX) (Post : zRes → zG → Prop) (pc : Nat) (E : String) (zl : List (Option Value)) (G : zG) (k n : Nat) : Prop := match X with
  | (p, e, R, s, m, args, below, meth, c, A, nL) => ∀ (H : Heap) (locs : List Loc) (L : Array Slot) (st : List Value) (q : Addr) (ce : Cell), zRep (zD g) (ztc g) A G H → va_S A s.heap H locs → zloc L nL zl → k ≤ R.cells → n ≤ R.slots → H[q]? = some ce → ce.vm = .none → s.vm.findClass E = some ce.cls →
      ∀ T : State, T.heap = H → Stand p (zl0 g) e R s m args below meth c T locs k n → ∃ t, Steps p.tables e below ((T.setTop (F0 m pc L st)).pushFrame (.throwing q)) t ∧ zEnd g below args s A R.cells R.slots Post t
/-- what a method's walk may use -/
def zOK (g : zGt) (X : zX) (cc : ByteArray) (y : MethodName) (ret : Option FieldType) (tb : List (Nat × Nat × Nat × Nat)) (nl d mc ms : Nat) : Prop := match X with
  | (p, _, R, s, m, _, _, meth, c, A, nL) => zGl g ∧ p.tables.exec = Jvm.exec ∧ c.code = cc ∧ c.maxLocals = nL ∧ nL = nl ∧ s.vm.findClass y.cls = some m.cls ∧ meth.name = y.name ∧ zAft g s s.heap ∧ (∀ q : Nat, s.heap.size ≤ q → A q) ∧ (∀ q, A q → (zs0 g).heap.size ≤ q) ∧ meth.locks = false ∧ meth.sig.returnType = ret ∧ c.exceptionTable.toList = tableOf tb ∧ R = zrm d mc ms
section ZW
variable {g : zGt} {p : Program} {e : Env} {R : Room} {s : State} {m : MethodId} {args : Array Value} {below : List Frame} {meth : Method} {c : Code} {A : Nat → Prop} {nL : Nat}
variable {cc : ByteArray} {y : MethodName} {ret : Option FieldType} {tb : List (Nat × Nat × Nat × Nat)} {nl d mc ms : Nat}
theorem zOK.gl (h : zOK g (p, e, R, s, m, args, below, meth, c, A, nL) cc y ret tb nl d mc ms) : zGl g := h.1
theorem zOK.ex (h : zOK g (p, e, R, s, m, args, below, meth, c, A, nL) cc y ret tb nl d mc ms) : p.tables.exec = Jvm.exec := h.2.1
theorem zOK.cd (h : zOK g (p, e, R, s, m, args, below, meth, c, A, nL) cc y ret tb nl d mc ms) : c.code = cc := h.2.2.1
theorem zOK.ml (h : zOK g (p, e, R, s, m, args, below, meth, c, A, nL) cc y ret tb nl d mc ms) : c.maxLocals = nL := h.2.2.2.1
theorem zOK.nq (h : zOK g (p, e, R, s, m, args, below, meth, c, A, nL) cc y ret tb nl d mc ms) : nL = nl := h.2.2.2.2.1
theorem zOK.ow (h : zOK g (p, e, R, s, m, args, below, meth, c, A, nL) cc y ret tb nl d mc ms) : s.vm.findClass y.cls = some m.cls := h.2.2.2.2.2.1
theorem zOK.nm (h : zOK g (p, e, R, s, m, args, below, meth, c, A, nL) cc y ret tb nl d mc ms) : meth.name = y.name := h.2.2.2.2.2.2.1
theorem zOK.af (h : zOK g (p, e, R, s, m, args, below, meth, c, A, nL) cc y ret tb nl d mc ms) : zAft g s s.heap := h.2.2.2.2.2.2.2.1
theorem zOK.hA (h : zOK g (p, e, R, s, m, args, below, meth, c, A, nL) cc y ret tb nl d mc ms) : ∀ q : Nat, s.heap.size ≤ q → A q := h.2.2.2.2.2.2.2.2.1
theorem zOK.A0 (h : zOK g (p, e, R, s, m, args, below, meth, c, A, nL) cc y ret tb nl d mc ms) : ∀ q, A q → (zs0 g).heap.size ≤ q := h.2.2.2.2.2.2.2.2.2.1
theorem zOK.lk (h : zOK g (p, e, R, s, m, args, below, meth, c, A, nL) cc y ret tb nl d mc ms) : meth.locks = false := h.2.2.2.2.2.2.2.2.2.2.1
theorem zOK.rt (h : zOK g (p, e, R, s, m, args, below, meth, c, A, nL) cc y ret tb nl d mc ms) : meth.sig.returnType = ret := h.2.2.2.2.2.2.2.2.2.2.2.1
theorem zOK.tq (h : zOK g (p, e, R, s, m, args, below, meth, c, A, nL) cc y ret tb nl d mc ms) : c.exceptionTable.toList = tableOf tb := h.2.2.2.2.2.2.2.2.2.2.2.2.1
theorem zOK.rm (h : zOK g (p, e, R, s, m, args, below, meth, c, A, nL) cc y ret tb nl d mc ms) : R = zrm d mc ms := h.2.2.2.2.2.2.2.2.2.2.2.2.2
theorem zOK.K (h : zOK g (p, e, R, s, m, args, below, meth, c, A, nL) cc y ret tb nl d mc ms) : va_K (zD g) zcl (zty (ztc g)) s := va_K.moved h.af.1.alike h.gl.2.1
/-- a word of the tables, here -/
theorem zOK.wd (h : zOK g (p, e, R, s, m, args, below, meth, c, A, nL) cc y ret tb nl d mc ms) {w : Cond} (hw : w ∈ zTW) (hg : (w.onTables && w.keeps) = true ∨ ∃ ty, w = .arrayClass ty) : w.before args s = true := word_at h.af.1 hg (h.gl.1 w hw)
theorem zOK.wk (h : zOK g (p, e, R, s, m, args, below, meth, c, A, nL) cc y ret tb nl d mc ms) {w : Cond} (hw : w ∈ zTW) (hg : (w.onTables && w.keeps) = true) : w.before args s = true := h.wd hw (Or.inl hg)
end ZW
