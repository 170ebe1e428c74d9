/-! the class's whole state: optional objects o, addresses a, numbers i, rows of longs f, rows of ints n, all by family and place -/
/-- families: 0 the store, 1 commits, 2 their cells, 3 branches, 4 their cells, 5 conflicts, 6 base rows, 7 their values, 8 the block table, 9 the store's arrays, 10 .. 14 the conflicts' rows -/
abbrev zW : Type := (Nat → Nat → Option Nat) × (Nat → Nat → Nat) × (Nat → Nat → Int32) × (Nat → Nat → Nat → Int64) × (Nat → Nat → Nat → Int32)
abbrev zW.o (w : zW) : Nat → Nat → Option Nat := w.1
abbrev zW.a (w : zW) : Nat → Nat → Nat := w.2.1
abbrev zW.i (w : zW) : Nat → Nat → Int32 := w.2.2.1
abbrev zW.f (w : zW) : Nat → Nat → Nat → Int64 := w.2.2.2.1
abbrev zW.n (w : zW) : Nat → Nat → Nat → Int32 := w.2.2.2.2
def zud {α : Type} (K : Nat → Nat → α) (f i : Nat) (c : α) : Nat → Nat → α := fun a b => if a = f ∧ b = i then c else K a b
theorem zud_s {α : Type} (K : Nat → Nat → α) (f i : Nat) (c : α) : zud K f i c f i = c := if_pos ⟨rfl, rfl⟩
theorem zud_n {α : Type} {K : Nat → Nat → α} {f i a b : Nat} {c : α} (h : ¬ (a = f ∧ b = i)) : zud K f i c a b = K a b := if_neg h
theorem zud_f {α : Type} {K : Nat → Nat → α} {f i a : Nat} {c : α} (h : a ≠ f) : zud K f i c a = K a := funext fun _ => if_neg fun q => h q.1
theorem zud_i {α : Type} {K : Nat → Nat → α} {f i a b : Nat} {c : α} (h : b ≠ i) : zud K f i c a b = K a b := if_neg fun q => h q.2
theorem zud_u {α : Type} (K : Nat → Nat → α) (f i : Nat) (c : α) : zud K f i c f = va_up (K f) i c := funext fun b => by
  unfold zud va_up
  by_cases h : b = i
  · rw [if_pos ⟨rfl, h⟩, if_pos h]
  · rw [if_neg (fun q => h q.2), if_neg h]
/-- the store, as the first walks see it -/
def zWv (w : zW) : zV := (w.a 9, w.i 0, va_rf (w.o 8 0), w.o 1, w.i 1, w.i 2, w.i 3, w.a 2, w.f 2, w.o 3, w.a 4, w.i 4, w.i 5, w.i 6, w.o 5, w.f 4, w.n 9)
def zS9 (i : Nat) : Bool := i == 0 || i == 1 || i == 3 || (8 ≤ i && i ≤ 12)
/-- where what is there lies -/
def zAd (w : zW) (f i : Nat) : Option Nat := match f with
  | 0 => if i = 0 then some (w.a 0 0) else none
  | 1 => w.o 1 i
  | 2 => (w.o 1 i).map fun _ => w.a 2 i
  | 3 => w.o 3 i
  | 4 => (w.o 3 i).map fun _ => w.a 4 i
  | 5 => w.o 5 i
  | 6 => w.o 6 i
  | 7 => (w.o 6 i).map fun _ => w.a 7 i
  | 8 => match i with
    | 0 => w.o 8 0
    | 1 => (w.o 8 0).map fun _ => w.a 8 1
    | 2 => (w.o 8 0).map fun _ => w.a 8 2
    | _ => none
  | 9 => if zS9 i = true then some (w.a 9 i) else none
  | 10 => (w.o 5 i).map fun _ => w.a 10 i
  | 11 => (w.o 5 i).map fun _ => w.a 11 i
  | 12 => (w.o 5 i).map fun _ => w.a 12 i
  | 13 => (w.o 5 i).map fun _ => w.a 13 i
  | 14 => (w.o 5 i).map fun _ => w.a 14 i
  | _ => none
/-- what lies there -/
def zKx (w : zW) (f i : Nat) : zC := match f with
  | 0 => zO 0 (zS (w.a 9) (w.i 0) (va_rf (w.o 8 0)))
  | 1 => zO 1 [.int (w.i 1 i), .int (w.i 2 i), .int (w.i 3 i), .ref (w.a 2 i)]
  | 2 => zJ 4096 (w.f 2 i)
  | 3 => zO 2 [.ref (w.a 4 i), .int (w.i 4 i), .int (w.i 5 i), .int (w.i 6 i), va_rf (w.o 5 i)]
  | 4 => zJ 4096 (w.f 4 i)
  | 5 => zO 3 [.ref (w.a 10 i), .ref (w.a 11 i), .ref (w.a 12 i), .ref (w.a 13 i), .ref (w.a 14 i), .int (w.i 7 i), .int (w.i 8 i)]
  | 6 => zO 4 [.ref (w.a 7 i)]
  | 7 => zI 4096 (w.n 7 i)
  | 8 => match i with
    | 0 => zO 5 [.ref (w.a 8 1), .ref (w.a 8 2), .int (w.i 9 0)]
    | 1 => zI 28672 (w.n 8 1)
    | j => zI 4096 (w.n 8 j)
  | 9 => match i with
    | 0 => zI 4 (w.n 9 0)
    | 1 => zR 3 24 (w.o 1)
    | 3 => zR 4 4 (w.o 3)
    | 8 => zI 6 (w.n 9 8)
    | 9 => zI 6 (w.n 9 9)
    | 10 => zI 8 (w.n 9 10)
    | 11 => zI 8 (w.n 9 11)
    | _ => zR 5 24 (w.o 6)
  | 14 => zB 4096 (w.n 14 i)
  | f => zI 4096 (w.n f i)
/-- the heap holds K where A says, each at its own place -/
def zHk (A : Nat → Nat → Option Nat) (K : Nat → Nat → zC) (G : zG) : Prop := (∀ f i q, A f i = some q → G q = some (K f i)) ∧ ∀ f i f2 i2 q, A f i = some q → A f2 i2 = some q → f = f2 ∧ i = i2
theorem zHk.put {A : Nat → Nat → Option Nat} {K : Nat → Nat → zC} {G : zG} (h : zHk A K G) {f i q : Nat} (hq : A f i = some q) (c : zC) : zHk A (zud K f i c) (zput G q c) := by
  refine ⟨fun f2 i2 q2 h2 => ?_, h.2⟩
  by_cases e : f2 = f ∧ i2 = i
  · obtain ⟨rfl, rfl⟩ := e
    cases Option.some.inj (hq.symm.trans h2)
    rw [zput_s, zud_s]
  · rw [zud_n e, zput_n (fun e2 => by subst e2; exact e (h.2 _ _ _ _ _ h2 hq))]
    exact h.1 _ _ _ h2
theorem zHk.new {A : Nat → Nat → Option Nat} {K : Nat → Nat → zC} {G : zG} (h : zHk A K G) {f i q : Nat} (hq : G q = none) (c : zC) : zHk (zud A f i (some q)) (zud K f i c) (zput G q c) := by
  have key : ∀ f2 i2 q2, zud A f i (some q) f2 i2 = some q2 → (f2 = f ∧ i2 = i ∧ q2 = q) ∨ (¬ (f2 = f ∧ i2 = i) ∧ A f2 i2 = some q2 ∧ q2 ≠ q) := fun f2 i2 q2 h2 => by
    by_cases e : f2 = f ∧ i2 = i
    · obtain ⟨rfl, rfl⟩ := e
      rw [zud_s] at h2
      cases h2
      exact Or.inl ⟨rfl, rfl, rfl⟩
    · rw [zud_n e] at h2
      refine Or.inr ⟨e, h2, fun e2 => ?_⟩
      subst e2
      rw [h.1 _ _ _ h2] at hq
      cases hq
  refine ⟨fun f2 i2 q2 h2 => ?_, fun f2 i2 f3 i3 q2 h2 h3 => ?_⟩
  · rcases key f2 i2 q2 h2 with ⟨rfl, rfl, rfl⟩ | ⟨e, g1, g2⟩
    · rw [zput_s, zud_s]
    · rw [zput_n g2, zud_n e]
      exact h.1 _ _ _ g1
  · rcases key f2 i2 q2 h2 with ⟨rfl, rfl, rfl⟩ | ⟨e, g1, g2⟩
    · rcases key f3 i3 q2 h3 with ⟨rfl, rfl, -⟩ | ⟨e, g1, g2⟩
      · exact ⟨rfl, rfl⟩
      · exact absurd rfl g2
    · rcases key f3 i3 q2 h3 with ⟨rfl, rfl, rfl⟩ | ⟨e3, g3, g4⟩
      · exact absurd rfl g2
      · exact h.2 _ _ _ _ _ g1 g3
theorem zHk.ext {A A2 : Nat → Nat → Option Nat} {K K2 : Nat → Nat → zC} {G : zG} (h : zHk A K G) (he : ∀ f i q, A2 f i = some q → A f i = some q ∧ K2 f i = K f i) : zHk A2 K2 G :=
  ⟨fun f i q hq => by rw [(he f i q hq).2]; exact h.1 _ _ _ (he f i q hq).1, fun f i f2 i2 q h1 h2 => h.2 _ _ _ _ _ (he _ _ _ h1).1 (he _ _ _ h2).1⟩
theorem zHk.fr {A : Nat → Nat → Option Nat} {K : Nat → Nat → zC} {G G1 : zG} (h : zHk A K G) (hf : ∀ f i q, A f i = some q → G1 q = G q) : zHk A K G1 :=
  ⟨fun f i q hq => by rw [hf _ _ _ hq]; exact h.1 _ _ _ hq, h.2⟩
def zHp (w : zW) (G : zG) : Prop := zHk (zAd w) (zKx w) G
theorem zHp.at {w : zW} {G : zG} (h : zHp w G) (f i : Nat) {q : Nat} (hq : zAd w f i = some q) : G q = some (zKx w f i) := h.1 f i q hq
theorem zHp.ne {w : zW} {G : zG} (h : zHp w G) (f i f2 i2 : Nat) {q q2 : Nat} (hq : zAd w f i = some q) (hq2 : zAd w f2 i2 = some q2) (hn : ¬ (f = f2 ∧ i = i2)) : q ≠ q2 := fun e => by
  subst e
  exact hn (h.2 _ _ _ _ _ hq hq2)
theorem zmp {o : Option Nat} {q a : Nat} (h : o = some q) : (o.map fun _ => a) = some a := by rw [h]; rfl
theorem zmp_i {o : Option Nat} {q a : Nat} (h : (o.map fun _ => a) = some q) : ∃ r, o = some r ∧ q = a := by
  cases o with
  | none => cases h
  | some r => cases h; exact ⟨r, rfl, rfl⟩
theorem zHp.sv {w : zW} {G : zG} (h : zHp w G) : zSv (zWv w) (w.a 0 0) G :=
  ⟨h.at 0 0 rfl, h.at 9 1 rfl, h.at 9 3 rfl, fun c _ q hq => ⟨h.at 1 c hq, h.at 2 c (zmp hq)⟩, fun b _ q hq => ⟨h.at 3 b hq, h.at 4 b (zmp hq)⟩, h.at 9 0 rfl, h.at 9 8 rfl, h.at 9 9 rfl, h.at 9 10 rfl, h.at 9 11 rfl⟩
/-- a row of longs is written anew -/
def zWf (w : zW) (f i : Nat) (g : Nat → Int64) : zW := (w.o, w.a, w.i, zud w.f f i g, w.n)
def zWn (w : zW) (f i : Nat) (g : Nat → Int32) : zW := (w.o, w.a, w.i, w.f, zud w.n f i g)
def zWi (w : zW) (f i : Nat) (x : Int32) : zW := (w.o, w.a, zud w.i f i x, w.f, w.n)
theorem zAd_f (w : zW) (f i : Nat) (g : Nat → Int64) : zAd (zWf w f i g) = zAd w := by
  funext f2 i2; unfold zAd; rfl
theorem zAd_n (w : zW) (f i : Nat) (g : Nat → Int32) : zAd (zWn w f i g) = zAd w := by
  funext f2 i2; unfold zAd; rfl
theorem zAd_i (w : zW) (f i : Nat) (x : Int32) : zAd (zWi w f i x) = zAd w := by
  funext f2 i2; unfold zAd; rfl
theorem zHp.mut {w w2 : zW} {G : zG} (h : zHp w G) (hA : zAd w2 = zAd w) (f i : Nat) {q : Nat} (hq : zAd w f i = some q) {c : zC} (hc : zKx w2 f i = c) (hk : ∀ f2 i2 q2, zAd w f2 i2 = some q2 → ¬ (f2 = f ∧ i2 = i) → zKx w2 f2 i2 = zKx w f2 i2) : zHp w2 (zput G q c) := by
  refine (h.put (f := f) (i := i) hq c).ext (fun f2 i2 q2 h2 => ?_)
  rw [hA] at h2
  refine ⟨h2, ?_⟩
  by_cases e : f2 = f ∧ i2 = i
  · obtain ⟨rfl, rfl⟩ := e
    rw [zud_s, hc]
  · rw [zud_n e, hk _ _ _ h2 e]
theorem zKx_f (w : zW) (f i : Nat) (g : Nat → Int64) (f2 i2 : Nat) (e : ¬ (f2 = f ∧ i2 = i)) : zKx (zWf w f i g) f2 i2 = zKx w f2 i2 := by
  have h : zud w.f f i g f2 i2 = w.f f2 i2 := zud_n e
  unfold zKx
  split <;> first | rfl | exact congrArg (zJ 4096) h
theorem zKx_n (w : zW) (f i : Nat) (g : Nat → Int32) (f2 i2 : Nat) (e : ¬ (f2 = f ∧ i2 = i)) : zKx (zWn w f i g) f2 i2 = zKx w f2 i2 := by
  have h : zud w.n f i g f2 i2 = w.n f2 i2 := zud_n e
  unfold zKx
  split <;> first | rfl | exact congrArg (zI 4096) h | exact congrArg (zB 4096) h | (split <;> first | rfl | exact congrArg (zI _) h)
theorem zHp.wf4 {w : zW} {G : zG} (h : zHp w G) {b q : Nat} (hq : w.o 3 b = some q) (g : Nat → Int64) : zHp (zWf w 4 b g) (zput G (w.a 4 b) (zJ 4096 g)) :=
  h.mut (zAd_f _ _ _ _) 4 b (zmp hq) (congrArg (zJ 4096) (zud_s w.f 4 b g)) (fun f2 i2 _ _ => zKx_f w 4 b g f2 i2)
theorem zHp.wn {w : zW} {G : zG} (h : zHp w G) (f i : Nat) {q : Nat} (hq : zAd w f i = some q) (g : Nat → Int32) {c : zC} (hc : zKx (zWn w f i g) f i = c) : zHp (zWn w f i g) (zput G q c) :=
  h.mut (zAd_n _ _ _ _) f i hq hc (fun f2 i2 _ _ => zKx_n w f i g f2 i2)
/-- the store's numbers are written anew -/
def zW0 (w : zW) (x : Nat → Int32) : zW := (w.o, w.a, va_up w.i 0 x, w.f, w.n)
theorem zup0 {α : Type} {f : Nat → α} {x : α} (k : Nat) : va_up f 0 x (k + 1) = f (k + 1) := va_up_ne _ _ (Nat.succ_ne_zero k)
theorem zHp.w0 {w : zW} {G : zG} (h : zHp w G) (x : Nat → Int32) : zHp (zW0 w x) (zput G (w.a 0 0) (zO 0 (zS (w.a 9) x (va_rf (w.o 8 0))))) := by
  refine h.mut (w2 := zW0 w x) rfl 0 0 rfl (congrArg (fun z => zO 0 (zS (w.a 9) z (va_rf (w.o 8 0)))) (va_up_self w.i 0 x)) (fun f i q hq e => ?_)
  have key : ∀ k, (zW0 w x).i (k + 1) = w.i (k + 1) := fun k => zup0 (f := w.i) (x := x) k
  unfold zKx
  split <;> first | rfl | (dsimp only [zW0] at key ⊢; simp only [key]) | skip
  · exfalso
    unfold zAd at hq
    by_cases h0 : i = 0
    · exact e ⟨rfl, h0⟩
    · rw [if_neg h0] at hq; cases hq
/-- three numbers of a branch, two of its conflicts, the table's -/
def zW3 (w : zW) (b : Nat) (x y z : Int32) : zW := (w.o, w.a, zud (zud (zud w.i 4 b x) 5 b y) 6 b z, w.f, w.n)
def zW5 (w : zW) (b : Nat) (x y : Int32) : zW := (w.o, w.a, zud (zud w.i 7 b x) 8 b y, w.f, w.n)
def zW8 (w : zW) (x : Int32) : zW := (w.o, w.a, zud w.i 9 0 x, w.f, w.n)
theorem zW3_n (w : zW) {b : Nat} (x y z : Int32) {k j : Nat} (h : ¬ (j = b ∧ 4 ≤ k ∧ k ≤ 6)) : (zW3 w b x y z).i k j = w.i k j := by
  show zud (zud (zud w.i 4 b x) 5 b y) 6 b z k j = _
  rw [zud_n (by omega), zud_n (by omega), zud_n (by omega)]
theorem zW3_4 (w : zW) (b : Nat) (x y z : Int32) : (zW3 w b x y z).i 4 b = x := by
  show zud (zud (zud w.i 4 b x) 5 b y) 6 b z 4 b = _
  rw [zud_n (by omega), zud_n (by omega), zud_s]
theorem zW3_5 (w : zW) (b : Nat) (x y z : Int32) : (zW3 w b x y z).i 5 b = y := by
  show zud (zud (zud w.i 4 b x) 5 b y) 6 b z 5 b = _
  rw [zud_n (by omega), zud_s]
theorem zW3_6 (w : zW) (b : Nat) (x y z : Int32) : (zW3 w b x y z).i 6 b = z := zud_s _ _ _ _
theorem zW5_n (w : zW) {b : Nat} (x y : Int32) {k j : Nat} (h : ¬ (j = b ∧ 7 ≤ k ∧ k ≤ 8)) : (zW5 w b x y).i k j = w.i k j := by
  show zud (zud w.i 7 b x) 8 b y k j = _
  rw [zud_n (by omega), zud_n (by omega)]
theorem zW5_7 (w : zW) (b : Nat) (x y : Int32) : (zW5 w b x y).i 7 b = x := by
  show zud (zud w.i 7 b x) 8 b y 7 b = _
  rw [zud_n (by omega), zud_s]
theorem zW5_8 (w : zW) (b : Nat) (x y : Int32) : (zW5 w b x y).i 8 b = y := zud_s _ _ _ _
theorem zHp.w3 {w : zW} {G : zG} (h : zHp w G) {b q : Nat} (hq : w.o 3 b = some q) (x y z : Int32) : zHp (zW3 w b x y z) (zput G q (zO 2 [.ref (w.a 4 b), .int x, .int y, .int z, va_rf (w.o 5 b)])) := by
  refine h.mut (w2 := zW3 w b x y z) rfl 3 b hq ?_ (fun f i q hq e => ?_)
  · show zO 2 [.ref (w.a 4 b), .int ((zW3 w b x y z).i 4 b), .int ((zW3 w b x y z).i 5 b), .int ((zW3 w b x y z).i 6 b), va_rf (w.o 5 b)] = _
    rw [zW3_4, zW3_5, zW3_6]
  · have key := fun (k j : Nat) (h : ¬ (j = b ∧ 4 ≤ k ∧ k ≤ 6)) => zW3_n w x y z h
    have k0 : (zW3 w b x y z).i 0 = w.i 0 := funext fun j => key 0 j (by omega)
    have e1 : (zW3 w b x y z).o = w.o := rfl
    have e2 : (zW3 w b x y z).a = w.a := rfl
    unfold zKx
    split <;> first | rfl | (rw [k0, e1, e2]) | (rw [key _ _ (by omega), key _ _ (by omega), key _ _ (by omega), e2]; done) | (rw [key _ _ (by omega), key _ _ (by omega), key _ _ (by omega), e1, e2]; done) | (rw [key _ _ (by omega), key _ _ (by omega), e2]) | (split <;> first | rfl | (rw [key _ _ (by omega), e2]))
theorem zHp.w5 {w : zW} {G : zG} (h : zHp w G) {b q : Nat} (hq : w.o 5 b = some q) (x y : Int32) : zHp (zW5 w b x y) (zput G q (zO 3 [.ref (w.a 10 b), .ref (w.a 11 b), .ref (w.a 12 b), .ref (w.a 13 b), .ref (w.a 14 b), .int x, .int y])) := by
  refine h.mut (w2 := zW5 w b x y) rfl 5 b hq ?_ (fun f i q hq e => ?_)
  · show zO 3 [.ref (w.a 10 b), .ref (w.a 11 b), .ref (w.a 12 b), .ref (w.a 13 b), .ref (w.a 14 b), .int ((zW5 w b x y).i 7 b), .int ((zW5 w b x y).i 8 b)] = _
    rw [zW5_7, zW5_8]
  · have key := fun (k j : Nat) (h : ¬ (j = b ∧ 7 ≤ k ∧ k ≤ 8)) => zW5_n w x y h
    have k0 : (zW5 w b x y).i 0 = w.i 0 := funext fun j => key 0 j (by omega)
    have e1 : (zW5 w b x y).o = w.o := rfl
    have e2 : (zW5 w b x y).a = w.a := rfl
    unfold zKx
    split <;> first | rfl | (rw [k0, e1, e2]) | (rw [key _ _ (by omega), key _ _ (by omega), key _ _ (by omega), e2]; done) | (rw [key _ _ (by omega), key _ _ (by omega), key _ _ (by omega), e1, e2]; done) | (rw [key _ _ (by omega), key _ _ (by omega), e2]) | (split <;> first | rfl | (rw [key _ _ (by omega), e2]))
theorem zHp.w8 {w : zW} {G : zG} (h : zHp w G) {q : Nat} (hq : w.o 8 0 = some q) (x : Int32) : zHp (zW8 w x) (zput G q (zO 5 [.ref (w.a 8 1), .ref (w.a 8 2), .int x])) := by
  refine h.mut (w2 := zW8 w x) rfl 8 0 hq ?_ (fun f i q hq e => ?_)
  · show zO 5 [.ref (w.a 8 1), .ref (w.a 8 2), .int (zud w.i 9 0 x 9 0)] = _
    rw [zud_s]
  · have key : ∀ k j, ¬ (k = 9 ∧ j = 0) → (zW8 w x).i k j = w.i k j := fun k j h => zud_n h
    have k0 : (zW8 w x).i 0 = w.i 0 := funext fun j => key 0 j (by omega)
    have e1 : (zW8 w x).o = w.o := rfl
    have e2 : (zW8 w x).a = w.a := rfl
    unfold zKx
    split <;> first | rfl | (rw [k0, e1, e2]) | (rw [key _ _ (by omega), key _ _ (by omega), key _ _ (by omega), e2]; done) | (rw [key _ _ (by omega), key _ _ (by omega), key _ _ (by omega), e1, e2]; done) | (rw [key _ _ (by omega), key _ _ (by omega), e2]) | (split <;> first | rfl | (exact absurd ⟨rfl, rfl⟩ e))
