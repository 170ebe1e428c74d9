/-! a table of blocks with open addressing: o k is what slot k holds, h i where block i's search begins -/
def zcnt (o : Nat → Option Nat) (k : Nat) (n : Nat) : Nat := if o k = none then n else n + 1
def zTb (o : Nat → Option Nat) (n : Nat) (h : Nat → Nat) : Prop := (∀ k, k < 4096 → ∀ i, o k = some i → i < n) ∧ (∀ i, i < n → h i < 4096 ∧ ∃ t, t < 4096 ∧ o ((h i + t) % 4096) = some i ∧ ∀ s, s < t → ¬ o ((h i + s) % 4096) = none) ∧ zfor 4096 (zcnt o) 0 = n
theorem zcnt_full {o : Nat → Option Nat} : ∀ N, (∀ k, k < N → ¬ o k = none) → zfor N (zcnt o) 0 = N := by
  intro N
  induction N with
  | zero => intro _; rfl
  | succ N ih =>
    intro h
    rw [zfor_s, ih (fun k hk => h k (by omega))]
    unfold zcnt
    rw [if_neg (h N (by omega))]
theorem zcnt_up {o : Nat → Option Nat} {a i : Nat} (ha : o a = none) : ∀ N, zfor N (zcnt (va_up o a (some i))) 0 = if a < N then zfor N (zcnt o) 0 + 1 else zfor N (zcnt o) 0 := by
  intro N
  induction N with
  | zero => rw [if_neg (Nat.not_lt_zero _)]; rfl
  | succ N ih =>
    rw [zfor_s, ih, zfor_s]
    by_cases e : N = a
    · rw [if_neg (by omega), if_pos (by omega), e]
      unfold zcnt
      rw [va_up_self, if_pos ha, if_neg (by intro q; cases q)]
    · have e2 : zcnt (va_up o a (some i)) N = zcnt o N := by
        funext n
        unfold zcnt
        rw [va_up_ne _ _ e]
      rw [e2]
      by_cases hl : a < N
      · rw [if_pos hl, if_pos (by omega)]
        unfold zcnt
        by_cases hn : o N = none
        · rw [if_pos hn, if_pos hn]
        · rw [if_neg hn, if_neg hn]
      · rw [if_neg hl, if_neg (by omega)]
theorem zTb.free {o : Nat → Option Nat} {n : Nat} {h : Nat → Nat} (H : zTb o n h) (hn : n < 4096) : ∃ k, k < 4096 ∧ o k = none := by
  apply Classical.byContradiction
  intro q
  have := zcnt_full (o := o) 4096 (fun k hk e => q ⟨k, hk, e⟩)
  rw [H.2.2] at this
  omega
/-- a search ends: at a free slot, where no block is the same, or at the same block -/
theorem zTb.probe {o : Nat → Option Nat} {n : Nat} {h : Nat → Nat} (H : zTb o n h) (hn : n < 4096) {z : Nat} (hz : z < 4096) (S : Nat → Prop) (hS : ∀ i, i < n → S i → h i = z) :
    ∃ t, t < 4096 ∧ (∀ s, s < t → ∃ i, i < n ∧ o ((z + s) % 4096) = some i ∧ ¬ S i) ∧ ((o ((z + t) % 4096) = none ∧ ∀ i, i < n → ¬ S i) ∨ ∃ i, i < n ∧ o ((z + t) % 4096) = some i ∧ S i) := by
  obtain ⟨k0, hk0, e0⟩ := H.free hn
  have hex : ∃ t, o ((z + t) % 4096) = none ∨ ∃ i, o ((z + t) % 4096) = some i ∧ S i := ⟨(k0 + 4096 - z) % 4096, Or.inl (by rw [show (z + (k0 + 4096 - z) % 4096) % 4096 = k0 by omega]; exact e0)⟩
  obtain ⟨t, ht, hmin⟩ := pk_least _ hex
  have ht4 : t < 4096 := by
    apply Classical.byContradiction
    intro q
    refine hmin ((k0 + 4096 - z) % 4096) (by omega) (Or.inl ?_)
    rw [show (z + (k0 + 4096 - z) % 4096) % 4096 = k0 by omega]
    exact e0
  have hocc : ∀ s, s < t → ∃ i, i < n ∧ o ((z + s) % 4096) = some i ∧ ¬ S i := fun s hs => by
    have h1 := hmin s hs
    cases ho : o ((z + s) % 4096) with
    | none => exact absurd (Or.inl ho) h1
    | some i => exact ⟨i, H.1 _ (by omega) i ho, rfl, fun q => h1 (Or.inr ⟨i, ho, q⟩)⟩
  refine ⟨t, ht4, hocc, ?_⟩
  rcases ht with ht | ⟨i, hi, hSi⟩
  · refine Or.inl ⟨ht, fun i hi hSi => ?_⟩
    obtain ⟨hh, t2, ht2, e2, e3⟩ := H.2.1 i hi
    rw [hS i hi hSi] at e2 e3
    by_cases c1 : t < t2
    · exact e3 t c1 ht
    · by_cases c2 : t = t2
      · rw [c2, e2] at ht
        cases ht
      · obtain ⟨i2, -, e4, e5⟩ := hocc t2 (by omega)
        rw [e2] at e4
        cases e4
        exact e5 hSi
  · exact Or.inr ⟨i, H.1 _ (by omega) i hi, hi, hSi⟩
theorem zTb.put {o : Nat → Option Nat} {n : Nat} {h h2 : Nat → Nat} (H : zTb o n h) {z t : Nat} (hz : z < 4096) (ht : t < 4096) (hocc : ∀ s, s < t → ¬ o ((z + s) % 4096) = none) (hf : o ((z + t) % 4096) = none) (hh : ∀ i, i < n → h2 i = h i) (hhn : h2 n = z) :
    zTb (va_up o ((z + t) % 4096) (some n)) (n + 1) h2 := by
  obtain ⟨p1, p2, p3⟩ := H
  refine ⟨fun k hk i hi => ?_, fun i hi => ?_, ?_⟩
  · by_cases e : k = (z + t) % 4096
    · rw [e, va_up_self] at hi
      cases hi
      omega
    · rw [va_up_ne _ _ e] at hi
      have := p1 k hk i hi
      omega
  · by_cases e : i = n
    · subst e
      rw [hhn]
      refine ⟨hz, t, ht, va_up_self _ _ _, fun s hs => ?_⟩
      rw [va_up_ne _ _ (by omega)]
      exact hocc s hs
    · obtain ⟨q1, t2, q2, q3, q4⟩ := p2 i (by omega)
      rw [hh i (by omega)]
      refine ⟨q1, t2, q2, ?_, fun s hs => ?_⟩
      · rw [va_up_ne _ _ (fun e2 => by rw [e2, hf] at q3; cases q3)]
        exact q3
      · by_cases e2 : (h i + s) % 4096 = (z + t) % 4096
        · rw [e2, va_up_self]
          intro q
          cases q
        · rw [va_up_ne _ _ e2]
          exact q4 s hs
  · rw [zcnt_up hf, if_pos (by omega), p3]
theorem zTb.new (h : Nat → Nat) : zTb (fun _ => none) 0 h := by
  refine ⟨(fun k _ i hi => nomatch hi), fun i hi => absurd hi (Nat.not_lt_zero _), ?_⟩
  have : ∀ N, zfor N (zcnt (fun _ => none)) 0 = 0 := by
    intro N
    induction N with
    | zero => rfl
    | succ N ih => rw [zfor_s, ih]; rfl
  exact this 4096
/-- the blocks that were met: how many, and the values of each -/
noncomputable def zadd (s : Nat × (Nat → Nat → Int32)) (c : Nat → Int32) : Nat × (Nat → Nat → Int32) := @ite _ ((∀ k, k < 16 → c k = (-2147483648)) ∨ ∃ i, i < s.1 ∧ ∀ k, k < 16 → s.2 i k = c k) (Classical.propDecidable _) s (s.1 + 1, va_up s.2 s.1 c)
theorem zadd_old {s : Nat × (Nat → Nat → Int32)} {c : Nat → Int32} (h : (∀ k, k < 16 → c k = (-2147483648)) ∨ ∃ i, i < s.1 ∧ ∀ k, k < 16 → s.2 i k = c k) : zadd s c = s := if_pos h
theorem zadd_new {s : Nat × (Nat → Nat → Int32)} {c : Nat → Int32} (h1 : ¬ ∀ k, k < 16 → c k = (-2147483648)) (h2 : ∀ i, i < s.1 → ¬ ∀ k, k < 16 → s.2 i k = c k) : zadd s c = (s.1 + 1, va_up s.2 s.1 c) := if_neg (fun q => q.elim h1 (fun ⟨i, hi, e⟩ => h2 i hi e))
theorem zadd_le (s : Nat × (Nat → Nat → Int32)) (c : Nat → Int32) : (zadd s c).1 ≤ s.1 + 1 := by
  unfold zadd
  split
  · omega
  · exact Nat.le_refl _
