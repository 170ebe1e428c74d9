/-! the class's table of blocks -/
def zhs1 (c : Nat → Int32) (k : Nat) (h : Int32) : Int32 := ((h ^^^ c k) * (-1640531535)) ^^^ (((h ^^^ c k) * (-1640531535)).toUInt32 >>> (Int32.toUInt32 15 &&& Int32.toUInt32 31)).toInt32
def zhS (c : Nat → Int32) : Int32 := zfor 16 (zhs1 c) 0 * (-1640531535)
def zSl (c : Nat → Int32) : Nat := (zhS c).toUInt32.toNat / 1048576
theorem zSl_lt (c : Nat → Int32) : zSl c < 4096 := by
  unfold zSl
  have := (zhS c).toUInt32.toNat_lt
  omega
theorem zush (x : Int32) : (x.toUInt32 >>> (Int32.toUInt32 20 &&& Int32.toUInt32 31)).toInt32 = nI (x.toUInt32.toNat / 1048576) := by
  have h1 : (x.toUInt32 >>> (Int32.toUInt32 20 &&& Int32.toUInt32 31)).toNat = x.toUInt32.toNat / 1048576 := by
    rw [UInt32.toNat_shiftRight, show ((Int32.toUInt32 20 &&& Int32.toUInt32 31).toNat % 32) = 20 from by decide, Nat.shiftRight_eq_div_pow]
  have h2 : (x.toUInt32 >>> (Int32.toUInt32 20 &&& Int32.toUInt32 31)) = UInt32.ofNat (x.toUInt32.toNat / 1048576) := by
    apply UInt32.toNat_inj.mp
    rw [h1, UInt32.toNat_ofNat']
    have := x.toUInt32.toNat_lt
    omega
  rw [h2]
  rfl
theorem zhS_c {c c2 : Nat → Int32} (h : ∀ k, k < 16 → c k = c2 k) : zSl c = zSl c2 := by
  unfold zSl zhS
  rw [zfor_c (N := 16) (f := zhs1 c) (g := zhs1 c2) (fun j s hj => by unfold zhs1; rw [h j hj]) 0 16 (Nat.le_refl _)]
def zTS (sl vl : Nat → Int32) (s : Nat × (Nat → Nat → Int32)) : Prop := ∃ o : Nat → Option Nat, (∀ i, i < s.1 → ∀ k, k < 16 → vl (16 * i + k) = s.2 i k) ∧ (∀ k, k < 4096 → sl k = match o k with
    | none => 0
    | some i => nI (i + 1)) ∧ zTb o s.1 (fun i => zSl (s.2 i))
theorem zTS.v {sl vl vl2 : Nat → Int32} {s : Nat × (Nat → Nat → Int32)} (h : zTS sl vl s) (hv : ∀ i, i < 16 * s.1 → vl2 i = vl i) : zTS sl vl2 s := by
  obtain ⟨o, h1, h2, h3⟩ := h
  exact ⟨o, fun i hi k hk => by rw [hv _ (by omega)]; exact h1 i hi k hk, h2, h3⟩
/-- where the search for the block behind those that are kept ends -/
theorem zTS.probe {sl vl : Nat → Int32} {s : Nat × (Nat → Nat → Int32)} (h : zTS sl vl s) (hs : s.1 < 1792) {c : Nat → Int32} (hc : ∀ k, k < 16 → vl (16 * s.1 + k) = c k) (hne : ¬ ∀ k, k < 16 → c k = (-2147483648)) :
    ∃ t, t < 4096 ∧ (∀ j, j < t → ∃ i, i < s.1 ∧ sl ((zSl c + j) % 4096) = nI (i + 1) ∧ ¬ ∀ k, k < 16 → vl (16 * i + k) = vl (16 * s.1 + k)) ∧
      ((sl ((zSl c + t) % 4096) = 0 ∧ zTS (upd sl ((zSl c + t) % 4096) (nI (s.1 + 1))) vl (zadd s c) ∧ (zadd s c).1 = s.1 + 1) ∨ ∃ i, i < s.1 ∧ sl ((zSl c + t) % 4096) = nI (i + 1) ∧ (∀ k, k < 16 → vl (16 * i + k) = vl (16 * s.1 + k)) ∧ zadd s c = s) := by
  obtain ⟨o, h1, h2, h3⟩ := h
  have hz := zSl_lt c
  obtain ⟨t, ht, hocc, hend⟩ := h3.probe (by omega) hz (fun i => ∀ k, k < 16 → s.2 i k = c k) (fun i hi hS => zhS_c hS)
  refine ⟨t, ht, fun j hj => ?_, ?_⟩
  · obtain ⟨i, i1, i2, i3⟩ := hocc j hj
    have := h2 ((zSl c + j) % 4096) (by omega)
    rw [i2] at this
    refine ⟨i, i1, this, fun q => i3 (fun k hk => ?_)⟩
    rw [← h1 i i1 k hk, ← hc k hk]
    exact q k hk
  · rcases hend with ⟨e1, e2⟩ | ⟨i, i1, i2, i3⟩
    · have hf := h2 ((zSl c + t) % 4096) (by omega)
      rw [e1] at hf
      refine Or.inl ⟨hf, ?_⟩
      rw [zadd_new hne e2]
      refine ⟨⟨va_up o ((zSl c + t) % 4096) (some s.1), fun i hi k hk => ?_, fun k hk => ?_, ?_⟩, rfl⟩
      · show vl (16 * i + k) = va_up s.2 s.1 c i k
        by_cases e : i = s.1
        · subst e
          rw [va_up_self]
          exact hc k hk
        · rw [va_up_ne _ _ e]
          exact h1 i (by have : i < s.1 + 1 := hi; omega) k hk
      · by_cases e : k = (zSl c + t) % 4096
        · rw [e, pk_us, va_up_self]
        · rw [pk_un e, va_up_ne _ _ e]
          exact h2 k hk
      · refine h3.put hz ht (fun j hj => ?_) e1 (fun i hi => ?_) ?_
        · obtain ⟨i, -, i2, -⟩ := hocc j hj
          rw [i2]
          exact fun q => nomatch q
        · show zSl (va_up s.2 s.1 c i) = zSl (s.2 i)
          rw [va_up_ne _ _ (by omega)]
        · show zSl (va_up s.2 s.1 c s.1) = zSl c
          rw [va_up_self]
    · have hf := h2 ((zSl c + t) % 4096) (by omega)
      rw [i2] at hf
      exact Or.inr ⟨i, i1, hf, fun k hk => by rw [h1 i i1 k hk, hc k hk]; exact i3 k hk, zadd_old (Or.inr ⟨i, i1, i3⟩)⟩
theorem zTS.new (vl : Nat → Int32) : zTS (fun _ => 0) vl (0, (fun _ _ => 0)) := ⟨(fun _ => none), fun i hi => absurd hi (Nat.not_lt_zero _), fun _ _ => rfl, zTb.new _⟩
