/-! new objects in the class's state; what a call leaves alone -/
theorem zHp.gen {w w2 : zW} {G G1 : zG} (h : zHp w G) (N : Nat → Nat → Option Nat) (hA : ∀ f i q, zAd w2 f i = some q → (zAd w f i = some q ∧ G1 q = some (zKx w2 f i)) ∨ (G q = none ∧ G1 q = some (zKx w2 f i) ∧ N f i = some q)) (hN : ∀ f i f2 i2 q, N f i = some q → N f2 i2 = some q → f = f2 ∧ i = i2) : zHp w2 G1 := by
  refine ⟨fun f i q hq => (hA f i q hq).elim (fun z => z.2) (fun z => z.2.1), fun f i f2 i2 q h1 h2 => ?_⟩
  rcases hA f i q h1 with ⟨a1, a2⟩ | ⟨a1, a2, a3⟩
  · rcases hA f2 i2 q h2 with ⟨b1, b2⟩ | ⟨b1, b2, b3⟩
    · exact h.2 _ _ _ _ _ a1 b1
    · rw [h.1 _ _ _ a1] at b1; cases b1
  · rcases hA f2 i2 q h2 with ⟨b1, b2⟩ | ⟨b1, b2, b3⟩
    · rw [h.1 _ _ _ b1] at a1; cases a1
    · exact hN _ _ _ _ _ a3 b3
def zFr (w : zW) (G : zG) (w2 : zW) (G1 : zG) : Prop := (∀ q, (∀ f i, zAd w f i ≠ some q) → G q ≠ none → G1 q = G q) ∧ (∀ f i q, zAd w2 f i = some q → (∃ f2 i2, zAd w f2 i2 = some q) ∨ G q = none) ∧ w2.a 0 0 = w.a 0 0
theorem zFr.rf (w : zW) (G : zG) : zFr w G w G := ⟨fun _ _ _ => rfl, fun f i _ h => Or.inl ⟨f, i, h⟩, rfl⟩
theorem zFr.tr {w w2 w3 : zW} {G G1 G2 : zG} (h : zFr w G w2 G1) (h2 : zFr w2 G1 w3 G2) : zFr w G w3 G2 := by
  refine ⟨fun q hq hn => ?_, fun f i q hq => ?_, h2.2.2.trans h.2.2⟩
  · have e := h.1 q hq hn
    refine (h2.1 q (fun f i hf => ?_) (by rw [e]; exact hn)).trans e
    rcases h.2.1 f i q hf with ⟨f2, i2, z⟩ | z
    · exact hq f2 i2 z
    · exact hn z
  · rcases h2.2.1 f i q hq with ⟨f2, i2, z⟩ | z
    · exact h.2.1 f2 i2 q z
    · by_cases hn : G q = none
      · exact Or.inr hn
      · apply Classical.byContradiction
        intro c
        have : ∀ f i, zAd w f i ≠ some q := fun f i hf => c (Or.inl ⟨f, i, hf⟩)
        exact hn ((h.1 q this hn).symm.trans z)
theorem zFr.put {w w2 : zW} {G : zG} (f i : Nat) {q : Nat} (hq : zAd w f i = some q) (hA : zAd w2 = zAd w) (c : zC) (h0 : w2.a 0 0 = w.a 0 0) : zFr w G w2 (zput G q c) :=
  ⟨fun r hr _ => zput_n (fun e => hr f i (by rw [e]; exact hq)), fun f2 i2 r hr => Or.inl ⟨f2, i2, by rw [← hA]; exact hr⟩, h0⟩
/-- on what the place of a tag depends -/
theorem zAd_c {w w2 : zW} {f i : Nat} (h1 : (f = 1 ∨ f = 2) → w2.o 1 i = w.o 1 i) (h3 : (f = 3 ∨ f = 4) → w2.o 3 i = w.o 3 i) (h5 : (f = 5 ∨ (10 ≤ f ∧ f < 15)) → w2.o 5 i = w.o 5 i) (h6 : (f = 6 ∨ f = 7) → w2.o 6 i = w.o 6 i) (h8 : f = 8 → i < 3 → w2.o 8 0 = w.o 8 0) (ha : w2.a f i = w.a f i) : zAd w2 f i = zAd w f i := by
  unfold zAd
  split
  · by_cases e : i = 0
    · subst e; rw [if_pos rfl, if_pos rfl, ha]
    · rw [if_neg e, if_neg e]
  · exact h1 (by omega)
  · rw [h1 (by omega), ha]
  · exact h3 (by omega)
  · rw [h3 (by omega), ha]
  · exact h5 (by omega)
  · exact h6 (by omega)
  · rw [h6 (by omega), ha]
  · split
    · exact h8 rfl (by omega)
    · rw [h8 rfl (by omega), ha]
    · rw [h8 rfl (by omega), ha]
    · rfl
  · rw [ha]
  · rw [h5 (by omega), ha]
  · rw [h5 (by omega), ha]
  · rw [h5 (by omega), ha]
  · rw [h5 (by omega), ha]
  · rw [h5 (by omega), ha]
  · rfl
theorem zS9_of {w : zW} {f i r : Nat} (h : zAd w f i = some r) : f = 9 → zS9 i = true := fun e => by
  subst e
  unfold zAd at h
  by_cases c : zS9 i = true
  · exact c
  · rw [if_neg c] at h; cases h
theorem z83 {w : zW} {f i r : Nat} (h : zAd w f i = some r) (e : f = 8) : i < 3 := by
  subst e
  match i, h with
  | 0, _ => omega
  | 1, _ => omega
  | 2, _ => omega
  | i + 3, h =>
    have e : zAd w 8 (i + 3) = none := rfl
    rw [e] at h
    cases h
theorem zS9_12 {i : Nat} (h : zS9 i = true) (h0 : ¬ i = 0) (h1 : ¬ i = 1) (h3 : ¬ i = 3) (h8 : ¬ i = 8) (h9 : ¬ i = 9) (h10 : ¬ i = 10) (h11 : ¬ i = 11) : i = 12 := by
  simp [zS9] at h
  omega
theorem zKx_c {w w2 : zW} {f i : Nat} (hp : f = 9 → zS9 i = true) (h0 : f = 0 → w2.a 9 = w.a 9 ∧ w2.i 0 = w.i 0 ∧ w2.o 8 0 = w.o 8 0) (h1 : f = 1 → w2.i 1 i = w.i 1 i ∧ w2.i 2 i = w.i 2 i ∧ w2.i 3 i = w.i 3 i ∧ w2.a 2 i = w.a 2 i) (h3 : f = 3 → w2.a 4 i = w.a 4 i ∧ w2.i 4 i = w.i 4 i ∧ w2.i 5 i = w.i 5 i ∧ w2.i 6 i = w.i 6 i ∧ w2.o 5 i = w.o 5 i) (h5 : f = 5 → (∀ k, 10 ≤ k → k < 15 → w2.a k i = w.a k i) ∧ w2.i 7 i = w.i 7 i ∧ w2.i 8 i = w.i 8 i) (h6 : f = 6 → w2.a 7 i = w.a 7 i) (h8 : f = 8 → w2.a 8 1 = w.a 8 1 ∧ w2.a 8 2 = w.a 8 2 ∧ w2.i 9 0 = w.i 9 0) (h9 : f = 9 → (i = 1 → w2.o 1 = w.o 1) ∧ (i = 3 → w2.o 3 = w.o 3) ∧ (i = 12 → w2.o 6 = w.o 6)) (hn : w2.n f i = w.n f i) (hf : w2.f f i = w.f f i) : zKx w2 f i = zKx w f i := by
  unfold zKx
  split
  · obtain ⟨a1, a2, a3⟩ := h0 rfl
    rw [a1, a2, a3]
  · obtain ⟨a1, a2, a3, a4⟩ := h1 rfl
    rw [a1, a2, a3, a4]
  · rw [hf]
  · obtain ⟨a1, a2, a3, a4, a5⟩ := h3 rfl
    rw [a1, a2, a3, a4, a5]
  · rw [hf]
  · obtain ⟨a1, a2, a3⟩ := h5 rfl
    rw [a1 10 (by omega) (by omega), a1 11 (by omega) (by omega), a1 12 (by omega) (by omega), a1 13 (by omega) (by omega), a1 14 (by omega) (by omega), a2, a3]
  · rw [h6 rfl]
  · rw [hn]
  · obtain ⟨a1, a2, a3⟩ := h8 rfl
    split
    · rw [a1, a2, a3]
    · rw [hn]
    · rw [hn]
  · obtain ⟨a1, a2, a3⟩ := h9 rfl
    split
    · rw [hn]
    · rw [a1 rfl]
    · rw [a2 rfl]
    · rw [hn]
    · rw [hn]
    · rw [hn]
    · rw [hn]
    · rename_i e1 e2 e3 e4 e5 e6 e7
      have hz := hp rfl
      have e12 : i = 12 := zS9_12 hz e1 e2 e3 e4 e5 e6 e7
      rw [a3 e12]
  · rw [hn]
  · rw [hn]
/-- a new branch -/
def zWnb (w : zW) (b q aa : Nat) : zW := (zud w.o 3 b (some q), zud w.a 4 b aa, zud (zud (zud w.i 4 b 0) 5 b 0) 6 b 0, zud w.f 4 b (fun _ => 0), w.n)
theorem zHp.nb {w : zW} {G G1 : zG} (h : zHp w G) {b q aa : Nat} (h3 : w.o 3 b = none) (h5 : w.o 5 b = none) (hq : G q = none) (ha : G aa = none) (hne : q ≠ aa) (g1 : G1 q = some (zO 2 [.ref aa, .int 0, .int 0, .int 0, .null])) (g2 : G1 aa = some (zJ 4096 (fun _ => 0))) (g3 : G1 (w.a 9 3) = some (zR 4 4 (va_up (w.o 3) b (some q)))) (g4 : ∀ r, r ≠ q → r ≠ aa → r ≠ w.a 9 3 → G1 r = G r) : zHp (zWnb w b q aa) G1 ∧ zFr w G (zWnb w b q aa) G1 := by
  have o0 : ∀ k j, ¬ (k = 3 ∧ j = b) → (zWnb w b q aa).o k j = w.o k j := fun k j e => by
    show zud w.o 3 b (some q) k j = _
    exact zud_n e
  have a0 : ∀ k j, ¬ (k = 4 ∧ j = b) → (zWnb w b q aa).a k j = w.a k j := fun k j e => by
    show zud w.a 4 b aa k j = _
    exact zud_n e
  have hold : ∀ f i, ¬ (f = 3 ∧ i = b) → ¬ (f = 4 ∧ i = b) → zAd (zWnb w b q aa) f i = zAd w f i := fun f i e1 e2 => zAd_c (fun z => o0 _ _ (by omega)) (fun z => o0 _ _ (by omega)) (fun z => o0 _ _ (by omega)) (fun z => o0 _ _ (by omega)) (fun z _ => o0 _ _ (by omega)) (a0 _ _ (by omega))
  have a3 : zAd (zWnb w b q aa) 3 b = some q := zud_s _ _ _ _
  have a4 : zAd (zWnb w b q aa) 4 b = some aa := by
    show (zud w.o 3 b (some q) 3 b).map (fun _ => zud w.a 4 b aa 4 b) = _
    rw [zud_s, zud_s]; rfl
  have i0 : ∀ k j, ¬ (j = b ∧ 4 ≤ k ∧ k ≤ 6) → (zWnb w b q aa).i k j = w.i k j := fun k j e => by
    show zud (zud (zud w.i 4 b 0) 5 b 0) 6 b 0 k j = _
    rw [zud_n (by omega), zud_n (by omega), zud_n (by omega)]
  have kold : ∀ f i, ¬ (f = 3 ∧ i = b) → ¬ (f = 4 ∧ i = b) → ¬ (f = 9 ∧ i = 3) → (f = 9 → zS9 i = true) → zKx (zWnb w b q aa) f i = zKx w f i := fun f i e1 e2 e3 hp => by
    refine zKx_c hp (fun z => ⟨funext fun j => a0 9 j (by omega), funext fun j => i0 0 j (by omega), o0 _ _ (by omega)⟩) (fun z => ⟨i0 _ _ (by omega), i0 _ _ (by omega), i0 _ _ (by omega), a0 _ _ (by omega)⟩) (fun z => ⟨a0 _ _ (by omega), i0 _ _ (by omega), i0 _ _ (by omega), i0 _ _ (by omega), o0 _ _ (by omega)⟩) (fun z => ⟨fun k k1 k2 => a0 _ _ (by omega), i0 _ _ (by omega), i0 _ _ (by omega)⟩) (fun z => a0 _ _ (by omega)) (fun z => ⟨a0 _ _ (by omega), a0 _ _ (by omega), i0 _ _ (by omega)⟩) (fun z => ⟨fun _ => funext fun j => o0 1 j (by omega), fun z3 => absurd ⟨z, z3⟩ e3, fun _ => funext fun j => o0 6 j (by omega)⟩) rfl ?_
    show zud w.f 4 b (fun _ => 0) f i = _
    exact zud_n e2
  refine ⟨h.gen (fun f i => if f = 3 ∧ i = b then some q else if f = 4 ∧ i = b then some aa else none) (fun f i r hr => ?_) (fun f i f2 i2 r h1 h2 => ?_), fun r hr hn => g4 r (fun e => hn (e ▸ hq)) (fun e => hn (e ▸ ha)) (fun e => hr 9 3 (by rw [e]; rfl)), fun f i r hr => ?_, a0 0 0 (by omega)⟩
  · by_cases e1 : f = 3 ∧ i = b
    · obtain ⟨rfl, rfl⟩ := e1
      cases Option.some.inj (a3.symm.trans hr)
      refine Or.inr ⟨hq, g1.trans ?_, if_pos ⟨rfl, rfl⟩⟩
      show _ = some (zO 2 [.ref (zud w.a 4 i aa 4 i), .int (zud (zud (zud w.i 4 i 0) 5 i 0) 6 i 0 4 i), .int (zud (zud (zud w.i 4 i 0) 5 i 0) 6 i 0 5 i), .int (zud (zud (zud w.i 4 i 0) 5 i 0) 6 i 0 6 i), va_rf (zud w.o 3 i (some q) 5 i)])
      rw [zud_s, zud_s, zud_n (show ¬ (4 = 6 ∧ i = i) by omega), zud_n (show ¬ (4 = 5 ∧ i = i) by omega), zud_s, zud_n (show ¬ (5 = 6 ∧ i = i) by omega), zud_s, zud_n (show ¬ (5 = 3 ∧ i = i) by omega), h5]
      rfl
    · by_cases e2 : f = 4 ∧ i = b
      · obtain ⟨rfl, rfl⟩ := e2
        cases Option.some.inj (a4.symm.trans hr)
        refine Or.inr ⟨ha, g2.trans ?_, by rw [if_neg (by omega), if_pos ⟨rfl, rfl⟩]⟩
        show _ = some (zJ 4096 (zud w.f 4 i (fun _ => 0) 4 i))
        rw [zud_s]
      · rw [hold f i e1 e2] at hr
        refine Or.inl ⟨hr, ?_⟩
        have hg := h.1 f i r hr
        by_cases e3 : f = 9 ∧ i = 3
        · obtain ⟨rfl, rfl⟩ := e3
          cases Option.some.inj ((show zAd w 9 3 = some (w.a 9 3) from rfl).symm.trans hr)
          rw [g3]
          show _ = some (zR 4 4 (zud w.o 3 b (some q) 3))
          rw [zud_u]
        · rw [kold f i e1 e2 e3 (zS9_of hr), g4 r (fun e => by rw [e, hq] at hg; cases hg) (fun e => by rw [e, ha] at hg; cases hg) (fun e => e3 (h.2 _ _ _ _ _ hr (by rw [e]; rfl)))]
          exact hg
  · by_cases e1 : f = 3 ∧ i = b
    · rw [if_pos e1] at h1
      cases h1
      by_cases e2 : f2 = 3 ∧ i2 = b
      · omega
      · rw [if_neg e2] at h2
        by_cases e3 : f2 = 4 ∧ i2 = b
        · rw [if_pos e3] at h2; exact absurd (Option.some.inj h2).symm hne
        · rw [if_neg e3] at h2; cases h2
    · rw [if_neg e1] at h1
      by_cases e4 : f = 4 ∧ i = b
      · rw [if_pos e4] at h1
        cases h1
        by_cases e2 : f2 = 3 ∧ i2 = b
        · rw [if_pos e2] at h2; exact absurd (Option.some.inj h2) hne
        · rw [if_neg e2] at h2
          by_cases e3 : f2 = 4 ∧ i2 = b
          · omega
          · rw [if_neg e3] at h2; cases h2
      · rw [if_neg e4] at h1; cases h1
  · by_cases e1 : f = 3 ∧ i = b
    · obtain ⟨rfl, rfl⟩ := e1
      cases Option.some.inj (a3.symm.trans hr)
      exact Or.inr hq
    · by_cases e2 : f = 4 ∧ i = b
      · obtain ⟨rfl, rfl⟩ := e2
        cases Option.some.inj (a4.symm.trans hr)
        exact Or.inr ha
      · rw [hold f i e1 e2] at hr
        exact Or.inl ⟨f, i, hr⟩
/-- a new commit -/
def zWnc (w : zW) (c q aa : Nat) (v1 v2 v3 : Int32) (g : Nat → Int64) : zW := (zud w.o 1 c (some q), zud w.a 2 c aa, zud (zud (zud w.i 1 c v1) 2 c v2) 3 c v3, zud w.f 2 c g, w.n)
theorem zWnc_o (w : zW) (c q aa : Nat) (v1 v2 v3 : Int32) (g : Nat → Int64) (k j : Nat) (h : ¬ ((k = 1 ∧ j = c))) : (zWnc w c q aa v1 v2 v3 g).o k j = w.o k j := by
  show zud w.o 1 c (some q) k j = _
  rw [zud_n (by omega)]
theorem zWnc_o0 (w : zW) (c q aa : Nat) (v1 v2 v3 : Int32) (g : Nat → Int64) : (zWnc w c q aa v1 v2 v3 g).o 1 c = (some q) := by
  show zud w.o 1 c (some q) 1 c = _
  rw [zud_s]
theorem zWnc_a (w : zW) (c q aa : Nat) (v1 v2 v3 : Int32) (g : Nat → Int64) (k j : Nat) (h : ¬ ((k = 2 ∧ j = c))) : (zWnc w c q aa v1 v2 v3 g).a k j = w.a k j := by
  show zud w.a 2 c aa k j = _
  rw [zud_n (by omega)]
theorem zWnc_a0 (w : zW) (c q aa : Nat) (v1 v2 v3 : Int32) (g : Nat → Int64) : (zWnc w c q aa v1 v2 v3 g).a 2 c = aa := by
  show zud w.a 2 c aa 2 c = _
  rw [zud_s]
theorem zWnc_i (w : zW) (c q aa : Nat) (v1 v2 v3 : Int32) (g : Nat → Int64) (k j : Nat) (h : ¬ ((k = 1 ∧ j = c) ∨ (k = 2 ∧ j = c) ∨ (k = 3 ∧ j = c))) : (zWnc w c q aa v1 v2 v3 g).i k j = w.i k j := by
  show zud (zud (zud w.i 1 c v1) 2 c v2) 3 c v3 k j = _
  rw [zud_n (by omega), zud_n (by omega), zud_n (by omega)]
theorem zWnc_i0 (w : zW) (c q aa : Nat) (v1 v2 v3 : Int32) (g : Nat → Int64) : (zWnc w c q aa v1 v2 v3 g).i 1 c = v1 := by
  show zud (zud (zud w.i 1 c v1) 2 c v2) 3 c v3 1 c = _
  rw [zud_n (by omega), zud_n (by omega), zud_s]
theorem zWnc_i1 (w : zW) (c q aa : Nat) (v1 v2 v3 : Int32) (g : Nat → Int64) : (zWnc w c q aa v1 v2 v3 g).i 2 c = v2 := by
  show zud (zud (zud w.i 1 c v1) 2 c v2) 3 c v3 2 c = _
  rw [zud_n (by omega), zud_s]
theorem zWnc_i2 (w : zW) (c q aa : Nat) (v1 v2 v3 : Int32) (g : Nat → Int64) : (zWnc w c q aa v1 v2 v3 g).i 3 c = v3 := by
  show zud (zud (zud w.i 1 c v1) 2 c v2) 3 c v3 3 c = _
  rw [zud_s]
theorem zWnc_f (w : zW) (c q aa : Nat) (v1 v2 v3 : Int32) (g : Nat → Int64) (k j : Nat) (h : ¬ ((k = 2 ∧ j = c))) : (zWnc w c q aa v1 v2 v3 g).f k j = w.f k j := by
  show zud w.f 2 c g k j = _
  rw [zud_n (by omega)]
theorem zWnc_f0 (w : zW) (c q aa : Nat) (v1 v2 v3 : Int32) (g : Nat → Int64) : (zWnc w c q aa v1 v2 v3 g).f 2 c = g := by
  show zud w.f 2 c g 2 c = _
  rw [zud_s]
theorem zWnc_n (w : zW) (c q aa : Nat) (v1 v2 v3 : Int32) (g : Nat → Int64) (k j : Nat) : (zWnc w c q aa v1 v2 v3 g).n k j = w.n k j := rfl
theorem zHp.nc {w : zW} {G G1 : zG} (h : zHp w G) (c q aa : Nat) (v1 v2 v3 : Int32) (g : Nat → Int64) (hf0 : G q = none) (hf1 : G aa = none) (hne : q ≠ aa) (g0 : G1 q = some (zO 1 [.int v1, .int v2, .int v3, .ref aa])) (g1 : G1 aa = some (zJ 4096 g)) (gp : G1 (w.a 9 1) = some (zR 3 24 (va_up (w.o 1) c (some q)))) (g9 : ∀ r, r ≠ q → r ≠ aa → r ≠ w.a 9 1 → G1 r = G r) : zHp (zWnc w c q aa v1 v2 v3 g) G1 ∧ zFr w G (zWnc w c q aa v1 v2 v3 g) G1 := by
  have ad0 : zAd (zWnc w c q aa v1 v2 v3 g) 1 c = some q := by
    exact zWnc_o0 w c q aa v1 v2 v3 g
  have kx0 : zKx (zWnc w c q aa v1 v2 v3 g) 1 c = zO 1 [.int v1, .int v2, .int v3, .ref aa] := by
    show zO 1 [.int ((zWnc w c q aa v1 v2 v3 g).i 1 c), .int ((zWnc w c q aa v1 v2 v3 g).i 2 c), .int ((zWnc w c q aa v1 v2 v3 g).i 3 c), .ref ((zWnc w c q aa v1 v2 v3 g).a 2 c)] = _
    rw [zWnc_i0, zWnc_i1, zWnc_i2, zWnc_a0]
  have ad1 : zAd (zWnc w c q aa v1 v2 v3 g) 2 c = some aa := by
    show ((zWnc w c q aa v1 v2 v3 g).o 1 c).map (fun _ => (zWnc w c q aa v1 v2 v3 g).a 2 c) = _
    rw [zWnc_o0, zWnc_a0]; rfl
  have kx1 : zKx (zWnc w c q aa v1 v2 v3 g) 2 c = zJ 4096 g := by
    show zJ 4096 ((zWnc w c q aa v1 v2 v3 g).f 2 c) = _
    rw [zWnc_f0]
  have kxp : zKx (zWnc w c q aa v1 v2 v3 g) 9 1 = zR 3 24 (va_up (w.o 1) c (some q)) := by
    show zR 3 24 (zud w.o 1 c (some q) 1) = _
    rw [zud_u]
  have hpa : zAd w 9 1 = some (w.a 9 1) := rfl
  have hold : ∀ f i, ¬ (f = 1 ∧ i = c) → ¬ (f = 2 ∧ i = c) → zAd (zWnc w c q aa v1 v2 v3 g) f i = zAd w f i := fun f i e0 e1 => zAd_c (fun z => zWnc_o w c q aa v1 v2 v3 g _ _ (by omega)) (fun z => zWnc_o w c q aa v1 v2 v3 g _ _ (by omega)) (fun z => zWnc_o w c q aa v1 v2 v3 g _ _ (by omega)) (fun z => zWnc_o w c q aa v1 v2 v3 g _ _ (by omega)) (fun z z9 => zWnc_o w c q aa v1 v2 v3 g _ _ (by omega)) (zWnc_a w c q aa v1 v2 v3 g _ _ (by omega))
  have kold : ∀ f i r, zAd w f i = some r → ¬ (f = 1 ∧ i = c) → ¬ (f = 2 ∧ i = c) → ¬ (f = 9 ∧ i = 1) → zKx (zWnc w c q aa v1 v2 v3 g) f i = zKx w f i := fun f i r hpr e0 e1 ep => by
    exact zKx_c (zS9_of hpr) (fun z => ⟨funext fun j => zWnc_a w c q aa v1 v2 v3 g _ _ (by omega), funext fun j => zWnc_i w c q aa v1 v2 v3 g _ _ (by omega), zWnc_o w c q aa v1 v2 v3 g _ _ (by omega)⟩) (fun z => ⟨zWnc_i w c q aa v1 v2 v3 g _ _ (by omega), zWnc_i w c q aa v1 v2 v3 g _ _ (by omega), zWnc_i w c q aa v1 v2 v3 g _ _ (by omega), zWnc_a w c q aa v1 v2 v3 g _ _ (by omega)⟩) (fun z => ⟨zWnc_a w c q aa v1 v2 v3 g _ _ (by omega), zWnc_i w c q aa v1 v2 v3 g _ _ (by omega), zWnc_i w c q aa v1 v2 v3 g _ _ (by omega), zWnc_i w c q aa v1 v2 v3 g _ _ (by omega), zWnc_o w c q aa v1 v2 v3 g _ _ (by omega)⟩) (fun z => ⟨fun k k1 k2 => zWnc_a w c q aa v1 v2 v3 g _ _ (by omega), zWnc_i w c q aa v1 v2 v3 g _ _ (by omega), zWnc_i w c q aa v1 v2 v3 g _ _ (by omega)⟩) (fun z => zWnc_a w c q aa v1 v2 v3 g _ _ (by omega)) (fun z => ⟨zWnc_a w c q aa v1 v2 v3 g _ _ (by omega), zWnc_a w c q aa v1 v2 v3 g _ _ (by omega), zWnc_i w c q aa v1 v2 v3 g _ _ (by omega)⟩) (fun z => ⟨fun z3 => absurd ⟨z, z3⟩ ep, fun z3 => funext fun j => zWnc_o w c q aa v1 v2 v3 g 3 j (by omega), fun z3 => funext fun j => zWnc_o w c q aa v1 v2 v3 g 6 j (by omega)⟩) (rfl) (zWnc_f w c q aa v1 v2 v3 g _ _ (by omega))
  have hNw : ∀ f i r, (if f = 1 ∧ i = c then some q else if f = 2 ∧ i = c then some aa else none) = some r → (f = 1 ∧ i = c ∧ r = q) ∨ (f = 2 ∧ i = c ∧ r = aa) := fun f i r hr => by
    by_cases c0 : f = 1 ∧ i = c
    · rw [if_pos c0] at hr; exact Or.inl ⟨c0.1, c0.2, (Option.some.inj hr).symm⟩
    rw [if_neg c0] at hr
    by_cases c1 : f = 2 ∧ i = c
    · rw [if_pos c1] at hr; exact Or.inr (⟨c1.1, c1.2, (Option.some.inj hr).symm⟩)
    rw [if_neg c1] at hr
    cases hr
  refine ⟨h.gen (fun f i => if f = 1 ∧ i = c then some q else if f = 2 ∧ i = c then some aa else none) (fun f i r hr => ?_) (fun f i f2 i2 r h1 h2 => ?_), fun r hr hn => g9 r (fun e => hn (e ▸ hf0)) (fun e => hn (e ▸ hf1)) (fun e => hr 9 1 (by rw [e]; exact hpa)), fun f i r hr => ?_, zWnc_a w c q aa v1 v2 v3 g 0 0 (by omega)⟩
  · by_cases e0 : f = 1 ∧ i = c
    · obtain ⟨ea, eb⟩ := e0
      rw [ea, eb] at hr ⊢
      cases Option.some.inj (ad0.symm.trans hr)
      refine Or.inr ⟨hf0, g0.trans ?_, ?_⟩
      · rw [kx0]
      · rw [if_pos ⟨rfl, rfl⟩]
    by_cases e1 : f = 2 ∧ i = c
    · obtain ⟨ea, eb⟩ := e1
      rw [ea, eb] at hr ⊢
      cases Option.some.inj (ad1.symm.trans hr)
      refine Or.inr ⟨hf1, g1.trans ?_, ?_⟩
      · rw [kx1]
      · rw [if_neg (by omega), if_pos ⟨rfl, rfl⟩]
    rw [hold f i e0 e1] at hr
    refine Or.inl ⟨hr, ?_⟩
    have hg := h.1 f i r hr
    by_cases ep : f = 9 ∧ i = 1
    · obtain ⟨ea, eb⟩ := ep
      rw [ea, eb] at hr ⊢
      cases Option.some.inj (hpa.symm.trans hr)
      rw [gp, kxp]
    · rw [kold f i r hr e0 e1 ep, g9 r (fun e => by rw [e, hf0] at hg; cases hg) (fun e => by rw [e, hf1] at hg; cases hg) (fun e => ep (h.2 _ _ _ _ _ hr (by rw [e]; exact hpa)))]
      exact hg
  · have m1 := hNw f i r h1
    have m2 := hNw f2 i2 r h2
    omega
  · by_cases e0 : f = 1 ∧ i = c
    · obtain ⟨ea, eb⟩ := e0
      rw [ea, eb] at hr
      cases Option.some.inj (ad0.symm.trans hr)
      exact Or.inr hf0
    by_cases e1 : f = 2 ∧ i = c
    · obtain ⟨ea, eb⟩ := e1
      rw [ea, eb] at hr
      cases Option.some.inj (ad1.symm.trans hr)
      exact Or.inr hf1
    rw [hold f i e0 e1] at hr
    exact Or.inl ⟨f, i, hr⟩
/-- a new base row -/
def zWnr (w : zW) (d q aa : Nat) : zW := (zud w.o 6 d (some q), zud w.a 7 d aa, w.i, w.f, zud w.n 7 d (fun _ => 0))
theorem zWnr_o (w : zW) (d q aa : Nat) (k j : Nat) (h : ¬ ((k = 6 ∧ j = d))) : (zWnr w d q aa).o k j = w.o k j := by
  show zud w.o 6 d (some q) k j = _
  rw [zud_n (by omega)]
theorem zWnr_o0 (w : zW) (d q aa : Nat) : (zWnr w d q aa).o 6 d = (some q) := by
  show zud w.o 6 d (some q) 6 d = _
  rw [zud_s]
theorem zWnr_a (w : zW) (d q aa : Nat) (k j : Nat) (h : ¬ ((k = 7 ∧ j = d))) : (zWnr w d q aa).a k j = w.a k j := by
  show zud w.a 7 d aa k j = _
  rw [zud_n (by omega)]
theorem zWnr_a0 (w : zW) (d q aa : Nat) : (zWnr w d q aa).a 7 d = aa := by
  show zud w.a 7 d aa 7 d = _
  rw [zud_s]
theorem zWnr_i (w : zW) (d q aa : Nat) (k j : Nat) : (zWnr w d q aa).i k j = w.i k j := rfl
theorem zWnr_f (w : zW) (d q aa : Nat) (k j : Nat) : (zWnr w d q aa).f k j = w.f k j := rfl
theorem zWnr_n (w : zW) (d q aa : Nat) (k j : Nat) (h : ¬ ((k = 7 ∧ j = d))) : (zWnr w d q aa).n k j = w.n k j := by
  show zud w.n 7 d (fun _ => 0) k j = _
  rw [zud_n (by omega)]
theorem zWnr_n0 (w : zW) (d q aa : Nat) : (zWnr w d q aa).n 7 d = (fun _ => 0) := by
  show zud w.n 7 d (fun _ => 0) 7 d = _
  rw [zud_s]
theorem zHp.nr {w : zW} {G G1 : zG} (h : zHp w G) (d q aa : Nat) (hf0 : G q = none) (hf1 : G aa = none) (hne : q ≠ aa) (g0 : G1 q = some (zO 4 [.ref aa])) (g1 : G1 aa = some (zI 4096 (fun _ => 0))) (gp : G1 (w.a 9 12) = some (zR 5 24 (va_up (w.o 6) d (some q)))) (g9 : ∀ r, r ≠ q → r ≠ aa → r ≠ w.a 9 12 → G1 r = G r) : zHp (zWnr w d q aa) G1 ∧ zFr w G (zWnr w d q aa) G1 := by
  have ad0 : zAd (zWnr w d q aa) 6 d = some q := by
    exact zWnr_o0 w d q aa
  have kx0 : zKx (zWnr w d q aa) 6 d = zO 4 [.ref aa] := by
    show zO 4 [.ref ((zWnr w d q aa).a 7 d)] = _
    rw [zWnr_a0]
  have ad1 : zAd (zWnr w d q aa) 7 d = some aa := by
    show ((zWnr w d q aa).o 6 d).map (fun _ => (zWnr w d q aa).a 7 d) = _
    rw [zWnr_o0, zWnr_a0]; rfl
  have kx1 : zKx (zWnr w d q aa) 7 d = zI 4096 (fun _ => 0) := by
    show zI 4096 ((zWnr w d q aa).n 7 d) = _
    rw [zWnr_n0]
  have kxp : zKx (zWnr w d q aa) 9 12 = zR 5 24 (va_up (w.o 6) d (some q)) := by
    show zR 5 24 (zud w.o 6 d (some q) 6) = _
    rw [zud_u]
  have hpa : zAd w 9 12 = some (w.a 9 12) := rfl
  have hold : ∀ f i, ¬ (f = 6 ∧ i = d) → ¬ (f = 7 ∧ i = d) → zAd (zWnr w d q aa) f i = zAd w f i := fun f i e0 e1 => zAd_c (fun z => zWnr_o w d q aa _ _ (by omega)) (fun z => zWnr_o w d q aa _ _ (by omega)) (fun z => zWnr_o w d q aa _ _ (by omega)) (fun z => zWnr_o w d q aa _ _ (by omega)) (fun z z9 => zWnr_o w d q aa _ _ (by omega)) (zWnr_a w d q aa _ _ (by omega))
  have kold : ∀ f i r, zAd w f i = some r → ¬ (f = 6 ∧ i = d) → ¬ (f = 7 ∧ i = d) → ¬ (f = 9 ∧ i = 12) → zKx (zWnr w d q aa) f i = zKx w f i := fun f i r hpr e0 e1 ep => by
    exact zKx_c (zS9_of hpr) (fun z => ⟨funext fun j => zWnr_a w d q aa _ _ (by omega), funext fun j => rfl, zWnr_o w d q aa _ _ (by omega)⟩) (fun z => ⟨rfl, rfl, rfl, zWnr_a w d q aa _ _ (by omega)⟩) (fun z => ⟨zWnr_a w d q aa _ _ (by omega), rfl, rfl, rfl, zWnr_o w d q aa _ _ (by omega)⟩) (fun z => ⟨fun k k1 k2 => zWnr_a w d q aa _ _ (by omega), rfl, rfl⟩) (fun z => zWnr_a w d q aa _ _ (by omega)) (fun z => ⟨zWnr_a w d q aa _ _ (by omega), zWnr_a w d q aa _ _ (by omega), rfl⟩) (fun z => ⟨fun z3 => funext fun j => zWnr_o w d q aa 1 j (by omega), fun z3 => funext fun j => zWnr_o w d q aa 3 j (by omega), fun z3 => absurd ⟨z, z3⟩ ep⟩) (zWnr_n w d q aa _ _ (by omega)) (rfl)
  have hNw : ∀ f i r, (if f = 6 ∧ i = d then some q else if f = 7 ∧ i = d then some aa else none) = some r → (f = 6 ∧ i = d ∧ r = q) ∨ (f = 7 ∧ i = d ∧ r = aa) := fun f i r hr => by
    by_cases c0 : f = 6 ∧ i = d
    · rw [if_pos c0] at hr; exact Or.inl ⟨c0.1, c0.2, (Option.some.inj hr).symm⟩
    rw [if_neg c0] at hr
    by_cases c1 : f = 7 ∧ i = d
    · rw [if_pos c1] at hr; exact Or.inr (⟨c1.1, c1.2, (Option.some.inj hr).symm⟩)
    rw [if_neg c1] at hr
    cases hr
  refine ⟨h.gen (fun f i => if f = 6 ∧ i = d then some q else if f = 7 ∧ i = d then some aa else none) (fun f i r hr => ?_) (fun f i f2 i2 r h1 h2 => ?_), fun r hr hn => g9 r (fun e => hn (e ▸ hf0)) (fun e => hn (e ▸ hf1)) (fun e => hr 9 12 (by rw [e]; exact hpa)), fun f i r hr => ?_, zWnr_a w d q aa 0 0 (by omega)⟩
  · by_cases e0 : f = 6 ∧ i = d
    · obtain ⟨ea, eb⟩ := e0
      rw [ea, eb] at hr ⊢
      cases Option.some.inj (ad0.symm.trans hr)
      refine Or.inr ⟨hf0, g0.trans ?_, ?_⟩
      · rw [kx0]
      · rw [if_pos ⟨rfl, rfl⟩]
    by_cases e1 : f = 7 ∧ i = d
    · obtain ⟨ea, eb⟩ := e1
      rw [ea, eb] at hr ⊢
      cases Option.some.inj (ad1.symm.trans hr)
      refine Or.inr ⟨hf1, g1.trans ?_, ?_⟩
      · rw [kx1]
      · rw [if_neg (by omega), if_pos ⟨rfl, rfl⟩]
    rw [hold f i e0 e1] at hr
    refine Or.inl ⟨hr, ?_⟩
    have hg := h.1 f i r hr
    by_cases ep : f = 9 ∧ i = 12
    · obtain ⟨ea, eb⟩ := ep
      rw [ea, eb] at hr ⊢
      cases Option.some.inj (hpa.symm.trans hr)
      rw [gp, kxp]
    · rw [kold f i r hr e0 e1 ep, g9 r (fun e => by rw [e, hf0] at hg; cases hg) (fun e => by rw [e, hf1] at hg; cases hg) (fun e => ep (h.2 _ _ _ _ _ hr (by rw [e]; exact hpa)))]
      exact hg
  · have m1 := hNw f i r h1
    have m2 := hNw f2 i2 r h2
    omega
  · by_cases e0 : f = 6 ∧ i = d
    · obtain ⟨ea, eb⟩ := e0
      rw [ea, eb] at hr
      cases Option.some.inj (ad0.symm.trans hr)
      exact Or.inr hf0
    by_cases e1 : f = 7 ∧ i = d
    · obtain ⟨ea, eb⟩ := e1
      rw [ea, eb] at hr
      cases Option.some.inj (ad1.symm.trans hr)
      exact Or.inr hf1
    rw [hold f i e0 e1] at hr
    exact Or.inl ⟨f, i, hr⟩
/-- new conflicts of a branch -/
def zWnk (w : zW) (b q a0 a1 a2 a3 a4 : Nat) : zW := (zud w.o 5 b (some q), zud (zud (zud (zud (zud w.a 10 b a0) 11 b a1) 12 b a2) 13 b a3) 14 b a4, zud (zud w.i 7 b 0) 8 b 0, w.f, zud (zud (zud (zud (zud w.n 10 b (fun _ => 0)) 11 b (fun _ => 0)) 12 b (fun _ => 0)) 13 b (fun _ => 0)) 14 b (fun _ => 0))
theorem zWnk_o (w : zW) (b q a0 a1 a2 a3 a4 : Nat) (k j : Nat) (h : ¬ ((k = 5 ∧ j = b))) : (zWnk w b q a0 a1 a2 a3 a4).o k j = w.o k j := by
  show zud w.o 5 b (some q) k j = _
  rw [zud_n (by omega)]
theorem zWnk_o0 (w : zW) (b q a0 a1 a2 a3 a4 : Nat) : (zWnk w b q a0 a1 a2 a3 a4).o 5 b = (some q) := by
  show zud w.o 5 b (some q) 5 b = _
  rw [zud_s]
theorem zWnk_a (w : zW) (b q a0 a1 a2 a3 a4 : Nat) (k j : Nat) (h : ¬ ((k = 10 ∧ j = b) ∨ (k = 11 ∧ j = b) ∨ (k = 12 ∧ j = b) ∨ (k = 13 ∧ j = b) ∨ (k = 14 ∧ j = b))) : (zWnk w b q a0 a1 a2 a3 a4).a k j = w.a k j := by
  show zud (zud (zud (zud (zud w.a 10 b a0) 11 b a1) 12 b a2) 13 b a3) 14 b a4 k j = _
  rw [zud_n (by omega), zud_n (by omega), zud_n (by omega), zud_n (by omega), zud_n (by omega)]
theorem zWnk_a0 (w : zW) (b q a0 a1 a2 a3 a4 : Nat) : (zWnk w b q a0 a1 a2 a3 a4).a 10 b = a0 := by
  show zud (zud (zud (zud (zud w.a 10 b a0) 11 b a1) 12 b a2) 13 b a3) 14 b a4 10 b = _
  rw [zud_n (by omega), zud_n (by omega), zud_n (by omega), zud_n (by omega), zud_s]
theorem zWnk_a1 (w : zW) (b q a0 a1 a2 a3 a4 : Nat) : (zWnk w b q a0 a1 a2 a3 a4).a 11 b = a1 := by
  show zud (zud (zud (zud (zud w.a 10 b a0) 11 b a1) 12 b a2) 13 b a3) 14 b a4 11 b = _
  rw [zud_n (by omega), zud_n (by omega), zud_n (by omega), zud_s]
theorem zWnk_a2 (w : zW) (b q a0 a1 a2 a3 a4 : Nat) : (zWnk w b q a0 a1 a2 a3 a4).a 12 b = a2 := by
  show zud (zud (zud (zud (zud w.a 10 b a0) 11 b a1) 12 b a2) 13 b a3) 14 b a4 12 b = _
  rw [zud_n (by omega), zud_n (by omega), zud_s]
theorem zWnk_a3 (w : zW) (b q a0 a1 a2 a3 a4 : Nat) : (zWnk w b q a0 a1 a2 a3 a4).a 13 b = a3 := by
  show zud (zud (zud (zud (zud w.a 10 b a0) 11 b a1) 12 b a2) 13 b a3) 14 b a4 13 b = _
  rw [zud_n (by omega), zud_s]
theorem zWnk_a4 (w : zW) (b q a0 a1 a2 a3 a4 : Nat) : (zWnk w b q a0 a1 a2 a3 a4).a 14 b = a4 := by
  show zud (zud (zud (zud (zud w.a 10 b a0) 11 b a1) 12 b a2) 13 b a3) 14 b a4 14 b = _
  rw [zud_s]
theorem zWnk_i (w : zW) (b q a0 a1 a2 a3 a4 : Nat) (k j : Nat) (h : ¬ ((k = 7 ∧ j = b) ∨ (k = 8 ∧ j = b))) : (zWnk w b q a0 a1 a2 a3 a4).i k j = w.i k j := by
  show zud (zud w.i 7 b 0) 8 b 0 k j = _
  rw [zud_n (by omega), zud_n (by omega)]
theorem zWnk_i0 (w : zW) (b q a0 a1 a2 a3 a4 : Nat) : (zWnk w b q a0 a1 a2 a3 a4).i 7 b = 0 := by
  show zud (zud w.i 7 b 0) 8 b 0 7 b = _
  rw [zud_n (by omega), zud_s]
theorem zWnk_i1 (w : zW) (b q a0 a1 a2 a3 a4 : Nat) : (zWnk w b q a0 a1 a2 a3 a4).i 8 b = 0 := by
  show zud (zud w.i 7 b 0) 8 b 0 8 b = _
  rw [zud_s]
theorem zWnk_f (w : zW) (b q a0 a1 a2 a3 a4 : Nat) (k j : Nat) : (zWnk w b q a0 a1 a2 a3 a4).f k j = w.f k j := rfl
theorem zWnk_n (w : zW) (b q a0 a1 a2 a3 a4 : Nat) (k j : Nat) (h : ¬ ((k = 10 ∧ j = b) ∨ (k = 11 ∧ j = b) ∨ (k = 12 ∧ j = b) ∨ (k = 13 ∧ j = b) ∨ (k = 14 ∧ j = b))) : (zWnk w b q a0 a1 a2 a3 a4).n k j = w.n k j := by
  show zud (zud (zud (zud (zud w.n 10 b (fun _ => 0)) 11 b (fun _ => 0)) 12 b (fun _ => 0)) 13 b (fun _ => 0)) 14 b (fun _ => 0) k j = _
  rw [zud_n (by omega), zud_n (by omega), zud_n (by omega), zud_n (by omega), zud_n (by omega)]
theorem zWnk_n0 (w : zW) (b q a0 a1 a2 a3 a4 : Nat) : (zWnk w b q a0 a1 a2 a3 a4).n 10 b = (fun _ => 0) := by
  show zud (zud (zud (zud (zud w.n 10 b (fun _ => 0)) 11 b (fun _ => 0)) 12 b (fun _ => 0)) 13 b (fun _ => 0)) 14 b (fun _ => 0) 10 b = _
  rw [zud_n (by omega), zud_n (by omega), zud_n (by omega), zud_n (by omega), zud_s]
theorem zWnk_n1 (w : zW) (b q a0 a1 a2 a3 a4 : Nat) : (zWnk w b q a0 a1 a2 a3 a4).n 11 b = (fun _ => 0) := by
  show zud (zud (zud (zud (zud w.n 10 b (fun _ => 0)) 11 b (fun _ => 0)) 12 b (fun _ => 0)) 13 b (fun _ => 0)) 14 b (fun _ => 0) 11 b = _
  rw [zud_n (by omega), zud_n (by omega), zud_n (by omega), zud_s]
theorem zWnk_n2 (w : zW) (b q a0 a1 a2 a3 a4 : Nat) : (zWnk w b q a0 a1 a2 a3 a4).n 12 b = (fun _ => 0) := by
  show zud (zud (zud (zud (zud w.n 10 b (fun _ => 0)) 11 b (fun _ => 0)) 12 b (fun _ => 0)) 13 b (fun _ => 0)) 14 b (fun _ => 0) 12 b = _
  rw [zud_n (by omega), zud_n (by omega), zud_s]
theorem zWnk_n3 (w : zW) (b q a0 a1 a2 a3 a4 : Nat) : (zWnk w b q a0 a1 a2 a3 a4).n 13 b = (fun _ => 0) := by
  show zud (zud (zud (zud (zud w.n 10 b (fun _ => 0)) 11 b (fun _ => 0)) 12 b (fun _ => 0)) 13 b (fun _ => 0)) 14 b (fun _ => 0) 13 b = _
  rw [zud_n (by omega), zud_s]
theorem zWnk_n4 (w : zW) (b q a0 a1 a2 a3 a4 : Nat) : (zWnk w b q a0 a1 a2 a3 a4).n 14 b = (fun _ => 0) := by
  show zud (zud (zud (zud (zud w.n 10 b (fun _ => 0)) 11 b (fun _ => 0)) 12 b (fun _ => 0)) 13 b (fun _ => 0)) 14 b (fun _ => 0) 14 b = _
  rw [zud_s]
theorem zHp.nk {w : zW} {G G1 : zG} (h : zHp w G) (b q a0 a1 a2 a3 a4 : Nat) (hf0 : G q = none) (hf1 : G a0 = none) (hf2 : G a1 = none) (hf3 : G a2 = none) (hf4 : G a3 = none) (hf5 : G a4 = none) (hne : q ≠ a0 ∧ q ≠ a1 ∧ q ≠ a2 ∧ q ≠ a3 ∧ q ≠ a4 ∧ a0 ≠ a1 ∧ a0 ≠ a2 ∧ a0 ≠ a3 ∧ a0 ≠ a4 ∧ a1 ≠ a2 ∧ a1 ≠ a3 ∧ a1 ≠ a4 ∧ a2 ≠ a3 ∧ a2 ≠ a4 ∧ a3 ≠ a4) {qb : Nat} (hpa : w.o 3 b = some qb) (g0 : G1 q = some (zO 3 [.ref a0, .ref a1, .ref a2, .ref a3, .ref a4, .int 0, .int 0])) (g1 : G1 a0 = some (zI 4096 (fun _ => 0))) (g2 : G1 a1 = some (zI 4096 (fun _ => 0))) (g3 : G1 a2 = some (zI 4096 (fun _ => 0))) (g4 : G1 a3 = some (zI 4096 (fun _ => 0))) (g5 : G1 a4 = some (zB 4096 (fun _ => 0))) (gp : G1 qb = some (zO 2 [.ref (w.a 4 b), .int (w.i 4 b), .int (w.i 5 b), .int (w.i 6 b), .ref q])) (g9 : ∀ r, r ≠ q → r ≠ a0 → r ≠ a1 → r ≠ a2 → r ≠ a3 → r ≠ a4 → r ≠ qb → G1 r = G r) : zHp (zWnk w b q a0 a1 a2 a3 a4) G1 ∧ zFr w G (zWnk w b q a0 a1 a2 a3 a4) G1 := by
  have ad0 : zAd (zWnk w b q a0 a1 a2 a3 a4) 5 b = some q := by
    exact zWnk_o0 w b q a0 a1 a2 a3 a4
  have kx0 : zKx (zWnk w b q a0 a1 a2 a3 a4) 5 b = zO 3 [.ref a0, .ref a1, .ref a2, .ref a3, .ref a4, .int 0, .int 0] := by
    show zO 3 [.ref ((zWnk w b q a0 a1 a2 a3 a4).a 10 b), .ref ((zWnk w b q a0 a1 a2 a3 a4).a 11 b), .ref ((zWnk w b q a0 a1 a2 a3 a4).a 12 b), .ref ((zWnk w b q a0 a1 a2 a3 a4).a 13 b), .ref ((zWnk w b q a0 a1 a2 a3 a4).a 14 b), .int ((zWnk w b q a0 a1 a2 a3 a4).i 7 b), .int ((zWnk w b q a0 a1 a2 a3 a4).i 8 b)] = _
    rw [zWnk_a0, zWnk_a1, zWnk_a2, zWnk_a3, zWnk_a4, zWnk_i0, zWnk_i1]
  have ad1 : zAd (zWnk w b q a0 a1 a2 a3 a4) 10 b = some a0 := by
    show ((zWnk w b q a0 a1 a2 a3 a4).o 5 b).map (fun _ => (zWnk w b q a0 a1 a2 a3 a4).a 10 b) = _
    rw [zWnk_o0, zWnk_a0]; rfl
  have kx1 : zKx (zWnk w b q a0 a1 a2 a3 a4) 10 b = zI 4096 (fun _ => 0) := by
    show zI 4096 ((zWnk w b q a0 a1 a2 a3 a4).n 10 b) = _
    rw [zWnk_n0]
  have ad2 : zAd (zWnk w b q a0 a1 a2 a3 a4) 11 b = some a1 := by
    show ((zWnk w b q a0 a1 a2 a3 a4).o 5 b).map (fun _ => (zWnk w b q a0 a1 a2 a3 a4).a 11 b) = _
    rw [zWnk_o0, zWnk_a1]; rfl
  have kx2 : zKx (zWnk w b q a0 a1 a2 a3 a4) 11 b = zI 4096 (fun _ => 0) := by
    show zI 4096 ((zWnk w b q a0 a1 a2 a3 a4).n 11 b) = _
    rw [zWnk_n1]
  have ad3 : zAd (zWnk w b q a0 a1 a2 a3 a4) 12 b = some a2 := by
    show ((zWnk w b q a0 a1 a2 a3 a4).o 5 b).map (fun _ => (zWnk w b q a0 a1 a2 a3 a4).a 12 b) = _
    rw [zWnk_o0, zWnk_a2]; rfl
  have kx3 : zKx (zWnk w b q a0 a1 a2 a3 a4) 12 b = zI 4096 (fun _ => 0) := by
    show zI 4096 ((zWnk w b q a0 a1 a2 a3 a4).n 12 b) = _
    rw [zWnk_n2]
  have ad4 : zAd (zWnk w b q a0 a1 a2 a3 a4) 13 b = some a3 := by
    show ((zWnk w b q a0 a1 a2 a3 a4).o 5 b).map (fun _ => (zWnk w b q a0 a1 a2 a3 a4).a 13 b) = _
    rw [zWnk_o0, zWnk_a3]; rfl
  have kx4 : zKx (zWnk w b q a0 a1 a2 a3 a4) 13 b = zI 4096 (fun _ => 0) := by
    show zI 4096 ((zWnk w b q a0 a1 a2 a3 a4).n 13 b) = _
    rw [zWnk_n3]
  have ad5 : zAd (zWnk w b q a0 a1 a2 a3 a4) 14 b = some a4 := by
    show ((zWnk w b q a0 a1 a2 a3 a4).o 5 b).map (fun _ => (zWnk w b q a0 a1 a2 a3 a4).a 14 b) = _
    rw [zWnk_o0, zWnk_a4]; rfl
  have kx5 : zKx (zWnk w b q a0 a1 a2 a3 a4) 14 b = zB 4096 (fun _ => 0) := by
    show zB 4096 ((zWnk w b q a0 a1 a2 a3 a4).n 14 b) = _
    rw [zWnk_n4]
  have kxp : zKx (zWnk w b q a0 a1 a2 a3 a4) 3 b = zO 2 [.ref (w.a 4 b), .int (w.i 4 b), .int (w.i 5 b), .int (w.i 6 b), .ref q] := by
    show zO 2 [.ref ((zWnk w b q a0 a1 a2 a3 a4).a 4 b), .int ((zWnk w b q a0 a1 a2 a3 a4).i 4 b), .int ((zWnk w b q a0 a1 a2 a3 a4).i 5 b), .int ((zWnk w b q a0 a1 a2 a3 a4).i 6 b), va_rf ((zWnk w b q a0 a1 a2 a3 a4).o 5 b)] = _
    rw [zWnk_a _ _ _ _ _ _ _ _ _ _ (by omega), zWnk_i _ _ _ _ _ _ _ _ _ _ (by omega), zWnk_i _ _ _ _ _ _ _ _ _ _ (by omega), zWnk_i _ _ _ _ _ _ _ _ _ _ (by omega), zWnk_o0]
    rfl
  have hold : ∀ f i, ¬ (f = 5 ∧ i = b) → ¬ (f = 10 ∧ i = b) → ¬ (f = 11 ∧ i = b) → ¬ (f = 12 ∧ i = b) → ¬ (f = 13 ∧ i = b) → ¬ (f = 14 ∧ i = b) → zAd (zWnk w b q a0 a1 a2 a3 a4) f i = zAd w f i := fun f i e0 e1 e2 e3 e4 e5 => zAd_c (fun z => zWnk_o w b q a0 a1 a2 a3 a4 _ _ (by omega)) (fun z => zWnk_o w b q a0 a1 a2 a3 a4 _ _ (by omega)) (fun z => zWnk_o w b q a0 a1 a2 a3 a4 _ _ (by omega)) (fun z => zWnk_o w b q a0 a1 a2 a3 a4 _ _ (by omega)) (fun z z9 => zWnk_o w b q a0 a1 a2 a3 a4 _ _ (by omega)) (zWnk_a w b q a0 a1 a2 a3 a4 _ _ (by omega))
  have kold : ∀ f i r, zAd w f i = some r → ¬ (f = 5 ∧ i = b) → ¬ (f = 10 ∧ i = b) → ¬ (f = 11 ∧ i = b) → ¬ (f = 12 ∧ i = b) → ¬ (f = 13 ∧ i = b) → ¬ (f = 14 ∧ i = b) → ¬ (f = 3 ∧ i = b) → zKx (zWnk w b q a0 a1 a2 a3 a4) f i = zKx w f i := fun f i r hpr e0 e1 e2 e3 e4 e5 ep => by
    exact zKx_c (zS9_of hpr) (fun z => ⟨funext fun j => zWnk_a w b q a0 a1 a2 a3 a4 _ _ (by omega), funext fun j => zWnk_i w b q a0 a1 a2 a3 a4 _ _ (by omega), zWnk_o w b q a0 a1 a2 a3 a4 _ _ (by omega)⟩) (fun z => ⟨zWnk_i w b q a0 a1 a2 a3 a4 _ _ (by omega), zWnk_i w b q a0 a1 a2 a3 a4 _ _ (by omega), zWnk_i w b q a0 a1 a2 a3 a4 _ _ (by omega), zWnk_a w b q a0 a1 a2 a3 a4 _ _ (by omega)⟩) (fun z => ⟨zWnk_a w b q a0 a1 a2 a3 a4 _ _ (by omega), zWnk_i w b q a0 a1 a2 a3 a4 _ _ (by omega), zWnk_i w b q a0 a1 a2 a3 a4 _ _ (by omega), zWnk_i w b q a0 a1 a2 a3 a4 _ _ (by omega), zWnk_o w b q a0 a1 a2 a3 a4 _ _ (by omega)⟩) (fun z => ⟨fun k k1 k2 => zWnk_a w b q a0 a1 a2 a3 a4 _ _ (by omega), zWnk_i w b q a0 a1 a2 a3 a4 _ _ (by omega), zWnk_i w b q a0 a1 a2 a3 a4 _ _ (by omega)⟩) (fun z => zWnk_a w b q a0 a1 a2 a3 a4 _ _ (by omega)) (fun z => ⟨zWnk_a w b q a0 a1 a2 a3 a4 _ _ (by omega), zWnk_a w b q a0 a1 a2 a3 a4 _ _ (by omega), zWnk_i w b q a0 a1 a2 a3 a4 _ _ (by omega)⟩) (fun z => ⟨fun z3 => funext fun j => zWnk_o w b q a0 a1 a2 a3 a4 1 j (by omega), fun z3 => funext fun j => zWnk_o w b q a0 a1 a2 a3 a4 3 j (by omega), fun z3 => funext fun j => zWnk_o w b q a0 a1 a2 a3 a4 6 j (by omega)⟩) (zWnk_n w b q a0 a1 a2 a3 a4 _ _ (by omega)) (rfl)
  have hNw : ∀ f i r, (if f = 5 ∧ i = b then some q else if f = 10 ∧ i = b then some a0 else if f = 11 ∧ i = b then some a1 else if f = 12 ∧ i = b then some a2 else if f = 13 ∧ i = b then some a3 else if f = 14 ∧ i = b then some a4 else none) = some r → (f = 5 ∧ i = b ∧ r = q) ∨ (f = 10 ∧ i = b ∧ r = a0) ∨ (f = 11 ∧ i = b ∧ r = a1) ∨ (f = 12 ∧ i = b ∧ r = a2) ∨ (f = 13 ∧ i = b ∧ r = a3) ∨ (f = 14 ∧ i = b ∧ r = a4) := fun f i r hr => by
    by_cases c0 : f = 5 ∧ i = b
    · rw [if_pos c0] at hr; exact Or.inl ⟨c0.1, c0.2, (Option.some.inj hr).symm⟩
    rw [if_neg c0] at hr
    by_cases c1 : f = 10 ∧ i = b
    · rw [if_pos c1] at hr; exact Or.inr (Or.inl ⟨c1.1, c1.2, (Option.some.inj hr).symm⟩)
    rw [if_neg c1] at hr
    by_cases c2 : f = 11 ∧ i = b
    · rw [if_pos c2] at hr; exact Or.inr (Or.inr (Or.inl ⟨c2.1, c2.2, (Option.some.inj hr).symm⟩))
    rw [if_neg c2] at hr
    by_cases c3 : f = 12 ∧ i = b
    · rw [if_pos c3] at hr; exact Or.inr (Or.inr (Or.inr (Or.inl ⟨c3.1, c3.2, (Option.some.inj hr).symm⟩)))
    rw [if_neg c3] at hr
    by_cases c4 : f = 13 ∧ i = b
    · rw [if_pos c4] at hr; exact Or.inr (Or.inr (Or.inr (Or.inr (Or.inl ⟨c4.1, c4.2, (Option.some.inj hr).symm⟩))))
    rw [if_neg c4] at hr
    by_cases c5 : f = 14 ∧ i = b
    · rw [if_pos c5] at hr; exact Or.inr (Or.inr (Or.inr (Or.inr (Or.inr (⟨c5.1, c5.2, (Option.some.inj hr).symm⟩)))))
    rw [if_neg c5] at hr
    cases hr
  refine ⟨h.gen (fun f i => if f = 5 ∧ i = b then some q else if f = 10 ∧ i = b then some a0 else if f = 11 ∧ i = b then some a1 else if f = 12 ∧ i = b then some a2 else if f = 13 ∧ i = b then some a3 else if f = 14 ∧ i = b then some a4 else none) (fun f i r hr => ?_) (fun f i f2 i2 r h1 h2 => ?_), fun r hr hn => g9 r (fun e => hn (e ▸ hf0)) (fun e => hn (e ▸ hf1)) (fun e => hn (e ▸ hf2)) (fun e => hn (e ▸ hf3)) (fun e => hn (e ▸ hf4)) (fun e => hn (e ▸ hf5)) (fun e => hr 3 b (by rw [e]; exact hpa)), fun f i r hr => ?_, zWnk_a w b q a0 a1 a2 a3 a4 0 0 (by omega)⟩
  · by_cases e0 : f = 5 ∧ i = b
    · obtain ⟨ea, eb⟩ := e0
      rw [ea, eb] at hr ⊢
      cases Option.some.inj (ad0.symm.trans hr)
      refine Or.inr ⟨hf0, g0.trans ?_, ?_⟩
      · rw [kx0]
      · rw [if_pos ⟨rfl, rfl⟩]
    by_cases e1 : f = 10 ∧ i = b
    · obtain ⟨ea, eb⟩ := e1
      rw [ea, eb] at hr ⊢
      cases Option.some.inj (ad1.symm.trans hr)
      refine Or.inr ⟨hf1, g1.trans ?_, ?_⟩
      · rw [kx1]
      · rw [if_neg (by omega), if_pos ⟨rfl, rfl⟩]
    by_cases e2 : f = 11 ∧ i = b
    · obtain ⟨ea, eb⟩ := e2
      rw [ea, eb] at hr ⊢
      cases Option.some.inj (ad2.symm.trans hr)
      refine Or.inr ⟨hf2, g2.trans ?_, ?_⟩
      · rw [kx2]
      · rw [if_neg (by omega), if_neg (by omega), if_pos ⟨rfl, rfl⟩]
    by_cases e3 : f = 12 ∧ i = b
    · obtain ⟨ea, eb⟩ := e3
      rw [ea, eb] at hr ⊢
      cases Option.some.inj (ad3.symm.trans hr)
      refine Or.inr ⟨hf3, g3.trans ?_, ?_⟩
      · rw [kx3]
      · rw [if_neg (by omega), if_neg (by omega), if_neg (by omega), if_pos ⟨rfl, rfl⟩]
    by_cases e4 : f = 13 ∧ i = b
    · obtain ⟨ea, eb⟩ := e4
      rw [ea, eb] at hr ⊢
      cases Option.some.inj (ad4.symm.trans hr)
      refine Or.inr ⟨hf4, g4.trans ?_, ?_⟩
      · rw [kx4]
      · rw [if_neg (by omega), if_neg (by omega), if_neg (by omega), if_neg (by omega), if_pos ⟨rfl, rfl⟩]
    by_cases e5 : f = 14 ∧ i = b
    · obtain ⟨ea, eb⟩ := e5
      rw [ea, eb] at hr ⊢
      cases Option.some.inj (ad5.symm.trans hr)
      refine Or.inr ⟨hf5, g5.trans ?_, ?_⟩
      · rw [kx5]
      · rw [if_neg (by omega), if_neg (by omega), if_neg (by omega), if_neg (by omega), if_neg (by omega), if_pos ⟨rfl, rfl⟩]
    rw [hold f i e0 e1 e2 e3 e4 e5] at hr
    refine Or.inl ⟨hr, ?_⟩
    have hg := h.1 f i r hr
    by_cases ep : f = 3 ∧ i = b
    · obtain ⟨ea, eb⟩ := ep
      rw [ea, eb] at hr ⊢
      cases Option.some.inj (hpa.symm.trans hr)
      rw [gp, kxp]
    · rw [kold f i r hr e0 e1 e2 e3 e4 e5 ep, g9 r (fun e => by rw [e, hf0] at hg; cases hg) (fun e => by rw [e, hf1] at hg; cases hg) (fun e => by rw [e, hf2] at hg; cases hg) (fun e => by rw [e, hf3] at hg; cases hg) (fun e => by rw [e, hf4] at hg; cases hg) (fun e => by rw [e, hf5] at hg; cases hg) (fun e => ep (h.2 _ _ _ _ _ hr (by rw [e]; exact hpa)))]
      exact hg
  · have m1 := hNw f i r h1
    have m2 := hNw f2 i2 r h2
    omega
  · by_cases e0 : f = 5 ∧ i = b
    · obtain ⟨ea, eb⟩ := e0
      rw [ea, eb] at hr
      cases Option.some.inj (ad0.symm.trans hr)
      exact Or.inr hf0
    by_cases e1 : f = 10 ∧ i = b
    · obtain ⟨ea, eb⟩ := e1
      rw [ea, eb] at hr
      cases Option.some.inj (ad1.symm.trans hr)
      exact Or.inr hf1
    by_cases e2 : f = 11 ∧ i = b
    · obtain ⟨ea, eb⟩ := e2
      rw [ea, eb] at hr
      cases Option.some.inj (ad2.symm.trans hr)
      exact Or.inr hf2
    by_cases e3 : f = 12 ∧ i = b
    · obtain ⟨ea, eb⟩ := e3
      rw [ea, eb] at hr
      cases Option.some.inj (ad3.symm.trans hr)
      exact Or.inr hf3
    by_cases e4 : f = 13 ∧ i = b
    · obtain ⟨ea, eb⟩ := e4
      rw [ea, eb] at hr
      cases Option.some.inj (ad4.symm.trans hr)
      exact Or.inr hf4
    by_cases e5 : f = 14 ∧ i = b
    · obtain ⟨ea, eb⟩ := e5
      rw [ea, eb] at hr
      cases Option.some.inj (ad5.symm.trans hr)
      exact Or.inr hf5
    rw [hold f i e0 e1 e2 e3 e4 e5] at hr
    exact Or.inl ⟨f, i, hr⟩
/-- the new block table -/
def zWnt (w : zW) (q a1 a2 : Nat) : zW := (zud w.o 8 0 (some q), zud (zud w.a 8 1 a1) 8 2 a2, zud w.i 9 0 0, w.f, zud (zud w.n 8 1 (fun _ => 0)) 8 2 (fun _ => 0))
theorem zWnt_o (w : zW) (q a1 a2 : Nat) (k j : Nat) (h : ¬ ((k = 8 ∧ j = 0))) : (zWnt w q a1 a2).o k j = w.o k j := by
  show zud w.o 8 0 (some q) k j = _
  rw [zud_n (by omega)]
theorem zWnt_o0 (w : zW) (q a1 a2 : Nat) : (zWnt w q a1 a2).o 8 0 = (some q) := by
  show zud w.o 8 0 (some q) 8 0 = _
  rw [zud_s]
theorem zWnt_a (w : zW) (q a1 a2 : Nat) (k j : Nat) (h : ¬ ((k = 8 ∧ j = 1) ∨ (k = 8 ∧ j = 2))) : (zWnt w q a1 a2).a k j = w.a k j := by
  show zud (zud w.a 8 1 a1) 8 2 a2 k j = _
  rw [zud_n (by omega), zud_n (by omega)]
theorem zWnt_a0 (w : zW) (q a1 a2 : Nat) : (zWnt w q a1 a2).a 8 1 = a1 := by
  show zud (zud w.a 8 1 a1) 8 2 a2 8 1 = _
  rw [zud_n (by omega), zud_s]
theorem zWnt_a1 (w : zW) (q a1 a2 : Nat) : (zWnt w q a1 a2).a 8 2 = a2 := by
  show zud (zud w.a 8 1 a1) 8 2 a2 8 2 = _
  rw [zud_s]
theorem zWnt_i (w : zW) (q a1 a2 : Nat) (k j : Nat) (h : ¬ ((k = 9 ∧ j = 0))) : (zWnt w q a1 a2).i k j = w.i k j := by
  show zud w.i 9 0 0 k j = _
  rw [zud_n (by omega)]
theorem zWnt_i0 (w : zW) (q a1 a2 : Nat) : (zWnt w q a1 a2).i 9 0 = 0 := by
  show zud w.i 9 0 0 9 0 = _
  rw [zud_s]
theorem zWnt_f (w : zW) (q a1 a2 : Nat) (k j : Nat) : (zWnt w q a1 a2).f k j = w.f k j := rfl
theorem zWnt_n (w : zW) (q a1 a2 : Nat) (k j : Nat) (h : ¬ ((k = 8 ∧ j = 1) ∨ (k = 8 ∧ j = 2))) : (zWnt w q a1 a2).n k j = w.n k j := by
  show zud (zud w.n 8 1 (fun _ => 0)) 8 2 (fun _ => 0) k j = _
  rw [zud_n (by omega), zud_n (by omega)]
theorem zWnt_n0 (w : zW) (q a1 a2 : Nat) : (zWnt w q a1 a2).n 8 1 = (fun _ => 0) := by
  show zud (zud w.n 8 1 (fun _ => 0)) 8 2 (fun _ => 0) 8 1 = _
  rw [zud_n (by omega), zud_s]
theorem zWnt_n1 (w : zW) (q a1 a2 : Nat) : (zWnt w q a1 a2).n 8 2 = (fun _ => 0) := by
  show zud (zud w.n 8 1 (fun _ => 0)) 8 2 (fun _ => 0) 8 2 = _
  rw [zud_s]
theorem zHp.nt {w : zW} {G G1 : zG} (h : zHp w G) (q a1 a2 : Nat) (hf0 : G q = none) (hf1 : G a1 = none) (hf2 : G a2 = none) (hne : q ≠ a1 ∧ q ≠ a2 ∧ a1 ≠ a2) (g0 : G1 q = some (zO 5 [.ref a1, .ref a2, .int 0])) (g1 : G1 a1 = some (zI 28672 (fun _ => 0))) (g2 : G1 a2 = some (zI 4096 (fun _ => 0))) (gp : G1 (w.a 0 0) = some (zO 0 (zS (w.a 9) (w.i 0) (.ref q)))) (g9 : ∀ r, r ≠ q → r ≠ a1 → r ≠ a2 → r ≠ w.a 0 0 → G1 r = G r) : zHp (zWnt w q a1 a2) G1 ∧ zFr w G (zWnt w q a1 a2) G1 := by
  have ad0 : zAd (zWnt w q a1 a2) 8 0 = some q := by
    exact zWnt_o0 w q a1 a2
  have kx0 : zKx (zWnt w q a1 a2) 8 0 = zO 5 [.ref a1, .ref a2, .int 0] := by
    show zO 5 [.ref ((zWnt w q a1 a2).a 8 1), .ref ((zWnt w q a1 a2).a 8 2), .int ((zWnt w q a1 a2).i 9 0)] = _
    rw [zWnt_a0, zWnt_a1, zWnt_i0]
  have ad1 : zAd (zWnt w q a1 a2) 8 1 = some a1 := by
    show ((zWnt w q a1 a2).o 8 0).map (fun _ => (zWnt w q a1 a2).a 8 1) = _
    rw [zWnt_o0, zWnt_a0]; rfl
  have kx1 : zKx (zWnt w q a1 a2) 8 1 = zI 28672 (fun _ => 0) := by
    show zI 28672 ((zWnt w q a1 a2).n 8 1) = _
    rw [zWnt_n0]
  have ad2 : zAd (zWnt w q a1 a2) 8 2 = some a2 := by
    show ((zWnt w q a1 a2).o 8 0).map (fun _ => (zWnt w q a1 a2).a 8 2) = _
    rw [zWnt_o0, zWnt_a1]; rfl
  have kx2 : zKx (zWnt w q a1 a2) 8 2 = zI 4096 (fun _ => 0) := by
    show zI 4096 ((zWnt w q a1 a2).n 8 2) = _
    rw [zWnt_n1]
  have kxp : zKx (zWnt w q a1 a2) 0 0 = zO 0 (zS (w.a 9) (w.i 0) (.ref q)) := by
    have e1 : (zWnt w q a1 a2).a 9 = w.a 9 := funext fun j => zWnt_a _ _ _ _ _ _ (by omega)
    have e2 : (zWnt w q a1 a2).i 0 = w.i 0 := funext fun j => zWnt_i _ _ _ _ _ _ (by omega)
    show zO 0 (zS ((zWnt w q a1 a2).a 9) ((zWnt w q a1 a2).i 0) (va_rf ((zWnt w q a1 a2).o 8 0))) = _
    rw [e1, e2, zWnt_o0]
    rfl
  have hpa : zAd w 0 0 = some (w.a 0 0) := rfl
  have hold : ∀ f i, ¬ (f = 8 ∧ i = 0) → ¬ (f = 8 ∧ i = 1) → ¬ (f = 8 ∧ i = 2) → zAd (zWnt w q a1 a2) f i = zAd w f i := fun f i e0 e1 e2 => zAd_c (fun z => zWnt_o w q a1 a2 _ _ (by omega)) (fun z => zWnt_o w q a1 a2 _ _ (by omega)) (fun z => zWnt_o w q a1 a2 _ _ (by omega)) (fun z => zWnt_o w q a1 a2 _ _ (by omega)) (fun z z9 => zWnt_o w q a1 a2 _ _ (by omega)) (zWnt_a w q a1 a2 _ _ (by omega))
  have kold : ∀ f i r, zAd w f i = some r → ¬ (f = 8 ∧ i = 0) → ¬ (f = 8 ∧ i = 1) → ¬ (f = 8 ∧ i = 2) → ¬ (f = 0 ∧ i = 0) → zKx (zWnt w q a1 a2) f i = zKx w f i := fun f i r hpr e0 e1 e2 ep => by
    have h00 : f = 0 → (zWnt w q a1 a2).a 9 = w.a 9 ∧ (zWnt w q a1 a2).i 0 = w.i 0 ∧ (zWnt w q a1 a2).o 8 0 = w.o 8 0 := fun z => by
      subst z
      unfold zAd at hpr
      by_cases c : i = 0
      · exact absurd ⟨rfl, c⟩ ep
      · rw [if_neg c] at hpr; cases hpr
    exact zKx_c (zS9_of hpr) (fun z => h00 z) (fun z => ⟨zWnt_i w q a1 a2 _ _ (by omega), zWnt_i w q a1 a2 _ _ (by omega), zWnt_i w q a1 a2 _ _ (by omega), zWnt_a w q a1 a2 _ _ (by omega)⟩) (fun z => ⟨zWnt_a w q a1 a2 _ _ (by omega), zWnt_i w q a1 a2 _ _ (by omega), zWnt_i w q a1 a2 _ _ (by omega), zWnt_i w q a1 a2 _ _ (by omega), zWnt_o w q a1 a2 _ _ (by omega)⟩) (fun z => ⟨fun k k1 k2 => zWnt_a w q a1 a2 _ _ (by omega), zWnt_i w q a1 a2 _ _ (by omega), zWnt_i w q a1 a2 _ _ (by omega)⟩) (fun z => zWnt_a w q a1 a2 _ _ (by omega)) (fun z => absurd (z83 hpr z) (by omega)) (fun z => ⟨fun z3 => funext fun j => zWnt_o w q a1 a2 1 j (by omega), fun z3 => funext fun j => zWnt_o w q a1 a2 3 j (by omega), fun z3 => funext fun j => zWnt_o w q a1 a2 6 j (by omega)⟩) (zWnt_n w q a1 a2 _ _ (by omega)) (rfl)
  have hNw : ∀ f i r, (if f = 8 ∧ i = 0 then some q else if f = 8 ∧ i = 1 then some a1 else if f = 8 ∧ i = 2 then some a2 else none) = some r → (f = 8 ∧ i = 0 ∧ r = q) ∨ (f = 8 ∧ i = 1 ∧ r = a1) ∨ (f = 8 ∧ i = 2 ∧ r = a2) := fun f i r hr => by
    by_cases c0 : f = 8 ∧ i = 0
    · rw [if_pos c0] at hr; exact Or.inl ⟨c0.1, c0.2, (Option.some.inj hr).symm⟩
    rw [if_neg c0] at hr
    by_cases c1 : f = 8 ∧ i = 1
    · rw [if_pos c1] at hr; exact Or.inr (Or.inl ⟨c1.1, c1.2, (Option.some.inj hr).symm⟩)
    rw [if_neg c1] at hr
    by_cases c2 : f = 8 ∧ i = 2
    · rw [if_pos c2] at hr; exact Or.inr (Or.inr (⟨c2.1, c2.2, (Option.some.inj hr).symm⟩))
    rw [if_neg c2] at hr
    cases hr
  refine ⟨h.gen (fun f i => if f = 8 ∧ i = 0 then some q else if f = 8 ∧ i = 1 then some a1 else if f = 8 ∧ i = 2 then some a2 else none) (fun f i r hr => ?_) (fun f i f2 i2 r h1 h2 => ?_), fun r hr hn => g9 r (fun e => hn (e ▸ hf0)) (fun e => hn (e ▸ hf1)) (fun e => hn (e ▸ hf2)) (fun e => hr 0 0 (by rw [e]; exact hpa)), fun f i r hr => ?_, zWnt_a w q a1 a2 0 0 (by omega)⟩
  · by_cases e0 : f = 8 ∧ i = 0
    · obtain ⟨ea, eb⟩ := e0
      rw [ea, eb] at hr ⊢
      cases Option.some.inj (ad0.symm.trans hr)
      refine Or.inr ⟨hf0, g0.trans ?_, ?_⟩
      · rw [kx0]
      · rw [if_pos ⟨rfl, rfl⟩]
    by_cases e1 : f = 8 ∧ i = 1
    · obtain ⟨ea, eb⟩ := e1
      rw [ea, eb] at hr ⊢
      cases Option.some.inj (ad1.symm.trans hr)
      refine Or.inr ⟨hf1, g1.trans ?_, ?_⟩
      · rw [kx1]
      · rw [if_neg (by omega), if_pos ⟨rfl, rfl⟩]
    by_cases e2 : f = 8 ∧ i = 2
    · obtain ⟨ea, eb⟩ := e2
      rw [ea, eb] at hr ⊢
      cases Option.some.inj (ad2.symm.trans hr)
      refine Or.inr ⟨hf2, g2.trans ?_, ?_⟩
      · rw [kx2]
      · rw [if_neg (by omega), if_neg (by omega), if_pos ⟨rfl, rfl⟩]
    rw [hold f i e0 e1 e2] at hr
    refine Or.inl ⟨hr, ?_⟩
    have hg := h.1 f i r hr
    by_cases ep : f = 0 ∧ i = 0
    · obtain ⟨ea, eb⟩ := ep
      rw [ea, eb] at hr ⊢
      cases Option.some.inj (hpa.symm.trans hr)
      rw [gp, kxp]
    · rw [kold f i r hr e0 e1 e2 ep, g9 r (fun e => by rw [e, hf0] at hg; cases hg) (fun e => by rw [e, hf1] at hg; cases hg) (fun e => by rw [e, hf2] at hg; cases hg) (fun e => ep (h.2 _ _ _ _ _ hr (by rw [e]; exact hpa)))]
      exact hg
  · have m1 := hNw f i r h1
    have m2 := hNw f2 i2 r h2
    omega
  · by_cases e0 : f = 8 ∧ i = 0
    · obtain ⟨ea, eb⟩ := e0
      rw [ea, eb] at hr
      cases Option.some.inj (ad0.symm.trans hr)
      exact Or.inr hf0
    by_cases e1 : f = 8 ∧ i = 1
    · obtain ⟨ea, eb⟩ := e1
      rw [ea, eb] at hr
      cases Option.some.inj (ad1.symm.trans hr)
      exact Or.inr hf1
    by_cases e2 : f = 8 ∧ i = 2
    · obtain ⟨ea, eb⟩ := e2
      rw [ea, eb] at hr
      cases Option.some.inj (ad2.symm.trans hr)
      exact Or.inr hf2
    rw [hold f i e0 e1 e2] at hr
    exact Or.inl ⟨f, i, hr⟩
