/-! the block table: what lies on the heap -/
def zTq (tq tv ts : Nat) (G0 G1 : zG) (s : Nat × (Nat → Nat → Int32)) : Prop := ∃ sl vl, G1 tq = some (zO 5 [.ref tv, .ref ts, .int (nI s.1)]) ∧ G1 tv = some (zI 28672 vl) ∧ G1 ts = some (zI 4096 sl) ∧ (∀ q, q ≠ tq → q ≠ tv → q ≠ ts → G1 q = G0 q) ∧ zTS sl vl s
theorem zTS.probe2 {sl vl : Nat → Int32} {s : Nat × (Nat → Nat → Int32)} (h : zTS sl vl s) (hs : s.1 < 1792) {c : Nat → Int32} (hc : ∀ k, k < 16 → vl (s.1 * 16 + k) = c k) (hne : ¬ ∀ k, k < 16 → c k = (-2147483648)) :
    ∃ t, t < 4096 ∧ zSl (fun k => vl (s.1 * 16 + k)) = zSl c ∧ (∀ j, j < t → ∃ i, i < s.1 ∧ sl ((zSl c + j) % 4096) = nI (i + 1) ∧ ¬ ∀ k, k < 16 → vl (i * 16 + k) = vl (s.1 * 16 + k)) ∧
      ((sl ((zSl c + t) % 4096) = 0 ∧ zTS (upd sl ((zSl c + t) % 4096) (nI (s.1 + 1))) vl (zadd s c) ∧ (zadd s c).1 = s.1 + 1) ∨ ∃ i, i < s.1 ∧ sl ((zSl c + t) % 4096) = nI (i + 1) ∧ (∀ k, k < 16 → vl (i * 16 + k) = vl (s.1 * 16 + k)) ∧ zadd s c = s) := by
  have m : ∀ i k, vl (i * 16 + k) = vl (16 * i + k) := fun i k => by rw [Nat.mul_comm]
  obtain ⟨t, ht, hocc, hend⟩ := h.probe hs (c := c) (fun k hk => by rw [← m]; exact hc k hk) hne
  refine ⟨t, ht, zhS_c hc, fun j hj => ?_, ?_⟩
  · obtain ⟨i, i1, i2, i3⟩ := hocc j hj
    exact ⟨i, i1, i2, fun q => i3 (fun k hk => by rw [← m, ← m]; exact q k hk)⟩
  · rcases hend with z | ⟨i, i1, i2, i3, i4⟩
    · exact Or.inl z
    · exact Or.inr ⟨i, i1, i2, fun k hk => by rw [m, m]; exact i3 k hk, i4⟩
theorem zTq.tr {tq tv ts : Nat} {G0 G1 G2 : zG} {s t : Nat × (Nat → Nat → Int32)} (h : zTq tq tv ts G0 G1 s) (h2 : zTq tq tv ts G1 G2 t) : zTq tq tv ts G0 G2 t := by
  obtain ⟨-, -, -, -, -, h4, -⟩ := h
  obtain ⟨sl, vl, a1, a2, a3, a4, a5⟩ := h2
  exact ⟨sl, vl, a1, a2, a3, fun q q1 q2 q3 => (a4 q q1 q2 q3).trans (h4 q q1 q2 q3), a5⟩
/-- the store's state with the table's rows -/
def zWtb (w : zW) (sl vl : Nat → Int32) (n : Nat) : zW := zW8 (zWn (zWn w 8 1 vl) 8 2 sl) (nI n)
theorem zHp.tb {w : zW} {G0 G1 : zG} (hH : zHp w G0) {tq : Nat} (hq : w.o 8 0 = some tq) {sl vl : Nat → Int32} {n : Nat} (a1 : G1 tq = some (zO 5 [.ref (w.a 8 1), .ref (w.a 8 2), .int (nI n)])) (a2 : G1 (w.a 8 1) = some (zI 28672 vl)) (a3 : G1 (w.a 8 2) = some (zI 4096 sl)) (a4 : ∀ q, q ≠ tq → q ≠ w.a 8 1 → q ≠ w.a 8 2 → G1 q = G0 q) : zHp (zWtb w sl vl n) G1 ∧ zFr w G0 (zWtb w sl vl n) G1 := by
  have hA : zAd (zWtb w sl vl n) = zAd w := rfl
  have p0 : zAd w 8 0 = some tq := hq
  have p1 : zAd w 8 1 = some (w.a 8 1) := zmp hq
  have p2 : zAd w 8 2 = some (w.a 8 2) := zmp hq
  have n1 : (zWtb w sl vl n).n 8 1 = vl := by
    show zud (zud w.n 8 1 vl) 8 2 sl 8 1 = _
    rw [zud_n (by omega), zud_s]
  have n2 : (zWtb w sl vl n).n 8 2 = sl := zud_s (zud w.n 8 1 vl) 8 2 sl
  have i9 : (zWtb w sl vl n).i 9 0 = nI n := zud_s w.i 9 0 (nI n)
  refine ⟨hH.gen (fun _ _ => none) (fun f i q h9 => Or.inl ⟨by rw [← hA]; exact h9, ?_⟩) (fun f i f2 i2 q h1 => nomatch h1), fun q h9 hn => a4 q (fun e => h9 8 0 (by rw [e]; exact p0)) (fun e => h9 8 1 (by rw [e]; exact p1)) (fun e => h9 8 2 (by rw [e]; exact p2)), fun f i q h9 => Or.inl ⟨f, i, by rw [← hA]; exact h9⟩, rfl⟩
  rw [hA] at h9
  by_cases f8 : f = 8
  · subst f8
    have hi := z83 h9 rfl
    rcases (show i = 0 ∨ i = 1 ∨ i = 2 by omega) with rfl | rfl | rfl
    · cases Option.some.inj (p0.symm.trans h9)
      rw [a1]
      show _ = some (zO 5 [.ref (w.a 8 1), .ref (w.a 8 2), .int ((zWtb w sl vl n).i 9 0)])
      rw [i9]
    · cases Option.some.inj (p1.symm.trans h9)
      rw [a2]
      show _ = some (zI 28672 ((zWtb w sl vl n).n 8 1))
      rw [n1]
    · cases Option.some.inj (p2.symm.trans h9)
      rw [a3]
      show _ = some (zI 4096 ((zWtb w sl vl n).n 8 2))
      rw [n2]
  · rw [a4 q (fun e => f8 (hH.2 _ _ _ _ _ h9 (by rw [e]; exact p0)).1) (fun e => f8 (hH.2 _ _ _ _ _ h9 (by rw [e]; exact p1)).1) (fun e => f8 (hH.2 _ _ _ _ _ h9 (by rw [e]; exact p2)).1), hH.1 f i q h9]
    refine congrArg some (zKx_c (w := w) (w2 := zWtb w sl vl n) (zS9_of h9) (fun z => ⟨rfl, ?_, rfl⟩) (fun z => ⟨?_, ?_, ?_, rfl⟩) (fun z => ⟨rfl, ?_, ?_, ?_, rfl⟩) (fun z => ⟨fun _ _ _ => rfl, ?_, ?_⟩) (fun z => rfl) (fun z => absurd z f8) (fun z => ⟨fun _ => rfl, fun _ => rfl, fun _ => rfl⟩) ?_ rfl).symm
    · funext j
      show zud w.i 9 0 (nI n) 0 j = _
      exact zud_n (by omega)
    · show zud w.i 9 0 (nI n) 1 i = _
      exact zud_n (by omega)
    · show zud w.i 9 0 (nI n) 2 i = _
      exact zud_n (by omega)
    · show zud w.i 9 0 (nI n) 3 i = _
      exact zud_n (by omega)
    · show zud w.i 9 0 (nI n) 4 i = _
      exact zud_n (by omega)
    · show zud w.i 9 0 (nI n) 5 i = _
      exact zud_n (by omega)
    · show zud w.i 9 0 (nI n) 6 i = _
      exact zud_n (by omega)
    · show zud w.i 9 0 (nI n) 7 i = _
      exact zud_n (by omega)
    · show zud w.i 9 0 (nI n) 8 i = _
      exact zud_n (by omega)
    · show zud (zud w.n 8 1 vl) 8 2 sl f i = _
      rw [zud_n (fun z => f8 z.1), zud_n (fun z => f8 z.1)]
theorem zWe.tb (w : zW) (sl vl : Nat → Int32) (n : Nat) : zWe w (zWtb w sl vl n) := ⟨fun k hk => funext fun j => zud_n (by omega), rfl, rfl, rfl, rfl, fun k hk => funext fun j => by
  show zud (zud w.n 8 1 vl) 8 2 sl k j = _
  rw [zud_n (by omega), zud_n (by omega)]⟩
