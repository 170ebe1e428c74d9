/-! the start -/
theorem zinit (a : Nat → Nat) : ∃ t, t = t_M_init (a, zMi, (fun _ _ => 0)) ∧ t.2.1 = zMi ∧ (∀ i, i < 114688 → t.ar 1 i = (-2147483648) ∧ t.ar 2 i = (-1)) ∧ (∀ b, b < 4 → t.ar 9 b = (-1)) ∧ (∀ k, k < 8 → t.ar 22 k = (-2147483648) ∧ t.ar 23 k = (-2147483648)) ∧ t.ar 4 0 = (-1) ∧ t.ar 5 0 = (-1) ∧ t.ar 7 0 = 1 ∧ (∀ b, b ≠ 0 → t.ar 7 b = 0) ∧ ∀ j, (j = 3 ∨ j = 8 ∨ j = 14 ∨ j = 20 ∨ j = 21) → t.ar j = fun _ => 0 := by
  refine ⟨_, rfl, ?_⟩
  obtain ⟨u, hu⟩ : ∃ u : zU, u = (a, zMi, (fun _ _ => 0)) := ⟨_, rfl⟩
  rw [← hu]
  have A1 : ∀ j, j ≤ 114688 → (zfor j st_M_init1 u).2.1 = zMi ∧ (∀ i, i < j → (zfor j st_M_init1 u).ar 1 i = (-2147483648) ∧ (zfor j st_M_init1 u).ar 2 i = (-1)) ∧ ∀ k, k ≠ 1 → k ≠ 2 → (zfor j st_M_init1 u).ar k = fun _ => 0 := by
    refine zfor_inv (N := 114688) (fun j (t : zU) => t.2.1 = zMi ∧ (∀ i, i < j → t.ar 1 i = (-2147483648) ∧ t.ar 2 i = (-1)) ∧ ∀ k, k ≠ 1 → k ≠ 2 → t.ar k = fun _ => 0) ⟨by rw [hu], fun i hi => absurd hi (Nat.not_lt_zero _), fun k _ _ => by rw [hu]⟩ (fun j t hj hP => ?_)
    obtain ⟨h1, h2, h3⟩ := hP
    unfold st_M_init1
    refine ⟨h1, fun i hi => ?_, fun k k1 k2 => ((zuaj _ _ k2).trans (zuaj _ _ k1)).trans (h3 k k1 k2)⟩
    have e1 : (zua (zua t 1 (upd (t.ar 1) j (-2147483648))) 2 (upd (t.ar 2) j (-1))).ar 1 = upd (t.ar 1) j (-2147483648) := (zuaj _ _ (by decide)).trans (zuas _ _ _)
    have e2 : (zua (zua t 1 (upd (t.ar 1) j (-2147483648))) 2 (upd (t.ar 2) j (-1))).ar 2 = upd (t.ar 2) j (-1) := zuas _ _ _
    rw [e1, e2]
    by_cases q : i = j
    · rw [q, pk_us, pk_us]; exact ⟨rfl, rfl⟩
    · rw [pk_un q, pk_un q]; exact h2 i (by omega)
  obtain ⟨p1, p2, p3⟩ := A1 114688 (Nat.le_refl _)
  unfold t_M_init
  obtain ⟨v, hv⟩ : ∃ v, v = zfor 114688 st_M_init1 u := ⟨_, rfl⟩
  rw [← hv] at p1 p2 p3 ⊢
  have A2 : ∀ j, j ≤ 4 → (zfor j st_M_init2 v).2.1 = zMi ∧ (∀ i, i < j → (zfor j st_M_init2 v).ar 9 i = (-1)) ∧ ∀ k, k ≠ 9 → (zfor j st_M_init2 v).ar k = v.ar k := by
    refine zfor_inv (N := 4) (fun j (t : zU) => t.2.1 = zMi ∧ (∀ i, i < j → t.ar 9 i = (-1)) ∧ ∀ k, k ≠ 9 → t.ar k = v.ar k) ⟨p1, fun i hi => absurd hi (Nat.not_lt_zero _), fun k _ => rfl⟩ (fun j t hj hP => ?_)
    obtain ⟨h1, h2, h3⟩ := hP
    unfold st_M_init2
    refine ⟨h1, fun i hi => ?_, fun k k1 => (zuaj _ _ k1).trans (h3 k k1)⟩
    have e1 : (zua t 9 (upd (t.ar 9) j (-1))).ar 9 = upd (t.ar 9) j (-1) := zuas _ _ _
    rw [e1]
    by_cases q : i = j
    · rw [q, pk_us]
    · rw [pk_un q]; exact h2 i (by omega)
  obtain ⟨q1, q2, q3⟩ := A2 4 (Nat.le_refl _)
  obtain ⟨x, hx⟩ : ∃ x, x = zfor 4 st_M_init2 v := ⟨_, rfl⟩
  rw [← hx] at q1 q2 q3 ⊢
  have A3 : ∀ j, j ≤ 8 → (zfor j st_M_init3 x).2.1 = zMi ∧ (∀ i, i < j → (zfor j st_M_init3 x).ar 22 i = (-2147483648) ∧ (zfor j st_M_init3 x).ar 23 i = (-2147483648)) ∧ ∀ k, k ≠ 22 → k ≠ 23 → (zfor j st_M_init3 x).ar k = x.ar k := by
    refine zfor_inv (N := 8) (fun j (t : zU) => t.2.1 = zMi ∧ (∀ i, i < j → t.ar 22 i = (-2147483648) ∧ t.ar 23 i = (-2147483648)) ∧ ∀ k, k ≠ 22 → k ≠ 23 → t.ar k = x.ar k) ⟨q1, fun i hi => absurd hi (Nat.not_lt_zero _), fun k _ _ => rfl⟩ (fun j t hj hP => ?_)
    obtain ⟨h1, h2, h3⟩ := hP
    unfold st_M_init3
    refine ⟨h1, fun i hi => ?_, fun k k1 k2 => ((zuaj _ _ k2).trans (zuaj _ _ k1)).trans (h3 k k1 k2)⟩
    have e1 : (zua (zua t 22 (upd (t.ar 22) j (-2147483648))) 23 (upd (t.ar 23) j (-2147483648))).ar 22 = upd (t.ar 22) j (-2147483648) := (zuaj _ _ (by decide)).trans (zuas _ _ _)
    have e2 : (zua (zua t 22 (upd (t.ar 22) j (-2147483648))) 23 (upd (t.ar 23) j (-2147483648))).ar 23 = upd (t.ar 23) j (-2147483648) := zuas _ _ _
    rw [e1, e2]
    by_cases q : i = j
    · rw [q, pk_us, pk_us]; exact ⟨rfl, rfl⟩
    · rw [pk_un q, pk_un q]; exact h2 i (by omega)
  obtain ⟨r1, r2, r3⟩ := A3 8 (Nat.le_refl _)
  obtain ⟨y, hy⟩ : ∃ y, y = zfor 8 st_M_init3 x := ⟨_, rfl⟩
  rw [← hy] at r1 r2 r3 ⊢
  have n : ∀ j, j ≠ 4 → j ≠ 5 → j ≠ 7 → (zua (zua (zua y 4 (upd (y.ar 4) 0 (-1))) 5 (upd (y.ar 5) 0 (-1))) 7 (upd (y.ar 7) 0 1)).ar j = y.ar j := fun j j1 j2 j3 => (zuaj _ _ j3).trans ((zuaj _ _ j2).trans (zuaj _ _ j1))
  have n4 : (zua (zua (zua y 4 (upd (y.ar 4) 0 (-1))) 5 (upd (y.ar 5) 0 (-1))) 7 (upd (y.ar 7) 0 1)).ar 4 = upd (y.ar 4) 0 (-1) := (zuaj _ _ (by decide)).trans ((zuaj _ _ (by decide)).trans (zuas _ _ _))
  have n5 : (zua (zua (zua y 4 (upd (y.ar 4) 0 (-1))) 5 (upd (y.ar 5) 0 (-1))) 7 (upd (y.ar 7) 0 1)).ar 5 = upd (y.ar 5) 0 (-1) := (zuaj _ _ (by decide)).trans (zuas _ _ _)
  have n7 : (zua (zua (zua y 4 (upd (y.ar 4) 0 (-1))) 5 (upd (y.ar 5) 0 (-1))) 7 (upd (y.ar 7) 0 1)).ar 7 = upd (y.ar 7) 0 1 := zuas _ _ _
  have yz : ∀ j, j ≠ 1 → j ≠ 2 → j ≠ 9 → j ≠ 22 → j ≠ 23 → y.ar j = fun _ => 0 := fun j j1 j2 j3 j4 j5 => by rw [r3 j j4 j5, q3 j j3, p3 j j1 j2]
  refine ⟨r1, fun i hi => ?_, fun b hb => ?_, fun k hk => ?_, by rw [n4, pk_us], by rw [n5, pk_us], by rw [n7, pk_us], fun b hb => by rw [n7, pk_un hb, yz 7 (by decide) (by decide) (by decide) (by decide) (by decide)], fun j hj => ?_⟩
  · rw [n 1 (by decide) (by decide) (by decide), n 2 (by decide) (by decide) (by decide), r3 1 (by decide) (by decide), r3 2 (by decide) (by decide), q3 1 (by decide), q3 2 (by decide)]
    exact p2 i hi
  · rw [n 9 (by decide) (by decide) (by decide), r3 9 (by decide) (by decide)]
    exact q2 b hb
  · rw [n 22 (by decide) (by decide) (by decide), n 23 (by decide) (by decide) (by decide)]
    exact r2 k hk
  · rw [n j (by omega) (by omega) (by omega), yz j (by omega) (by omega) (by omega) (by omega) (by omega)]
theorem zRl.init {w : zW} (a : Nat → Nat) {q0 q1 : Nat} (hi0 : w.i 0 2 = 1 ∧ w.i 0 4 = 0 ∧ w.i 0 5 = 0 ∧ w.i 0 6 = 32 ∧ w.i 0 7 = 32) (ho1 : w.o 1 0 = some q0 ∧ ∀ c, c ≠ 0 → w.o 1 c = none) (hc : w.i 1 0 = (-1) ∧ w.i 2 0 = (-1) ∧ w.i 3 0 = 1) (hf2 : ∀ k, k < 4096 → w.f 2 0 k = (-9223372036854775808)) (ho3 : w.o 3 0 = some q1 ∧ ∀ b, b ≠ 0 → w.o 3 b = none) (hb : w.i 4 0 = 1 ∧ w.i 5 0 = 0 ∧ w.i 6 0 = (-1)) (ho5 : w.o 5 0 = none) (hf4 : ∀ k, k < 4096 → w.f 4 0 k = (-9223372036854775808)) (hn : (∀ k, k < 4 → w.n 9 0 k = 0) ∧ (∀ k, k < 6 → w.n 9 8 k = 0 ∧ w.n 9 9 k = 0) ∧ ∀ k, k < 8 → w.n 9 10 k = (-2147483648) ∧ w.n 9 11 k = (-2147483648)) : zRl w (t_M_init (a, zMi, (fun _ _ => 0))) 1 := by
  obtain ⟨t, ht, z1, z2, z3, z4, z5, z6, z7, z8, z9⟩ := zinit a
  rw [← ht]
  have ci : ∀ j, t.i j = zMi j := fun j => congrFun z1 j
  have cell : ∀ p, p < 28 → ∀ k, k < 4096 → zcell (t.ar 1 (4096 * p + k)) (t.ar 2 (4096 * p + k)) = (-9223372036854775808) := fun p hp k hk => by
    rw [(z2 _ (by omega)).1]; exact zcell_E _
  refine ⟨⟨?_, hi0.1, ⟨by omega, by omega, hc.2.2, fun c h0 h1 => by omega⟩, fun c _ => ?_, z5, z6, fun c hc9 => ?_⟩, fun b hb4 => ?_, ⟨⟨0, 0, 32, 32, ?_, ?_, ?_, ?_, by omega, by omega, by omega, by omega⟩, fun j j1 j2 => ?_, fun k hk => ?_, fun k hk => ?_, fun k hk => ?_⟩, fun i hi => Or.inl (z2 i hi)⟩
  · rw [ci]; rfl
  · by_cases e : c = 0
    · subst e; rw [ho1.1]; exact ⟨fun q => (nomatch q), fun q => by omega⟩
    · rw [ho1.2 c e]; exact ⟨fun _ => by omega, fun _ => rfl⟩
  · have e : c = 0 := by omega
    subst e
    rw [z5, z6]
    exact ⟨hc.1, hc.2.1, fun k hk => by rw [hf2 k hk, cell 0 (by omega) k hk]⟩
  · have e14 := z9 14 (by omega)
    unfold zRb
    rw [e14]
    by_cases e : b = 0
    · subst e
      rw [z7]
      refine ⟨Or.inr rfl, (fun q => by rw [ho3.1] at q; cases q), fun _ _ => hb.1, ⟨0, rfl, by omega⟩, fun _ => ⟨?_, ?_, ⟨0, ?_, by omega, Or.inl (z3 0 (by omega))⟩, fun k hk => by rw [hf4 k hk, cell (24 + 0) (by omega) k hk], 0, by omega, by rw [e14]; rfl, fun _ => rfl, fun r hr => by rw [ho5] at hr; cases hr⟩⟩
      · rw [z9 8 (by omega)]; exact hb.2.1
      · rw [z3 0 (by omega)]; exact hb.2.2
      · rw [z9 8 (by omega)]; rfl
    · rw [z8 b e]
      exact ⟨Or.inl rfl, fun _ => rfl, (fun q hq => by rw [ho3.2 b e] at hq; cases hq), ⟨0, rfl, by omega⟩, fun h => absurd rfl h⟩
  · rw [ci]; rfl
  · rw [ci]; rfl
  · rw [ci]; rfl
  · rw [ci]; rfl
  · rw [ci]
    rcases (show j = 4 ∨ j = 5 ∨ j = 6 ∨ j = 7 by omega) with rfl | rfl | rfl | rfl
    · rw [hi0.2.1]; rfl
    · rw [hi0.2.2.1]; rfl
    · rw [hi0.2.2.2.1]; rfl
    · rw [hi0.2.2.2.2]; rfl
  · rw [z9 3 (by omega), hn.1 k hk]; exact ⟨rfl, 0, by omega, rfl⟩
  · rw [z9 20 (by omega), z9 21 (by omega), (hn.2.1 k hk).1, (hn.2.1 k hk).2]; exact ⟨rfl, rfl, 0, 0, by omega, by omega, rfl, rfl⟩
  · rw [(z4 k hk).1, (z4 k hk).2]; exact hn.2.2 k hk
