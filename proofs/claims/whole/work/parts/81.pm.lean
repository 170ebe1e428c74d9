/-! merge: what is only the reference's own does not matter -/
def zp4 (s : zU) (a : Nat → Nat) (K : Nat → Nat → Int32) : zU := (a, s.2.1, fun j => cond (Nat.ble j 23) (s.2.2 j) (K j))
theorem zp4_ua (s : zU) (a : Nat → Nat) (K : Nat → Nat → Int32) (k : Nat) (hk : Nat.ble k 23 = true) (f : Nat → Int32) : zp4 (zua s k f) a K = zua (zp4 s a K) k f := by
  have : (fun j => cond (Nat.ble j 23) (va_up s.2.2 k f j) (K j)) = va_up (fun j => cond (Nat.ble j 23) (s.2.2 j) (K j)) k f := by
    funext j
    by_cases e : j = k
    · subst e
      rw [va_up_self, va_up_self, hk]
      rfl
    · rw [va_up_ne _ _ e, va_up_ne _ _ e]
  exact congrArg (fun z => ((a, s.2.1, z) : zU)) this
theorem zp4_ite {P : Prop} [Decidable P] {a : Nat → Nat} {K : Nat → Nat → Int32} {x y x2 y2 : zU} (h1 : x2 = zp4 x a K) (h2 : y2 = zp4 y a K) : (if P then x2 else y2) = zp4 (if P then x else y) a K := by
  by_cases h : P
  · rw [if_pos h, if_pos h]; exact h1
  · rw [if_neg h, if_neg h]; exact h2
theorem zp4_note (s : zU) (a : Nat → Nat) (K : Nat → Nat → Int32) (b : Nat) (c x y z : Int32) (e : Nat) : znote (zp4 s a K) b c x y z e = zp4 (znote s b c x y z e) a K := by
  unfold znote
  rw [zp4_ua _ _ _ 14 rfl, zp4_ua _ _ _ 15 rfl, zp4_ua _ _ _ 13 rfl, zp4_ua _ _ _ 12 rfl, zp4_ua _ _ _ 11 rfl, zp4_ua _ _ _ 10 rfl]
  rfl
theorem zp4_12 (s : zU) (a : Nat → Nat) (K : Nat → Nat → Int32) (f1 f2 : Nat → Int32) : zua (zua (zp4 s a K) 1 f1) 2 f2 = zp4 (zua (zua s 1 f1) 2 f2) a K := by
  rw [zp4_ua _ _ _ 2 rfl, zp4_ua _ _ _ 1 rfl]
theorem zp4_n12 (s : zU) (a : Nat → Nat) (K : Nat → Nat → Int32) (b : Nat) (c x y z : Int32) (e : Nat) (f1 f2 : Nat → Int32) : zua (zua (znote (zp4 s a K) b c x y z e) 1 f1) 2 f2 = zp4 (zua (zua (znote s b c x y z e) 1 f1) 2 f2) a K := by
  rw [zp4_note, zp4_12]
theorem zst26 (p c j : Nat) (s : zU) : (st_M_merge p c j s).2.2 26 = s.2.2 26 := by
  unfold st_M_merge
  repeat' with_reducible refine zite (fun t : zU => t.2.2 26 = s.2.2 26) ?_ ?_
  all_goals rfl
theorem zstI (p c j : Nat) (s : zU) : (st_M_merge p c j s).2.1 = s.2.1 := by
  unfold st_M_merge
  repeat' with_reducible refine zite (fun t : zU => t.2.1 = s.2.1) ?_ ?_
  all_goals rfl
set_option maxHeartbeats 8000000 in
theorem zp4_st (p c j : Nat) (s : zU) (a : Nat → Nat) (K : Nat → Nat → Int32) (h : K 26 j = s.2.2 26 j) : st_M_merge p c j (zp4 s a K) = zp4 (st_M_merge p c j s) a K := by
  have h26 : (zp4 s a K).ar 26 j = s.ar 26 j := h
  have e1 : (zp4 s a K).ar 1 = s.ar 1 := rfl
  have e2 : (zp4 s a K).ar 2 = s.ar 2 := rfl
  have e3 : (zp4 s a K).ar 3 = s.ar 3 := rfl
  have e14 : (zp4 s a K).ar 14 = s.ar 14 := rfl
  have em : ∀ i, s_M_madeIn (zp4 s a K) i = s_M_madeIn s i := fun _ => rfl
  have n1 : ∀ b c x y z e, (znote (zp4 s a K) b c x y z e).ar 1 = (znote s b c x y z e).ar 1 := fun _ _ _ _ _ _ => rfl
  have n2 : ∀ b c x y z e, (znote (zp4 s a K) b c x y z e).ar 2 = (znote s b c x y z e).ar 2 := fun _ _ _ _ _ _ => rfl
  unfold st_M_merge
  rw [h26, e1, e2, e3, e14, em, em, n1, n2]
  repeat' with_reducible refine zp4_ite ?_ ?_
  all_goals first | with_reducible rfl | with_reducible exact zp4_12 _ _ _ _ _ | with_reducible exact zp4_note _ _ _ _ _ _ _ _ _ | with_reducible exact zp4_n12 _ _ _ _ _ _ _ _ _ _ _
theorem zmcgN {u u2 : zU} {bf : Nat → Int32} (h : zBr (zuc u 0 0) u2 bf) (p c N : Nat) (hN : N ≤ 4096) : zUe (zfor N (st_M_merge p c) (zua (zua (zub u bf) 9 (upd ((zub u bf).ar 9) p (nI c))) 14 (upd ((zub u bf).ar 14) p 0))) (zfor N (st_M_merge p c) (zua (zua u2 9 (upd (u2.ar 9) p (nI c))) 14 (upd (u2.ar 14) p 0))) ∧ (zfor N (st_M_merge p c) (zua (zua u2 9 (upd (u2.ar 9) p (nI c))) 14 (upd (u2.ar 14) p 0))).i 0 = 0 := by
  obtain ⟨h1, h2, h3, h4⟩ := h
  have e0 : zua (zua u2 9 (upd (u2.ar 9) p (nI c))) 14 (upd (u2.ar 14) p 0) = zp4 (zua (zua (zub u bf) 9 (upd ((zub u bf).ar 9) p (nI c))) 14 (upd ((zub u bf).ar 14) p 0)) u2.1 u2.2.2 := by
    rw [zp4_ua _ _ _ 14 rfl, zp4_ua _ _ _ 9 rfl]
    have k : zp4 (zub u bf) u2.1 u2.2.2 = u2 := by
      show (u2.1, (zuc u 0 0).2.1, _) = (u2.1, u2.2.1, u2.2.2)
      rw [h2]
      have : (fun j => cond (Nat.ble j 23) ((zub u bf).2.2 j) (u2.2.2 j)) = u2.2.2 := by
        funext j
        cases hb : Nat.ble j 23 with
        | false => rfl
        | true =>
          have hj : j ≤ 23 := Nat.le_of_ble_eq_true hb
          have := h3 j (by omega) (by omega) (by omega)
          rw [this]
          exact zuaj _ _ (by omega)
      rw [this]
    rw [k]
    have e9 : (zub u bf).ar 9 = u2.ar 9 := (h3 9 (by decide) (by decide) (by decide)).symm
    have e14 : (zub u bf).ar 14 = u2.ar 14 := (h3 14 (by decide) (by decide) (by decide)).symm
    rw [e9, e14]
  have key := zfor_sim (f := st_M_merge p c) (h := st_M_merge p c) (s0 := zua (zua (zub u bf) 9 (upd ((zub u bf).ar 9) p (nI c))) 14 (upd ((zub u bf).ar 14) p 0)) (t0 := zua (zua u2 9 (upd (u2.ar 9) p (nI c))) 14 (upd (u2.ar 14) p 0)) (N := 4096) (fun _ s t => t = zp4 s u2.1 u2.2.2 ∧ s.2.2 26 = bf ∧ s.2.1 = (zuc u 0 0).2.1) ⟨e0, rfl, rfl⟩ (fun j s t hj hR => by
    obtain ⟨r1, r2, r3⟩ := hR
    subst r1
    refine ⟨zp4_st p c j s _ _ ?_, (zst26 p c j s).trans r2, (zstI p c j s).trans r3⟩
    rw [r2]
    exact h4 j hj) N hN
  obtain ⟨k1, k2, k3⟩ := key
  rw [k1]
  clear k1 k2
  revert k3
  generalize zfor N (st_M_merge p c) (zua (zua (zub u bf) 9 (upd ((zub u bf).ar 9) p (nI c))) 14 (upd ((zub u bf).ar 14) p 0)) = S
  intro k3
  refine ⟨⟨fun j _ => rfl, fun j hj => ?_⟩, ?_⟩
  · show cond (Nat.ble j 23) _ _ = _
    rw [show Nat.ble j 23 = true from Nat.ble_eq_true_of_le (by omega)]
    rfl
  · show S.2.1 0 = 0
    rw [k3]
    exact zc00 u 0
set_option maxRecDepth 1000000 in
theorem zmcg {u u2 : zU} {bf : Nat → Int32} (h : zBr (zuc u 0 0) u2 bf) (p c : Nat) : zUe (t_M_merge (zub u bf) p c) (t_M_merge u2 p c) ∧ (t_M_merge u2 p c).i 0 = 0 := by
  unfold t_M_merge
  with_reducible exact zmcgN h p c 4096 (Nat.le_refl _)
