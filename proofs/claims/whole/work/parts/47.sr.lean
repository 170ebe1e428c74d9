/-- the same but for branch p -/
def zWo (p : Nat) (w w2 : zW) : Prop := (∀ k, k < 4 → w2.i k = w.i k) ∧ (∀ k, 4 ≤ k → k < 9 → ∀ b, b ≠ p → w2.i k b = w.i k b) ∧ w2.o 1 = w.o 1 ∧ (∀ b, b ≠ p → w2.o 3 b = w.o 3 b ∧ w2.o 5 b = w.o 5 b ∧ w2.f 4 b = w.f 4 b) ∧ w2.f 2 = w.f 2 ∧ w2.n 9 = w.n 9 ∧ ∀ b, b ≠ p → ∀ j, 10 ≤ j → j < 15 → w2.n j b = w.n j b
def zUo (p : Nat) (u u2 : zU) : Prop := (∀ j, j ≠ 0 → u2.i j = u.i j) ∧ (∀ j, (j = 3 ∨ j = 4 ∨ j = 5 ∨ (20 ≤ j ∧ j < 24)) → u2.ar j = u.ar j) ∧ (∀ j, (j = 7 ∨ j = 8 ∨ j = 9 ∨ j = 14) → ∀ b, b ≠ p → u2.ar j b = u.ar j b) ∧ (∀ j, (j = 10 ∨ j = 11 ∨ j = 12 ∨ j = 13 ∨ j = 15) → ∀ i, ¬ (4096 * p ≤ i ∧ i < 4096 * p + 4096) → u2.ar j i = u.ar j i) ∧ ∀ i, ¬ (4096 * (24 + p) ≤ i ∧ i < 4096 * (24 + p) + 4096) → u2.ar 1 i = u.ar 1 i ∧ u2.ar 2 i = u.ar 2 i
theorem zRl.other {w w2 : zW} {u u2 : zU} {cm p : Nat} (h : zRl w u cm) (hw : zWo p w w2) (hu : zUo p u u2) (hb : zRb w2 u2 cm p) (hv : zIv u2) : zRl w2 u2 cm := by
  obtain ⟨h1, h2, h3, h4⟩ := h
  obtain ⟨a1, a2, a3, a4, a5, a6, a7⟩ := hw
  obtain ⟨e1, e2, e3, e4, e5⟩ := hu
  refine ⟨?_, fun b hb9 => ?_, h3.u (a1 0 (by decide)) a6 e1 (fun j hj => e2 j (by omega)), hv⟩
  · obtain ⟨c1, c2, c3, c4, c5, c6, c7⟩ := h1
    have hm := c3.2.1
    have q4 := e2 4 (by omega)
    have q5 := e2 5 (by omega)
    unfold zRc
    rw [a1 0 (by decide), a1 1 (by decide), a1 2 (by decide), a1 3 (by decide), a3, a5, q4, q5, e1 6 (by decide)]
    exact ⟨c1, c2, c3.u (fun c _ => by rw [q4]) (fun c _ => by rw [q5]), c4, c5, c6, fun c hc => ⟨(c7 c hc).1, (c7 c hc).2.1, (c7 c hc).2.2.u (fun k hk => e5 _ (by omega))⟩⟩
  · by_cases e : b = p
    · rw [e]; exact hb
    · exact (h2 b hb9).c (fun k k1 k2 => a2 k k1 k2 b e) (a4 b e).1 (a4 b e).2.1 (a4 b e).2.2 (fun j j1 j2 => a7 b e j j1 j2) (fun j hj => e3 j hj b e) (fun k hk => e5 _ (by omega)) (fun j hj k hk => e4 j hj _ (by omega))
/-- branch -/
theorem zRl.branch {w w2 : zW} {u : zU} {cm p c q : Nat} (h : zRl w u cm) (hp : p < 4) (hc : c < cm) (hw : zWo p w w2) (h3 : w2.o 3 p = some q) (h4 : w2.i 4 p = 1) (h5 : w2.i 5 p = nI c) (h6 : w2.i 6 p = (-1)) (hf : ∀ k, k < 4096 → w2.f 4 p k = w.f 2 c k) (h7 : ∀ r, w2.o 5 p = some r → w2.i 7 p = 0 ∧ w2.i 8 p = 0) : zRl w2 (t_M_branch u p c) cm := by
  have hm := h.hm
  have hiv := h.iv
  have hcc := (h.1.2.2.2.2.2.2 c hc).2.2
  unfold t_M_branch
  obtain ⟨B, hB⟩ : ∃ B, B = zua (zua (zua (zua (zuc u 0 0) 7 (upd (u.ar 7) p 1)) 8 (upd (u.ar 8) p (nI c))) 9 (upd (u.ar 9) p (-1))) 14 (upd (u.ar 14) p 0) := ⟨_, rfl⟩
  rw [← hB]
  have n : ∀ j, j ≠ 7 → j ≠ 8 → j ≠ 9 → j ≠ 14 → B.ar j = u.ar j := fun j j1 j2 j3 j4 => by
    rw [hB]
    exact (zuaj _ _ j4).trans ((zuaj _ _ j3).trans ((zuaj _ _ j2).trans (zuaj _ _ j1)))
  have n7 : B.ar 7 = upd (u.ar 7) p 1 := by rw [hB]; exact (zuaj _ _ (by decide)).trans ((zuaj _ _ (by decide)).trans ((zuaj _ _ (by decide)).trans (zuas _ _ _)))
  have n8 : B.ar 8 = upd (u.ar 8) p (nI c) := by rw [hB]; exact (zuaj _ _ (by decide)).trans ((zuaj _ _ (by decide)).trans (zuas _ _ _))
  have n9 : B.ar 9 = upd (u.ar 9) p (-1) := by rw [hB]; exact (zuaj _ _ (by decide)).trans (zuas _ _ _)
  have n14 : B.ar 14 = upd (u.ar 14) p 0 := by rw [hB]; exact zuas _ _ _
  have ni : ∀ j, j ≠ 0 → B.i j = u.i j := fun j hj => by rw [hB]; exact pk_un hj
  obtain ⟨-, t2, t3, t4, t5⟩ := zbec (24 + p) c B 4096 (Nat.le_refl _)
  obtain ⟨T, hT⟩ : ∃ T, T = zfor 4096 (st_M_become (24 + p) c) B := ⟨_, rfl⟩
  rw [← hT] at t2 t3 t4 t5 ⊢
  have b1 := n 1 (by decide) (by decide) (by decide) (by decide)
  have b2 := n 2 (by decide) (by decide) (by decide) (by decide)
  have hin : ∀ k, k < 4096 → T.ar 1 (4096 * (24 + p) + k) = u.ar 1 (4096 * c + k) ∧ T.ar 2 (4096 * (24 + p) + k) = u.ar 2 (4096 * c + k) := fun k hk => by
    rw [← b1, ← b2]
    exact t5 k hk
  have hout : ∀ i, ¬ (4096 * (24 + p) ≤ i ∧ i < 4096 * (24 + p) + 4096) → T.ar 1 i = u.ar 1 i ∧ T.ar 2 i = u.ar 2 i := fun i hi => by
    rw [← b1, ← b2]
    exact t4 i hi
  refine h.other hw ⟨fun j hj => (congrFun t2 j).trans (ni j hj), fun j hj => (t3 j (by omega) (by omega)).trans (n j (by omega) (by omega) (by omega) (by omega)), fun j hj b hb => ?_, fun j hj i _ => ?_, hout⟩ ?_ (fun i hi => ?_)
  · rw [t3 j (by omega) (by omega)]
    rcases hj with rfl | rfl | rfl | rfl
    · rw [n7, pk_un hb]
    · rw [n8, pk_un hb]
    · rw [n9, pk_un hb]
    · rw [n14, pk_un hb]
  · rw [t3 j (by omega) (by omega), n j (by omega) (by omega) (by omega) (by omega)]
  · unfold zRb
    rw [t3 7 (by decide) (by decide), t3 14 (by decide) (by decide), n7, n14, pk_us, pk_us]
    refine ⟨Or.inr rfl, (fun e => by rw [h3] at e; cases e), fun _ _ => h4, ⟨0, rfl, by omega⟩, fun _ => ⟨?_, ?_, ⟨c, ?_, hc, Or.inl ?_⟩, fun k hk => ?_, 0, by omega, ?_, fun _ => rfl, fun r hr => ⟨(h7 r hr).1, (h7 r hr).2, fun k hk => absurd hk (Nat.not_lt_zero _)⟩⟩⟩
    · rw [t3 8 (by decide) (by decide), n8, pk_us]; exact h5
    · rw [t3 9 (by decide) (by decide), n9, pk_us]; exact h6
    · rw [t3 8 (by decide) (by decide), n8, pk_us]
    · rw [t3 9 (by decide) (by decide), n9, pk_us]
    · rw [hf k hk, (hin k hk).1, (hin k hk).2]
      exact hcc k hk
    · rw [t3 14 (by decide) (by decide), n14, pk_us]; rfl
  · by_cases e : 4096 * (24 + p) ≤ i ∧ i < 4096 * (24 + p) + 4096
    · have := hin (i - 4096 * (24 + p)) (by omega)
      rw [show 4096 * (24 + p) + (i - 4096 * (24 + p)) = i by omega] at this
      rw [this.1, this.2]
      exact hiv _ (by omega)
    · rw [(hout i e).1, (hout i e).2]
      exact hiv i hi
/-- settle -/
theorem zun_up (u : zU) (b q : Nat) (hq : q < 4096) : ∀ n, n ≤ 4096 → ∀ u2 : zU, (∀ k, k < 4096 → u2.ar 15 (4096 * b + k) = if k = q then 1 else u.ar 15 (4096 * b + k)) → zfor n (st_M_unsettled u2 b) 0 = if q < n ∧ u.ar 15 (4096 * b + q) = 0 then zfor n (st_M_unsettled u b) 0 - 1 else zfor n (st_M_unsettled u b) 0 := by
  intro n
  induction n with
  | zero => intro _ u2 _; rw [if_neg (by omega)]; rfl
  | succ n ih =>
    intro hn u2 h2
    rw [zfor_s, ih (by omega) u2 h2, zfor_s]
    unfold st_M_unsettled
    rw [h2 n (by omega)]
    by_cases e : n = q
    · subst e
      rw [if_neg (show ¬ (n < n ∧ u.ar 15 (4096 * b + n) = 0) by omega), if_pos rfl, if_neg (show ¬ (1 : Int32) = 0 by decide)]
      by_cases z : u.ar 15 (4096 * b + n) = 0
      · rw [if_pos ⟨by omega, z⟩, if_pos z, Int32.add_sub_cancel]
        exact Int32.add_zero _
      · rw [if_neg (fun q => z q.2), if_neg z]
    · rw [if_neg e]
      have e2 : (q < n + 1 ∧ u.ar 15 (4096 * b + q) = 0) ↔ (q < n ∧ u.ar 15 (4096 * b + q) = 0) := ⟨fun h => ⟨by omega, h.2⟩, fun h => ⟨by omega, h.2⟩⟩
      by_cases z : q < n ∧ u.ar 15 (4096 * b + q) = 0
      · rw [if_pos z, if_pos (e2.mpr z)]
        have sw : ∀ a x : Int32, a - 1 + x = a + x - 1 := fun a x => by
          rw [Int32.sub_eq_add_neg, Int32.sub_eq_add_neg, Int32.add_assoc, Int32.add_comm (-1) x, Int32.add_assoc]
        by_cases y : u.ar 15 (4096 * b + n) = 0
        · rw [if_pos y, if_pos y, sw]
        · rw [if_neg y, if_neg y, sw]
      · rw [if_neg z, if_neg (fun h => z (e2.mp h))]
theorem zRl.settle {w w2 : zW} {u : zU} {cm p q ct e r : Nat} {x : Int32} (h : zRl w u cm) (hp : p < 4) (h7 : ¬ u.ar 7 p = 0) (ho : w.o 5 p = some r) (he : u.ar 14 p = nI e) (he4 : e ≤ 4096) (hq : q < e) (hct : ct < 4096) (hw : zWo p w w2) (h3 : w2.o 3 p = w.o 3 p) (h5 : w2.o 5 p = w.o 5 p) (hi : ∀ k, 4 ≤ k → k < 8 → w2.i k p = w.i k p) (hi8 : w2.i 8 p = if u.ar 15 (4096 * p + q) = 0 then w.i 8 p - 1 else w.i 8 p) (hf : w2.f 4 p = vp_updL (w.f 4 p) ct (zcell x (nI (98304 + ct)))) (hn : ∀ j, 10 ≤ j → j < 14 → w2.n j p = w.n j p) (hn14 : ∀ k, w2.n 14 p k = if k = q then 1 else w.n 14 p k) : zRl w2 (t_M_settle u p q x ct e) cm ∧ w2.i 8 p = s_M_settle u p q x ct e := by
  obtain ⟨b1, b2, b3, b4, b5⟩ := h.2.1 p hp
  obtain ⟨t1, t2, t3, t4, t5⟩ := b5 h7
  obtain ⟨e2, k1, k2, k3, k4⟩ := t5
  have ee : e2 = e := (nI_eq (by omega) (by omega)).mp (k2.symm.trans he)
  subst ee
  obtain ⟨a1, a2, a3⟩ := k4 r ho
  obtain ⟨B, hB⟩ : ∃ B, B = zua (zuc u 0 0) 15 (upd ((zuc u 0 0).ar 15) (4096 * p + q) 1) := ⟨_, rfl⟩
  have n : ∀ j, j ≠ 15 → B.ar j = u.ar j := fun j hj => by rw [hB]; exact zuaj _ _ hj
  have n15 : B.ar 15 = upd (u.ar 15) (4096 * p + q) 1 := by rw [hB]; exact zuas _ _ _
  have hE : zEe p B B (w.f 4 p) := zEe.of (by unfold zIv; rw [n 1 (by decide), n 2 (by decide)]; exact h.iv) (t4.u (fun k hk => by rw [n 1 (by decide), n 2 (by decide)]; exact ⟨rfl, rfl⟩))
  obtain ⟨⟨g1, g2, g3, g4⟩, g5⟩ := hE.give hct x
  have hT : t_M_settle u p q x ct e2 = zgive B p ct x := by rw [hB]; rfl
  have hS : s_M_settle u p q x ct e2 = zfor e2 (st_M_unsettled (zgive B p ct x) p) 0 := by rw [hB]; rfl
  have g15 : ∀ k, k < 4096 → (zgive B p ct x).ar 15 (4096 * p + k) = if k = q then 1 else u.ar 15 (4096 * p + k) := fun k hk => by
    rw [g2 15 (by decide) (by decide) (by decide), n15]
    by_cases e : k = q
    · rw [if_pos e, e, pk_us]
    · rw [if_neg e, pk_un (by omega)]
  have hun := zun_up u p q (by omega) e2 k1 (zgive B p ct x) g15
  have hv8 : w2.i 8 p = zfor e2 (st_M_unsettled (zgive B p ct x) p) 0 := by
    rw [hi8, hun, a2]
    by_cases z : u.ar 15 (4096 * p + q) = 0
    · rw [if_pos z, if_pos ⟨hq, z⟩]
    · rw [if_neg z, if_neg (fun y => z y.2)]
  rw [hT, hS]
  refine ⟨h.other hw ⟨fun j hj => (g1 j hj).trans (by rw [hB]; exact pk_un hj), fun j hj => by rw [g2 j (by omega) (by omega) (by omega), n j (by omega)], fun j hj b _ => by rw [g2 j (by omega) (by omega) (by omega), n j (by omega)], fun j hj i hi9 => ?_, fun i hi9 => ?_⟩ ?_ g4, hv8⟩
  · rw [g2 j (by omega) (by omega) (by omega)]
    by_cases j15 : j = 15
    · subst j15; rw [n15, pk_un (by omega)]
    · rw [n j j15]
  · rw [(g3 i hi9).1, (g3 i hi9).2, n 1 (by decide), n 2 (by decide)]
    exact ⟨rfl, rfl⟩
  · unfold zRb
    have q7 := g2 7 (by decide) (by decide) (by decide)
    have q8 := g2 8 (by decide) (by decide) (by decide)
    have q9 := g2 9 (by decide) (by decide) (by decide)
    have q14 := g2 14 (by decide) (by decide) (by decide)
    rw [q7, q14, n 7 (by decide), n 14 (by decide), h3, hi 4 (by omega) (by omega)]
    refine ⟨b1, b2, b3, b4, fun _ => ⟨?_, ?_, ?_, ?_, e2, k1, ?_, ?_, fun r9 hr9 => ⟨?_, hv8, fun k hk => ?_⟩⟩⟩
    · rw [q8, n 8 (by decide), hi 5 (by omega) (by omega)]; exact t1
    · rw [q9, n 9 (by decide), hi 6 (by omega) (by omega)]; exact t2
    · rw [q8, q9, n 8 (by decide), n 9 (by decide)]; exact t3
    · rw [hf]; exact g5
    · rw [q14, n 14 (by decide)]; exact k2
    · rw [h5]; exact k3
    · rw [hi 7 (by omega) (by omega)]; exact a1
    · rw [hn 10 (by omega) (by omega), hn 11 (by omega) (by omega), hn 12 (by omega) (by omega), hn 13 (by omega) (by omega), hn14 k, g15 k (by omega), g2 10 (by decide) (by decide) (by decide), g2 11 (by decide) (by decide) (by decide), g2 12 (by decide) (by decide) (by decide), g2 13 (by decide) (by decide) (by decide), n 10 (by decide), n 11 (by decide), n 12 (by decide), n 13 (by decide)]
      obtain ⟨c1, c2, c3, c4, c5, c6, c7⟩ := a3 k hk
      refine ⟨c1, c2, c3, c4, c5, ?_, ?_⟩
      · rw [c6]
      · by_cases e : k = q
        · rw [if_pos e]; exact Or.inr rfl
        · rw [if_neg e]; exact c7
theorem zun_0 (u : zU) (b : Nat) : ∀ n, n < 2 ^ 30 → (∀ k, k < n → u.ar 15 (4096 * b + k) = 0) → zfor n (st_M_unsettled u b) 0 = nI n := by
  intro n
  induction n with
  | zero => intro _ _; rfl
  | succ n ih =>
    intro hn h
    rw [zfor_s, ih (by omega) (fun k hk => h k (by omega))]
    unfold st_M_unsettled
    rw [if_pos (h n (by omega)), show (1 : Int32) = nI 1 from rfl, nI_add]
theorem zRl.merge {w w2 : zW} {u u2 s : zU} {cm p c e r : Nat} {f : Nat → Int64} {N : Nat → Nat → Int32} (h : zRl w u cm) (hue : zUe u u2) (hp : p < 4) (h7 : ¬ u.ar 7 p = 0) (hc : c < cm) (hch : ∀ x, u.ar 8 p = nI x → x < cm → c ≠ x) (hM : zMg p (zua (zua u2 9 (upd (u2.ar 9) p (nI c))) 14 (upd (u2.ar 14) p 0)) s f N e 4096) (hw : zWo p w w2) (h3 : w2.o 3 p = w.o 3 p) (hi : ∀ k, 4 ≤ k → k < 6 → w2.i k p = w.i k p) (hi6 : w2.i 6 p = nI c) (h5 : w2.o 5 p = some r) (hi7 : w2.i 7 p = nI e) (hi8 : w2.i 8 p = nI e) (hf : w2.f 4 p = f) (hn : ∀ j, 10 ≤ j → j < 15 → w2.n j p = N j) : zRl w2 s cm := by
  have h2 := h.ue hue
  have hm := h.hm
  have h72 : ¬ u2.ar 7 p = 0 := by rw [hue.2 7 (by decide)]; exact h7
  obtain ⟨b1, b2, b3, b4, b5⟩ := h2.2.1 p hp
  obtain ⟨t1, t2, ⟨hd, t31, t32, -⟩, t4, t5⟩ := b5 h72
  obtain ⟨B, hB⟩ : ∃ B, B = zua (zua u2 9 (upd (u2.ar 9) p (nI c))) 14 (upd (u2.ar 14) p 0) := ⟨_, rfl⟩
  rw [← hB] at hM
  have n : ∀ j, j ≠ 9 → j ≠ 14 → B.ar j = u2.ar j := fun j j1 j2 => by rw [hB]; exact (zuaj _ _ j2).trans (zuaj _ _ j1)
  have n9 : B.ar 9 = upd (u2.ar 9) p (nI c) := by rw [hB]; exact (zuaj _ _ (by decide)).trans (zuas _ _ _)
  have n14 : B.ar 14 = upd (u2.ar 14) p 0 := by rw [hB]; exact zuas _ _ _
  have ni : B.2.1 = u2.2.1 := by rw [hB]; rfl
  obtain ⟨m1, m2, m3, m4, m5, m6, m7, m8, m9, m10⟩ := hM
  refine h2.other hw ⟨fun j hj => by rw [show s.i j = B.i j from congrFun m1 j]; exact congrFun ni j, fun j hj => by rw [m2 j (by omega) (by omega) (by omega), n j (by omega) (by omega)], fun j hj b hb => ?_, fun j hj i hi9 => ?_, fun i hi9 => ?_⟩ ?_ m4
  · rcases hj with rfl | rfl | rfl | rfl
    · rw [m2 7 (by decide) (by decide) (by decide), n 7 (by decide) (by decide)]
    · rw [m2 8 (by decide) (by decide) (by decide), n 8 (by decide) (by decide)]
    · rw [m2 9 (by decide) (by decide) (by decide), n9, pk_un hb]
    · rw [m8 b hb, n14, pk_un hb]
  · rw [m9 j (by omega) i hi9 (by omega) (by omega), n j (by omega) (by omega)]
  · rw [(m3 i hi9).1, (m3 i hi9).2, n 1 (by decide) (by decide), n 2 (by decide) (by decide)]
    exact ⟨rfl, rfl⟩
  · unfold zRb
    have q7 : s.ar 7 = u2.ar 7 := by rw [m2 7 (by decide) (by decide) (by decide), n 7 (by decide) (by decide)]
    have q8 : s.ar 8 = u2.ar 8 := by rw [m2 8 (by decide) (by decide) (by decide), n 8 (by decide) (by decide)]
    have q9 : s.ar 9 p = nI c := by rw [m2 9 (by decide) (by decide) (by decide), n9, pk_us]
    rw [q7, h3, hi 4 (by omega) (by omega)]
    refine ⟨b1, b2, b3, ⟨e, m6, m7⟩, fun _ => ⟨?_, ?_, ⟨hd, ?_, t32, Or.inr ⟨c, q9, hc, ?_⟩⟩, ?_, e, m7, m6, fun z => ?_, fun r9 hr9 => ⟨hi7, ?_, fun k hk => ?_⟩⟩⟩
    · rw [q8, hi 5 (by omega) (by omega)]; exact t1
    · rw [hi6, q9]
    · rw [q8]; exact t31
    · exact hch hd (by rw [← hue.2 8 (by decide)]; exact t31) t32
    · rw [hf]; exact m5
    · rw [h5] at z; cases z
    · rw [hi8]
      exact (zun_0 s p e (by omega) (fun k hk => (m10 k hk).2.2.2.2.2.2)).symm
    · obtain ⟨c1, c2, c3, c4, c5, c6, c7⟩ := m10 k hk
      rw [hn 10 (by omega) (by omega), hn 11 (by omega) (by omega), hn 12 (by omega) (by omega), hn 13 (by omega) (by omega), hn 14 (by omega) (by omega)]
      exact ⟨c1, c2, c3, c4, c5, c6, Or.inl c7⟩
/-- commit -/
theorem zRl.commit {w w2 : zW} {u s : zU} {cm p q : Nat} {f : Nat → Int64} (h : zRl w u cm) (hp : p < 4) (hm : cm < 24) (h7 : ¬ u.ar 7 p = 0) (hs : s = zfor 4096 (st_M_commit p cm) (zuc (zuc u 0 0) 6 (nI (cm + 1)))) (hE : zEe p (zuc (zuc u 0 0) 6 (nI (cm + 1))) s f)
    (hi0 : ∀ j, w2.i 0 j = if j = 2 then nI (cm + 1) else w.i 0 j) (hi1 : ∀ c, w2.i 1 c = if c = cm then w.i 5 p else w.i 1 c) (hi2 : ∀ c, w2.i 2 c = if c = cm then w.i 6 p else w.i 2 c) (x : Int32) (hx : (u.ar 9 p = (-1) ∧ x = 0) ∨ ∃ o, o < cm ∧ u.ar 9 p = nI o ∧ x = w.i 3 o) (hi3 : ∀ c, w2.i 3 c = if c = cm then ((1 <<< (nI cm &&& 31)) ||| w.i 3 (w.i 5 p).toNatClampNeg) ||| x else w.i 3 c)
    (ho1 : ∀ c, w2.o 1 c = if c = cm then some q else w.o 1 c) (ho3 : w2.o 3 = w.o 3) (ho5 : w2.o 5 = w.o 5) (hi4 : w2.i 4 = w.i 4) (hi5 : ∀ b, w2.i 5 b = if b = p then nI cm else w.i 5 b) (hi6 : ∀ b, w2.i 6 b = if b = p then (-1) else w.i 6 b) (hi78 : ∀ k, k = 7 ∨ k = 8 → ∀ b, b ≠ p → w2.i k b = w.i k b) (hi78p : ∀ r, w2.o 5 p = some r → w2.i 7 p = 0 ∧ w2.i 8 p = 0)
    (hf2 : ∀ c, c ≠ cm → w2.f 2 c = w.f 2 c) (hf2m : ∀ k, k < 4096 → w2.f 2 cm k = f k) (hf4 : ∀ b, w2.f 4 b = if b = p then f else w.f 4 b) (hn : ∀ k, 9 ≤ k → w2.n k = w.n k) : zRl w2 (t_M_commit u p cm) (cm + 1) := by
  obtain ⟨h1, h2, h3, h4⟩ := id h
  obtain ⟨c1, c2, c3, c4, c5, c6, c7⟩ := h1
  obtain ⟨b1, b2, b3, b4, b5⟩ := h2 p hp
  obtain ⟨t1, t2, ⟨hd, t31, t32, t33⟩, t4, t5⟩ := b5 h7
  obtain ⟨⟨g1, g2, g3, g4⟩, g5⟩ := hE
  unfold t_M_commit
  rw [← hs]
  obtain ⟨-, y2, y3, y4, y5⟩ := zbec cm (24 + p) s 4096 (Nat.le_refl _)
  obtain ⟨B, hB⟩ : ∃ B, B = zfor 4096 (st_M_become cm (24 + p)) s := ⟨_, rfl⟩
  rw [← hB] at y2 y3 y4 y5 ⊢
  have sn : ∀ j, j < 24 → j ≠ 1 → j ≠ 2 → B.ar j = u.ar j := fun j j1 j2 j3 => (y3 j j2 j3).trans (g2 j j1 j2 j3)
  obtain ⟨T, hT⟩ : ∃ T, T = zua (zua (zua (zua (zua B 4 (upd (B.ar 4) cm (B.ar 8 p))) 5 (upd (B.ar 5) cm (B.ar 9 p))) 8 (upd (B.ar 8) p (nI cm))) 9 (upd (B.ar 9) p (-1))) 14 (upd (B.ar 14) p 0) := ⟨_, rfl⟩
  rw [← hT]
  have n : ∀ j, j ≠ 4 → j ≠ 5 → j ≠ 8 → j ≠ 9 → j ≠ 14 → T.ar j = B.ar j := fun j j1 j2 j3 j4 j5 => by
    rw [hT]
    exact (zuaj _ _ j5).trans ((zuaj _ _ j4).trans ((zuaj _ _ j3).trans ((zuaj _ _ j2).trans (zuaj _ _ j1))))
  have n4 : T.ar 4 = upd (u.ar 4) cm (u.ar 8 p) := by
    rw [hT]
    refine ((zuaj _ _ (by decide)).trans ((zuaj _ _ (by decide)).trans ((zuaj _ _ (by decide)).trans ((zuaj _ _ (by decide)).trans (zuas _ _ _))))).trans ?_
    rw [sn 4 (by decide) (by decide) (by decide), sn 8 (by decide) (by decide) (by decide)]
  have n5 : T.ar 5 = upd (u.ar 5) cm (u.ar 9 p) := by
    rw [hT]
    refine ((zuaj _ _ (by decide)).trans ((zuaj _ _ (by decide)).trans ((zuaj _ _ (by decide)).trans (zuas _ _ _)))).trans ?_
    rw [sn 5 (by decide) (by decide) (by decide), sn 9 (by decide) (by decide) (by decide)]
  have n8 : T.ar 8 = upd (u.ar 8) p (nI cm) := by
    rw [hT]
    refine ((zuaj _ _ (by decide)).trans ((zuaj _ _ (by decide)).trans (zuas _ _ _))).trans ?_
    rw [sn 8 (by decide) (by decide) (by decide)]
  have n9 : T.ar 9 = upd (u.ar 9) p (-1) := by
    rw [hT]
    refine ((zuaj _ _ (by decide)).trans (zuas _ _ _)).trans ?_
    rw [sn 9 (by decide) (by decide) (by decide)]
  have n14 : T.ar 14 = upd (u.ar 14) p 0 := by
    rw [hT]
    refine (zuas _ _ _).trans ?_
    rw [sn 14 (by decide) (by decide) (by decide)]
  have nj : ∀ j, j < 24 → j ≠ 1 → j ≠ 2 → j ≠ 4 → j ≠ 5 → j ≠ 8 → j ≠ 9 → j ≠ 14 → T.ar j = u.ar j := fun j j1 j2 j3 j4 j5 j6 j7 j8 => (n j j4 j5 j6 j7 j8).trans (sn j j1 j2 j3)
  have ti : ∀ j, j ≠ 0 → j ≠ 6 → T.i j = u.i j := fun j h0 h6 => by
    have e1 : T.i j = B.i j := by rw [hT]; rfl
    rw [e1, show B.i j = s.i j from congrFun y2 j, g1 j h0]
    exact (pk_un h6).trans (pk_un h0)
  have ti6 : T.i 6 = nI (cm + 1) := by
    have e1 : T.i 6 = B.i 6 := by rw [hT]; rfl
    rw [e1, show B.i 6 = s.i 6 from congrFun y2 6, g1 6 (by decide)]
    exact (pk_us (f := (zuc u 0 0).2.1) (k := 6))
  have q1 := n 1 (by decide) (by decide) (by decide) (by decide) (by decide)
  have q2 := n 2 (by decide) (by decide) (by decide) (by decide) (by decide)
  -- cells of the other places
  have hother : ∀ i, ¬ (4096 * cm ≤ i ∧ i < 4096 * cm + 4096) → ¬ (4096 * (24 + p) ≤ i ∧ i < 4096 * (24 + p) + 4096) → T.ar 1 i = u.ar 1 i ∧ T.ar 2 i = u.ar 2 i := fun i i1 i2 => by
    rw [q1, q2, (y4 i i1).1, (y4 i i1).2, (g3 i i2).1, (g3 i i2).2]
    exact ⟨rfl, rfl⟩
  have hnew : ∀ k, k < 4096 → f k = zcell (T.ar 1 (4096 * cm + k)) (T.ar 2 (4096 * cm + k)) := fun k hk => by
    rw [q1, q2, (y5 k hk).1, (y5 k hk).2]
    exact g5 k hk
  have hbra : ∀ k, k < 4096 → T.ar 1 (4096 * (24 + p) + k) = s.ar 1 (4096 * (24 + p) + k) ∧ T.ar 2 (4096 * (24 + p) + k) = s.ar 2 (4096 * (24 + p) + k) := fun k hk => by
    rw [q1, q2]
    exact y4 _ (by omega)
  have hdn : (w.i 5 p).toNatClampNeg = hd := by rw [t1, t31, nI_clamp (by omega)]
  refine ⟨⟨ti6, by rw [hi0, if_pos rfl], ⟨by omega, by omega, ?_, fun c h0 hc => ?_⟩, fun c hc => ?_, ?_, ?_, fun c hc => ?_⟩, fun b hb => ?_, ?_, fun i hi => ?_⟩
  · rw [hi3, if_neg (by have := c3.1; omega)]
    exact c3.2.2.1
  · by_cases e : c = cm
    · subst e
      refine ⟨hd, x, t32, ?_, ?_, ?_⟩
      · rw [n4, pk_us]; exact t31
      · rw [hi3, if_pos rfl, hdn, hi3, if_neg (by omega)]
      · rw [n5, pk_us]
        rcases hx with hx | ⟨o, o1, o2, o3⟩
        · exact Or.inl hx
        · refine Or.inr ⟨o, o1, ?_, o2, by rw [o3, hi3, if_neg (by omega)]⟩
          rcases t33 with t33 | ⟨c9, d1, d2, d3⟩
          · rw [t33] at o2
            have : (0 : Int32) ≤ nI o := nI_pos' (by omega)
            rw [← o2] at this
            exact absurd this (by decide)
          · rw [d1] at o2
            have := (nI_eq (by omega) (by omega)).mp o2
            omega
    · obtain ⟨p9, x9, z1, z2, z3, z4⟩ := c3.2.2.2 c h0 (by omega)
      refine ⟨p9, x9, z1, ?_, ?_, ?_⟩
      · rw [n4, pk_un e]; exact z2
      · rw [hi3, if_neg e, hi3, if_neg (by omega)]; exact z3
      · rw [n5, pk_un e]
        rcases z4 with z4 | ⟨o, o1, o2, o3, o4⟩
        · exact Or.inl z4
        · exact Or.inr ⟨o, o1, o2, o3, by rw [hi3, if_neg (by omega)]; exact o4⟩
  · rw [ho1]
    by_cases e : c = cm
    · rw [if_pos e]
      exact ⟨fun z => (nomatch z), fun z => by omega⟩
    · rw [if_neg e, c4 c hc]
      omega
  · rw [n4, pk_un (by have := c3.1; omega)]; exact c5
  · rw [n5, pk_un (by have := c3.1; omega)]; exact c6
  · rw [hi1, hi2, n4, n5]
    by_cases e : c = cm
    · subst e
      rw [if_pos rfl, if_pos rfl, pk_us, pk_us]
      refine ⟨t1, t2, fun k hk => ?_⟩
      rw [hf2m k hk]
      exact hnew k hk
    · rw [if_neg e, if_neg e, pk_un e, pk_un e, hf2 c e]
      refine ⟨(c7 c (by omega)).1, (c7 c (by omega)).2.1, (c7 c (by omega)).2.2.u (fun k hk => hother _ (by omega) (by omega))⟩
  · by_cases e : b = p
    · subst e
      unfold zRb
      rw [nj 7 (by decide) (by decide) (by decide) (by decide) (by decide) (by decide) (by decide) (by decide), n14, pk_us, ho3, hi4]
      refine ⟨b1, b2, b3, ⟨0, rfl, by omega⟩, fun _ => ⟨?_, ?_, ⟨cm, ?_, by omega, Or.inl ?_⟩, fun k hk => ?_, 0, by omega, ?_, fun _ => rfl, fun r hr => ⟨(hi78p r hr).1, (hi78p r hr).2, fun k hk => absurd hk (Nat.not_lt_zero _)⟩⟩⟩
      · rw [hi5, if_pos rfl, n8, pk_us]
      · rw [hi6, if_pos rfl, n9, pk_us]
      · rw [n8, pk_us]
      · rw [n9, pk_us]
      · rw [hf4, if_pos rfl, (hbra k hk).1, (hbra k hk).2]
        exact g5 k hk
      · rw [n14, pk_us]; rfl
    · refine ((h2 b hb).c (w2 := w2) (u2 := T) (fun k k1 k2 => ?_) (by rw [ho3]) (by rw [ho5]) (by rw [hf4, if_neg e]) (fun j j1 j2 => by rw [hn j (by omega)]) (fun j hj => ?_) (fun k hk => hother _ (by omega) (by omega)) (fun j hj k hk => by rw [nj j (by omega) (by omega) (by omega) (by omega) (by omega) (by omega) (by omega) (by omega)])).m (by omega)
      · rcases (show k = 4 ∨ k = 5 ∨ k = 6 ∨ k = 7 ∨ k = 8 by omega) with rfl | rfl | rfl | rfl | rfl
        · rw [hi4]
        · rw [hi5, if_neg e]
        · rw [hi6, if_neg e]
        · exact hi78 7 (Or.inl rfl) b e
        · exact hi78 8 (Or.inr rfl) b e
      · rcases hj with rfl | rfl | rfl | rfl
        · rw [nj 7 (by decide) (by decide) (by decide) (by decide) (by decide) (by decide) (by decide) (by decide)]
        · rw [n8, pk_un e]
        · rw [n9, pk_un e]
        · rw [n14, pk_un e]
  · obtain ⟨⟨lf, tp, wd, hg, r1, r2, r3, r4, r5⟩, s2, s3, s4, s5⟩ := h3
    refine ⟨⟨lf, tp, wd, hg, by rw [ti 16 (by decide) (by decide)]; exact r1, by rw [ti 17 (by decide) (by decide)]; exact r2, by rw [ti 18 (by decide) (by decide)]; exact r3, by rw [ti 19 (by decide) (by decide)]; exact r4, r5⟩, fun j j1 j2 => ?_, ?_, ?_, ?_⟩
    · rw [hi0, if_neg (by omega), ti (12 + j) (by omega) (by omega)]
      exact s2 j j1 j2
    · rw [hn 9 (by decide), nj 3 (by decide) (by decide) (by decide) (by decide) (by decide) (by decide) (by decide) (by decide)]; exact s3
    · rw [hn 9 (by decide), nj 20 (by decide) (by decide) (by decide) (by decide) (by decide) (by decide) (by decide) (by decide), nj 21 (by decide) (by decide) (by decide) (by decide) (by decide) (by decide) (by decide) (by decide)]; exact s4
    · rw [hn 9 (by decide), nj 22 (by decide) (by decide) (by decide) (by decide) (by decide) (by decide) (by decide) (by decide), nj 23 (by decide) (by decide) (by decide) (by decide) (by decide) (by decide) (by decide) (by decide)]; exact s5
  · by_cases e1 : 4096 * cm ≤ i ∧ i < 4096 * cm + 4096
    · have := y5 (i - 4096 * cm) (by omega)
      rw [show 4096 * cm + (i - 4096 * cm) = i by omega] at this
      rw [q1, q2, this.1, this.2]
      exact g4 _ (by omega)
    · by_cases e2 : 4096 * (24 + p) ≤ i ∧ i < 4096 * (24 + p) + 4096
      · have := hbra (i - 4096 * (24 + p)) (by omega)
        rw [show 4096 * (24 + p) + (i - 4096 * (24 + p)) = i by omega] at this
        rw [this.1, this.2]
        exact g4 i hi
      · rw [(hother i e1 e2).1, (hother i e1 e2).2]
        exact h4 i hi
