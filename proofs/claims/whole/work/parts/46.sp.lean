/-! what each change of the class's state means beside the reference's -/
/-- the parts of the class's state that the relation reads -/
def zWe (w w2 : zW) : Prop := (∀ k, k < 9 → w2.i k = w.i k) ∧ w2.o 1 = w.o 1 ∧ w2.o 3 = w.o 3 ∧ w2.o 5 = w.o 5 ∧ w2.f = w.f ∧ ∀ k, 9 ≤ k → w2.n k = w.n k
theorem zWe.rf (w : zW) : zWe w w := ⟨fun _ _ => rfl, rfl, rfl, rfl, rfl, fun _ _ => rfl⟩
theorem zWe.tr {w w2 w3 : zW} (h : zWe w w2) (h2 : zWe w2 w3) : zWe w w3 := ⟨fun k hk => (h2.1 k hk).trans (h.1 k hk), h2.2.1.trans h.2.1, h2.2.2.1.trans h.2.2.1, h2.2.2.2.1.trans h.2.2.2.1, h2.2.2.2.2.1.trans h.2.2.2.2.1, fun k hk => (h2.2.2.2.2.2 k hk).trans (h.2.2.2.2.2 k hk)⟩
theorem zRl.we {w w2 : zW} {u : zU} {cm : Nat} (h : zRl w u cm) (he : zWe w w2) : zRl w2 u cm := by
  obtain ⟨e1, e2, e3, e4, e5, e6⟩ := he
  obtain ⟨h1, h2, h3, h4⟩ := h
  refine ⟨?_, fun b hb => ?_, h3.u (e1 0 (by decide)) (e6 9 (by decide)) (fun _ _ => rfl) (fun _ _ => rfl), h4⟩
  · unfold zRc
    rw [e1 0 (by decide), e1 1 (by decide), e1 2 (by decide), e1 3 (by decide), e2, e5]
    exact h1
  · obtain ⟨b1, b2, b3, b4, b5⟩ := h2 b hb
    unfold zRb
    rw [e3, e1 4 (by decide)]
    refine ⟨b1, b2, b3, b4, fun h9 => ?_⟩
    obtain ⟨t1, t2, t3, t4, t5⟩ := b5 h9
    refine ⟨by rw [e1 5 (by decide)]; exact t1, by rw [e1 6 (by decide)]; exact t2, t3, by rw [e5]; exact t4, t5.u (by rw [e4]) ⟨by rw [e1 7 (by decide)], by rw [e1 8 (by decide)]⟩ (fun j j1 _ => by rw [e6 j (by omega)]) rfl (fun _ _ _ _ => rfl)⟩
/-- a whole place is copied -/
theorem zbec (a b : Nat) (s : zU) : ∀ j, j ≤ 4096 → (zfor j (st_M_become a b) s).1 = s.1 ∧ (zfor j (st_M_become a b) s).2.1 = s.2.1 ∧ (∀ k, k ≠ 1 → k ≠ 2 → (zfor j (st_M_become a b) s).ar k = s.ar k) ∧ (∀ i, ¬ (4096 * a ≤ i ∧ i < 4096 * a + j) → (zfor j (st_M_become a b) s).ar 1 i = s.ar 1 i ∧ (zfor j (st_M_become a b) s).ar 2 i = s.ar 2 i) ∧ ∀ k, k < j → (zfor j (st_M_become a b) s).ar 1 (4096 * a + k) = s.ar 1 (4096 * b + k) ∧ (zfor j (st_M_become a b) s).ar 2 (4096 * a + k) = s.ar 2 (4096 * b + k) := by
  refine zfor_inv (N := 4096) (fun j (t : zU) => t.1 = s.1 ∧ t.2.1 = s.2.1 ∧ (∀ k, k ≠ 1 → k ≠ 2 → t.ar k = s.ar k) ∧ (∀ i, ¬ (4096 * a ≤ i ∧ i < 4096 * a + j) → t.ar 1 i = s.ar 1 i ∧ t.ar 2 i = s.ar 2 i) ∧ ∀ k, k < j → t.ar 1 (4096 * a + k) = s.ar 1 (4096 * b + k) ∧ t.ar 2 (4096 * a + k) = s.ar 2 (4096 * b + k)) ⟨rfl, rfl, fun _ _ _ => rfl, fun _ _ => ⟨rfl, rfl⟩, fun k hk => absurd hk (Nat.not_lt_zero _)⟩ (fun j t hj hP => ?_)
  obtain ⟨h1, h2, h3, h4, h5⟩ := hP
  have r1 : ∀ i, (st_M_become a b j t).ar 1 i = if i = 4096 * a + j then t.ar 1 (4096 * b + j) else t.ar 1 i := fun i => by
    unfold st_M_become
    refine (congrFun (zuaj _ _ (by decide)) i).trans ((zua_at _ _ _ _).trans ?_)
    by_cases e : i = 4096 * a + j
    · rw [if_pos e, e, pk_us]
    · rw [if_neg e, pk_un e]
  have r2 : ∀ i, (st_M_become a b j t).ar 2 i = if i = 4096 * a + j then t.ar 2 (4096 * b + j) else t.ar 2 i := fun i => by
    unfold st_M_become
    refine (zua_at _ _ _ _).trans ?_
    by_cases e : i = 4096 * a + j
    · rw [if_pos e, e, pk_us]
    · rw [if_neg e, pk_un e]
  refine ⟨h1, h2, fun k k1 k2 => ((zuaj _ _ k2).trans (zuaj _ _ k1)).trans (h3 k k1 k2), fun i hi => ?_, fun k hk => ?_⟩
  · rw [r1, r2, if_neg (by omega), if_neg (by omega)]
    exact h4 i (by omega)
  · rw [r1, r2]
    by_cases e : k = j
    · subst e
      rw [if_pos rfl, if_pos rfl]
      exact h4 _ (by omega)
    · rw [if_neg (by omega), if_neg (by omega)]
      exact h5 k (by omega)
theorem zset1_id (s : zU) (f : Nat → Int32) : zua (zua s 1 (s.ar 1)) 2 f = zua s 2 f := by
  have e : va_up s.2.2 1 (s.2.2 1) = s.2.2 := by
    funext k
    by_cases q : k = 1
    · rw [q, va_up_self]
    · rw [va_up_ne _ _ q]
  unfold zua
  show (s.1, s.2.1, va_up (va_up s.2.2 1 (s.2.2 1)) 2 f) = _
  rw [e]
theorem zupd_id (f : Nat → Int32) (i : Nat) : upd f i (f i) = f := by
  funext k
  by_cases q : k = i
  · rw [q, pk_us]
  · rw [pk_un q]
/-- a cell whose origin is pending is claimed by commit cm -/
def zclo (cm : Nat) (o : Int32) : Int32 := if o < 98304 then o else nI (4096 * cm) + (o - o / 4096 * 4096)
theorem zcl_st (p cm j : Nat) (s : zU) : st_M_commit p cm j s = zset1 s p j (s.ar 1 (4096 * (24 + p) + j)) (zclo cm (s.ar 2 (4096 * (24 + p) + j))) := by
  unfold st_M_commit zclo zset1
  rw [zupd_id, zset1_id]
  by_cases h : s.ar 2 (4096 * (24 + p) + j) < 98304
  · rw [if_pos h, if_pos h, zupd_id]
    have e : va_up s.2.2 2 (s.2.2 2) = s.2.2 := by
      funext k
      by_cases q : k = 2
      · rw [q, va_up_self]
      · rw [va_up_ne _ _ q]
    show s = (s.1, s.2.1, va_up s.2.2 2 (s.2.2 2))
    rw [e]
  · rw [if_neg h, if_neg h]
/-- what claimPending leaves -/
def zclS (cm : Nat) (c : Int64) : Int64 := if s_S_originCommitOf c = 24 then s_S_cellOf (s_S_valueOf c) (s_S_originOf (nI cm) (s_S_originIndexOf c)) else c
theorem zcl_eq {v o : Int32} (h : zvo v o) {cm : Nat} (hm : cm < 24) : zvo v (zclo cm o) ∧ zclS cm (zcell v o) = zcell v (zclo cm o) := by
  rcases h with ⟨h1, h2⟩ | ⟨h1, k, h2, h3⟩
  · subst h1 h2
    have e1 : zclo cm (-1) = (-1) := if_pos (by decide)
    rw [e1]
    refine ⟨Or.inl ⟨rfl, rfl⟩, ?_⟩
    unfold zclS
    rw [zcell_E, zoc_E, if_neg (by decide)]
  · subst h2
    have e98 : (nI k < 98304) ↔ k < 98304 := by
      rw [show (98304 : Int32) = nI 98304 from rfl]
      exact nI_ltI (by omega) (by omega)
    have e24 : ¬ k / 4096 = 24 → ¬ nI (k / 4096) = 24 := fun q e => q ((nI_eq (a := k / 4096) (b := 24) (by omega) (by omega)).mp e)
    unfold zclo zclS
    rw [zoc_N h1 h3, zc_val (Or.inr ⟨h1, k, rfl, h3⟩), zoi_N h1 h3]
    by_cases q : k < 98304
    · rw [if_pos (e98.mpr q), if_neg (e24 (by omega))]
      exact ⟨Or.inr ⟨h1, k, rfl, h3⟩, rfl⟩
    · rw [if_neg (fun e => q (e98.mp e)), if_pos (by rw [show k / 4096 = 24 by omega]; rfl), zoo (by omega) (by omega)]
      rw [show (4096 : Int32) = nI 4096 from rfl, pk_rem (by omega) (by decide) (by decide), nI_add]
      refine ⟨Or.inr ⟨h1, _, rfl, by omega⟩, ?_⟩
      unfold zcell
      rw [if_neg h1]
theorem zEe.claim {b : Nat} {u t : zU} {f : Nat → Int64} (h : zEe b u t f) (hb : b < 4) {i : Nat} (hi : i < 4096) {cm : Nat} (hm : cm < 24) : zEe b u (st_M_commit b cm i t) (vp_updL f i (zclS cm (f i))) := by
  have hv : zvo (t.ar 1 (4096 * (24 + b) + i)) (t.ar 2 (4096 * (24 + b) + i)) := h.1.2.2.2 _ (by omega)
  obtain ⟨q1, q2⟩ := zcl_eq hv hm
  rw [zcl_st, h.2 i hi, q2]
  exact h.put hi q1
theorem zRc.c {w w2 : zW} {u u2 : zU} {cm : Nat} (h : zRc w u cm) (hi2 : w2.i 0 2 = w.i 0 2) (hi : w2.i 1 = w.i 1 ∧ w2.i 2 = w.i 2 ∧ w2.i 3 = w.i 3) (ho : w2.o 1 = w.o 1) (hf : w2.f 2 = w.f 2) (h6 : u2.i 6 = u.i 6) (ha : u2.ar 1 = u.ar 1 ∧ u2.ar 2 = u.ar 2 ∧ u2.ar 4 = u.ar 4 ∧ u2.ar 5 = u.ar 5) : zRc w2 u2 cm := by
  obtain ⟨c1, c2, c3, c4, c5, c6, c7⟩ := h
  unfold zRc zCr
  rw [h6, hi2, hi.1, hi.2.1, hi.2.2, ho, hf, ha.1, ha.2.1, ha.2.2.1, ha.2.2.2]
  exact ⟨c1, c2, c3.u (fun c _ => by rw [ha.2.2.1]) (fun c _ => by rw [ha.2.2.2]), c4, c5, c6, c7⟩
theorem zRt.c {w w2 : zW} {u u2 : zU} {cm b : Nat} (h : zRt w u cm b) (hi : ∀ k, 5 ≤ k → k < 9 → w2.i k b = w.i k b) (ho : w2.o 5 b = w.o 5 b) (hf : w2.f 4 b = w.f 4 b) (hn : ∀ j, 10 ≤ j → j < 15 → w2.n j b = w.n j b) (ha : ∀ j, j = 8 ∨ j = 9 ∨ j = 14 → u2.ar j b = u.ar j b) (hc : ∀ k, k < 4096 → u2.ar 1 (4096 * (24 + b) + k) = u.ar 1 (4096 * (24 + b) + k) ∧ u2.ar 2 (4096 * (24 + b) + k) = u.ar 2 (4096 * (24 + b) + k)) (hk : ∀ j, (j = 10 ∨ j = 11 ∨ j = 12 ∨ j = 13 ∨ j = 15) → ∀ k, k < 4096 → u2.ar j (4096 * b + k) = u.ar j (4096 * b + k)) : zRt w2 u2 cm b := by
  obtain ⟨t1, t2, t3, t4, t5⟩ := h
  refine ⟨by rw [hi 5 (by omega) (by omega), ha 8 (by omega)]; exact t1, by rw [hi 6 (by omega) (by omega), ha 9 (by omega)]; exact t2, by rw [ha 8 (by omega), ha 9 (by omega)]; exact t3, by rw [hf]; exact t4.u hc, t5.u ho ⟨hi 7 (by omega) (by omega), hi 8 (by omega) (by omega)⟩ hn (ha 14 (by omega)) hk⟩
theorem zRb.c {w w2 : zW} {u u2 : zU} {cm b : Nat} (h : zRb w u cm b) (hi : ∀ k, 4 ≤ k → k < 9 → w2.i k b = w.i k b) (h3 : w2.o 3 b = w.o 3 b) (ho : w2.o 5 b = w.o 5 b) (hf : w2.f 4 b = w.f 4 b) (hn : ∀ j, 10 ≤ j → j < 15 → w2.n j b = w.n j b) (ha : ∀ j, j = 7 ∨ j = 8 ∨ j = 9 ∨ j = 14 → u2.ar j b = u.ar j b) (hc : ∀ k, k < 4096 → u2.ar 1 (4096 * (24 + b) + k) = u.ar 1 (4096 * (24 + b) + k) ∧ u2.ar 2 (4096 * (24 + b) + k) = u.ar 2 (4096 * (24 + b) + k)) (hk : ∀ j, (j = 10 ∨ j = 11 ∨ j = 12 ∨ j = 13 ∨ j = 15) → ∀ k, k < 4096 → u2.ar j (4096 * b + k) = u.ar j (4096 * b + k)) : zRb w2 u2 cm b := by
  obtain ⟨b1, b2, b3, b4, b5⟩ := h
  unfold zRb
  rw [ha 7 (by omega), ha 14 (by omega), h3, hi 4 (by omega) (by omega)]
  exact ⟨b1, b2, b3, b4, fun h9 => (b5 h9).c (fun k k1 k2 => hi k (by omega) k2) ho hf hn (fun j hj => ha j (by omega)) hc hk⟩
theorem zRt.m {w : zW} {u : zU} {cm cm2 b : Nat} (h : zRt w u cm b) (hm : cm ≤ cm2) : zRt w u cm2 b := by
  obtain ⟨t1, t2, ⟨hd, t3, t4, t5⟩, t6⟩ := h
  refine ⟨t1, t2, ⟨hd, t3, by omega, ?_⟩, t6⟩
  rcases t5 with t5 | ⟨c, c1, c2, c3⟩
  · exact Or.inl t5
  · exact Or.inr ⟨c, c1, by omega, c3⟩
theorem zRb.m {w : zW} {u : zU} {cm cm2 b : Nat} (h : zRb w u cm b) (hm : cm ≤ cm2) : zRb w u cm2 b := ⟨h.1, h.2.1, h.2.2.1, h.2.2.2.1, fun h9 => (h.2.2.2.2 h9).m hm⟩
/-- kind -/
theorem zRl.kind {w : zW} {u : zU} {cm l t : Nat} (h : zRl w u cm) (ht : t < 4) : zRl (zWn w 9 0 (upd (w.n 9 0) l (nI t))) (zua (zuc u 0 0) 3 (upd (u.ar 3) l (nI t))) cm := by
  obtain ⟨h1, h2, h3, h4⟩ := h.ue (zUe.c0 u 0)
  have a : ∀ j, j ≠ 3 → (zua (zuc u 0 0) 3 (upd (u.ar 3) l (nI t))).ar j = u.ar j := fun j hj => zuaj _ _ hj
  refine ⟨h1.c rfl ⟨rfl, rfl, rfl⟩ rfl rfl rfl ⟨a 1 (by decide), a 2 (by decide), a 4 (by decide), a 5 (by decide)⟩, fun b hb => ?_, ?_, ?_⟩
  · exact (h2 b hb).c (fun _ _ _ => rfl) rfl rfl rfl (fun j j1 j2 => zud_n (by omega)) (fun j hj => by rw [a j (by omega)]; rfl) (fun k hk => by rw [a 1 (by decide), a 2 (by decide)]; exact ⟨rfl, rfl⟩) (fun j hj k hk => by rw [a j (by omega)]; rfl)
  · obtain ⟨s1, s2, s3, s4, s5⟩ := h3
    refine ⟨s1, s2, fun k hk => ?_, ?_, ?_⟩
    · show zud w.n 9 0 (upd (w.n 9 0) l (nI t)) 9 0 k = (zua (zuc u 0 0) 3 (upd (u.ar 3) l (nI t))).2.2 3 k ∧ ∃ t9, t9 < 4 ∧ (zua (zuc u 0 0) 3 (upd (u.ar 3) l (nI t))).2.2 3 k = nI t9
      rw [zud_s, zuas]
      by_cases e : k = l
      · rw [e, pk_us, pk_us]
        exact ⟨rfl, t, ht, rfl⟩
      · rw [pk_un e, pk_un e]
        exact s3 k hk
    · rw [a 20 (by decide), a 21 (by decide)]
      show ∀ k, k < 6 → zud w.n 9 0 (upd (w.n 9 0) l (nI t)) 9 8 k = _ ∧ zud w.n 9 0 (upd (w.n 9 0) l (nI t)) 9 9 k = _ ∧ _
      rw [zud_n (by omega), zud_n (by omega)]
      exact s4
    · rw [a 22 (by decide), a 23 (by decide)]
      show ∀ k, k < 8 → zud w.n 9 0 (upd (w.n 9 0) l (nI t)) 9 10 k = _ ∧ zud w.n 9 0 (upd (w.n 9 0) l (nI t)) 9 11 k = _
      rw [zud_n (by omega), zud_n (by omega)]
      exact s5
  · unfold zIv
    rw [a 1 (by decide), a 2 (by decide)]
    exact h4
/-- drop -/
theorem zRl.drop {w : zW} {u : zU} {cm b : Nat} (h : zRl w u cm) (hb : b < 4) : zRl (zW3 w b 0 (w.i 5 b) (w.i 6 b)) (zua (zuc u 0 0) 7 (upd (u.ar 7) b 0)) cm := by
  obtain ⟨h1, h2, h3, h4⟩ := h.ue (zUe.c0 u 0)
  have a : ∀ j, j ≠ 7 → (zua (zuc u 0 0) 7 (upd (u.ar 7) b 0)).ar j = u.ar j := fun j hj => zuaj _ _ hj
  have a7 : (zua (zuc u 0 0) 7 (upd (u.ar 7) b 0)).ar 7 = upd (u.ar 7) b 0 := zuas _ _ _
  have k0 : ∀ k, ¬ (4 ≤ k ∧ k ≤ 6) → (zW3 w b 0 (w.i 5 b) (w.i 6 b)).i k = w.i k := fun k hk => funext fun j => zW3_n w _ _ _ (by omega)
  refine ⟨h1.c (by rw [k0 0 (by omega)]) ⟨k0 1 (by omega), k0 2 (by omega), k0 3 (by omega)⟩ rfl rfl rfl ⟨a 1 (by decide), a 2 (by decide), a 4 (by decide), a 5 (by decide)⟩, fun c hc => ?_, h3.u (k0 0 (by omega)) rfl (fun _ _ => rfl) (fun j hj => a j (by omega)), ?_⟩
  · by_cases e : c = b
    · subst e
      obtain ⟨b1, b2, b3, b4, b5⟩ := h2 c hc
      unfold zRb
      rw [a7, pk_us, a 14 (by decide)]
      exact ⟨Or.inl rfl, fun _ => rfl, fun q hq => zW3_4 w c _ _ _, b4, fun h9 => absurd rfl h9⟩
    · refine (h2 c hc).c (fun k k1 k2 => zW3_n w _ _ _ (by omega)) rfl rfl rfl (fun _ _ _ => rfl) (fun j hj => ?_) (fun k hk => by rw [a 1 (by decide), a 2 (by decide)]; exact ⟨rfl, rfl⟩) (fun j hj k hk => by rw [a j (by omega)]; rfl)
      by_cases j7 : j = 7
      · subst j7; rw [a7, pk_un e]; rfl
      · rw [a j j7]; rfl
  · unfold zIv
    rw [a 1 (by decide), a 2 (by decide)]
    exact h4
/-- region -/
theorem zRl.region {w : zW} {u u2 : zU} {x : Nat → Int32} {cm lf tp wd hg : Nat} (h : zRl w u cm) (hx2 : x 2 = w.i 0 2) (hx : ∀ j, 4 ≤ j → j < 8 → x j = u2.i (12 + j)) (hi : ∀ j, j ≠ 0 → j < 16 → u2.i j = u.i j) (ha : u2.2.2 = u.2.2) (r1 : u2.i 16 = nI lf) (r2 : u2.i 17 = nI tp) (r3 : u2.i 18 = nI wd) (r4 : u2.i 19 = nI hg) (r5 : lf + wd ≤ 32) (r6 : tp + hg ≤ 32) (r7 : 1 ≤ wd) (r8 : 1 ≤ hg) : zRl (zW0 w x) u2 cm := by
  obtain ⟨h1, h2, h3, h4⟩ := h
  have k0 : ∀ k, k ≠ 0 → (zW0 w x).i k = w.i k := fun k hk => va_up_ne w.i x hk
  have k1 : (zW0 w x).i 0 = x := va_up_self w.i 0 x
  have a : ∀ j, u2.ar j = u.ar j := fun j => congrFun ha j
  refine ⟨h1.c (by rw [k1]; exact hx2) ⟨k0 1 (by decide), k0 2 (by decide), k0 3 (by decide)⟩ rfl rfl (hi 6 (by decide) (by decide)) ⟨a 1, a 2, a 4, a 5⟩, fun b hb => (h2 b hb).c (fun k k9 _ => by rw [k0 k (by omega)]) rfl rfl rfl (fun _ _ _ => rfl) (fun j _ => by rw [a j]) (fun k hk => by rw [a 1, a 2]; exact ⟨rfl, rfl⟩) (fun j _ k _ => by rw [a j]), ?_, ?_⟩
  · obtain ⟨s1, s2, s3, s4, s5⟩ := h3
    refine ⟨⟨lf, tp, wd, hg, r1, r2, r3, r4, r5, r6, r7, r8⟩, by rw [k1]; exact hx, ?_, ?_, ?_⟩
    · rw [a 3]; exact s3
    · rw [a 20, a 21]; exact s4
    · rw [a 22, a 23]; exact s5
  · unfold zIv
    rw [a 1, a 2]
    exact h4
/-- two of the store's small rows -/
theorem zRl.corner {w : zW} {u : zU} {cm l s t : Nat} (h : zRl w u cm) (hs : s ≤ 32) (ht : t ≤ 32) : zRl (zWn (zWn w 9 8 (upd (w.n 9 8) l (nI s))) 9 9 (upd (w.n 9 9) l (nI t))) (zua (zua (zuc u 0 0) 20 (upd (u.ar 20) l (nI s))) 21 (upd (u.ar 21) l (nI t))) cm := by
  obtain ⟨h1, h2, h3, h4⟩ := h.ue (zUe.c0 u 0)
  have a : ∀ j, j ≠ 20 → j ≠ 21 → (zua (zua (zuc u 0 0) 20 (upd (u.ar 20) l (nI s))) 21 (upd (u.ar 21) l (nI t))).ar j = u.ar j := fun j h1 h2 => (zuaj _ _ h2).trans (zuaj _ _ h1)
  have a20 : (zua (zua (zuc u 0 0) 20 (upd (u.ar 20) l (nI s))) 21 (upd (u.ar 21) l (nI t))).ar 20 = upd (u.ar 20) l (nI s) := (zuaj _ _ (by decide)).trans (zuas _ _ _)
  have a21 : (zua (zua (zuc u 0 0) 20 (upd (u.ar 20) l (nI s))) 21 (upd (u.ar 21) l (nI t))).ar 21 = upd (u.ar 21) l (nI t) := zuas _ _ _
  have n9 : ∀ k, k ≠ 8 → k ≠ 9 → zud (zud w.n 9 8 (upd (w.n 9 8) l (nI s))) 9 9 (upd (w.n 9 9) l (nI t)) 9 k = w.n 9 k := fun k h1 h2 => by rw [zud_n (by omega), zud_n (by omega)]
  refine ⟨h1.c rfl ⟨rfl, rfl, rfl⟩ rfl rfl rfl ⟨a 1 (by decide) (by decide), a 2 (by decide) (by decide), a 4 (by decide) (by decide), a 5 (by decide) (by decide)⟩, fun b hb => ?_, ?_, ?_⟩
  · exact (h2 b hb).c (fun _ _ _ => rfl) rfl rfl rfl (fun j j1 j2 => (zud_n (by omega)).trans (zud_n (by omega))) (fun j hj => by rw [a j (by omega) (by omega)]; rfl) (fun k hk => by rw [a 1 (by decide) (by decide), a 2 (by decide) (by decide)]; exact ⟨rfl, rfl⟩) (fun j hj k hk => by rw [a j (by omega) (by omega)]; rfl)
  · obtain ⟨s1, s2, s3, s4, s5⟩ := h3
    refine ⟨s1, s2, ?_, fun k hk => ?_, ?_⟩
    · rw [a 3 (by decide) (by decide)]
      show ∀ k, k < 4 → zud (zud w.n 9 8 (upd (w.n 9 8) l (nI s))) 9 9 (upd (w.n 9 9) l (nI t)) 9 0 k = _ ∧ _
      rw [n9 0 (by decide) (by decide)]
      exact s3
    · show zud (zud w.n 9 8 (upd (w.n 9 8) l (nI s))) 9 9 (upd (w.n 9 9) l (nI t)) 9 8 k = _ ∧ zud (zud w.n 9 8 (upd (w.n 9 8) l (nI s))) 9 9 (upd (w.n 9 9) l (nI t)) 9 9 k = _ ∧ _
      rw [zud_n (by omega), zud_s, zud_s, a20, a21]
      by_cases e : k = l
      · rw [e, pk_us, pk_us, pk_us, pk_us]
        exact ⟨rfl, rfl, s, t, hs, ht, rfl, rfl⟩
      · rw [pk_un e, pk_un e, pk_un e, pk_un e]
        exact s4 k hk
    · rw [a 22 (by decide) (by decide), a 23 (by decide) (by decide)]
      show ∀ k, k < 8 → zud (zud w.n 9 8 (upd (w.n 9 8) l (nI s))) 9 9 (upd (w.n 9 9) l (nI t)) 9 10 k = _ ∧ zud (zud w.n 9 8 (upd (w.n 9 8) l (nI s))) 9 9 (upd (w.n 9 9) l (nI t)) 9 11 k = _
      rw [n9 10 (by decide) (by decide), n9 11 (by decide) (by decide)]
      exact s5
  · unfold zIv
    rw [a 1 (by decide) (by decide), a 2 (by decide) (by decide)]
    exact h4
theorem zRl.entry {w : zW} {u : zU} {cm l : Nat} {s t : Int32} (h : zRl w u cm) : zRl (zWn (zWn w 9 10 (upd (w.n 9 10) l s)) 9 11 (upd (w.n 9 11) l t)) (zua (zua (zuc u 0 0) 22 (upd (u.ar 22) l s)) 23 (upd (u.ar 23) l t)) cm := by
  obtain ⟨h1, h2, h3, h4⟩ := h.ue (zUe.c0 u 0)
  have a : ∀ j, j ≠ 22 → j ≠ 23 → (zua (zua (zuc u 0 0) 22 (upd (u.ar 22) l s)) 23 (upd (u.ar 23) l t)).ar j = u.ar j := fun j h1 h2 => (zuaj _ _ h2).trans (zuaj _ _ h1)
  have a20 : (zua (zua (zuc u 0 0) 22 (upd (u.ar 22) l s)) 23 (upd (u.ar 23) l t)).ar 22 = upd (u.ar 22) l s := (zuaj _ _ (by decide)).trans (zuas _ _ _)
  have a21 : (zua (zua (zuc u 0 0) 22 (upd (u.ar 22) l s)) 23 (upd (u.ar 23) l t)).ar 23 = upd (u.ar 23) l t := zuas _ _ _
  have n9 : ∀ k, k ≠ 10 → k ≠ 11 → zud (zud w.n 9 10 (upd (w.n 9 10) l s)) 9 11 (upd (w.n 9 11) l t) 9 k = w.n 9 k := fun k h1 h2 => by rw [zud_n (by omega), zud_n (by omega)]
  refine ⟨h1.c rfl ⟨rfl, rfl, rfl⟩ rfl rfl rfl ⟨a 1 (by decide) (by decide), a 2 (by decide) (by decide), a 4 (by decide) (by decide), a 5 (by decide) (by decide)⟩, fun b hb => ?_, ?_, ?_⟩
  · exact (h2 b hb).c (fun _ _ _ => rfl) rfl rfl rfl (fun j j1 j2 => (zud_n (by omega)).trans (zud_n (by omega))) (fun j hj => by rw [a j (by omega) (by omega)]; rfl) (fun k hk => by rw [a 1 (by decide) (by decide), a 2 (by decide) (by decide)]; exact ⟨rfl, rfl⟩) (fun j hj k hk => by rw [a j (by omega) (by omega)]; rfl)
  · obtain ⟨s1, s2, s3, s4, s5⟩ := h3
    refine ⟨s1, s2, ?_, ?_, fun k hk => ?_⟩
    · rw [a 3 (by decide) (by decide)]
      show ∀ k, k < 4 → zud (zud w.n 9 10 (upd (w.n 9 10) l s)) 9 11 (upd (w.n 9 11) l t) 9 0 k = _ ∧ _
      rw [n9 0 (by decide) (by decide)]
      exact s3
    · rw [a 20 (by decide) (by decide), a 21 (by decide) (by decide)]
      show ∀ k, k < 6 → zud (zud w.n 9 10 (upd (w.n 9 10) l s)) 9 11 (upd (w.n 9 11) l t) 9 8 k = _ ∧ zud (zud w.n 9 10 (upd (w.n 9 10) l s)) 9 11 (upd (w.n 9 11) l t) 9 9 k = _ ∧ _
      rw [n9 8 (by decide) (by decide), n9 9 (by decide) (by decide)]
      exact s4
    · show zud (zud w.n 9 10 (upd (w.n 9 10) l s)) 9 11 (upd (w.n 9 11) l t) 9 10 k = _ ∧ zud (zud w.n 9 10 (upd (w.n 9 10) l s)) 9 11 (upd (w.n 9 11) l t) 9 11 k = _
      rw [zud_n (by omega), zud_s, zud_s, a20, a21]
      by_cases e : k = l
      · rw [e, pk_us, pk_us, pk_us, pk_us]
        exact ⟨rfl, rfl⟩
      · rw [pk_un e, pk_un e, pk_un e, pk_un e]
        exact s5 k hk
  · unfold zIv
    rw [a 1 (by decide) (by decide), a 2 (by decide) (by decide)]
    exact h4
