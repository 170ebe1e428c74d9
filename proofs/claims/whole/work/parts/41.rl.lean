/-! how the class's state and the reference's belong together -/
/-- commits -/
def zRc (w : zW) (u : zU) (cm : Nat) : Prop := u.i 6 = nI cm ∧ w.i 0 2 = nI cm ∧ zHi u cm (w.i 3) ∧ (∀ c, c < 24 → (w.o 1 c = none ↔ cm ≤ c)) ∧ u.ar 4 0 = (-1) ∧ u.ar 5 0 = (-1) ∧ ∀ c, c < cm → w.i 1 c = u.ar 4 c ∧ w.i 2 c = u.ar 5 c ∧ zCr (w.f 2 c) u c
/-- conflicts of a branch that is there -/
def zRk (w : zW) (u : zU) (b : Nat) : Prop := ∃ e, e ≤ 4096 ∧ u.ar 14 b = nI e ∧ (w.o 5 b = none → e = 0) ∧ ∀ q, w.o 5 b = some q → w.i 7 b = nI e ∧ w.i 8 b = zfor e (st_M_unsettled u b) 0 ∧
  ∀ k, k < e → w.n 10 b k = u.ar 10 (4096 * b + k) ∧ (∃ ct, ct < 4096 ∧ u.ar 10 (4096 * b + k) = nI ct) ∧ w.n 11 b k = u.ar 11 (4096 * b + k) ∧ w.n 12 b k = u.ar 12 (4096 * b + k) ∧ w.n 13 b k = u.ar 13 (4096 * b + k) ∧ w.n 14 b k = u.ar 15 (4096 * b + k) ∧ (u.ar 15 (4096 * b + k) = 0 ∨ u.ar 15 (4096 * b + k) = 1)
/-- a branch that is there -/
def zRt (w : zW) (u : zU) (cm b : Nat) : Prop := w.i 5 b = u.ar 8 b ∧ w.i 6 b = u.ar 9 b ∧ (∃ h, u.ar 8 b = nI h ∧ h < cm ∧ (u.ar 9 b = (-1) ∨ ∃ c, u.ar 9 b = nI c ∧ c < cm ∧ c ≠ h)) ∧ zCr (w.f 4 b) u (24 + b) ∧ zRk w u b
def zRb (w : zW) (u : zU) (cm b : Nat) : Prop := (u.ar 7 b = 0 ∨ u.ar 7 b = 1) ∧ (w.o 3 b = none → u.ar 7 b = 0) ∧ (∀ q, w.o 3 b = some q → w.i 4 b = u.ar 7 b) ∧ (∃ e, u.ar 14 b = nI e ∧ e ≤ 4096) ∧ (¬ u.ar 7 b = 0 → zRt w u cm b)
/-- the region, kinds, corners, entries -/
def zRs (w : zW) (u : zU) : Prop := (∃ lf tp wd hg, u.i 16 = nI lf ∧ u.i 17 = nI tp ∧ u.i 18 = nI wd ∧ u.i 19 = nI hg ∧ lf + wd ≤ 32 ∧ tp + hg ≤ 32 ∧ 1 ≤ wd ∧ 1 ≤ hg) ∧ (∀ j, 4 ≤ j → j < 8 → w.i 0 j = u.i (12 + j)) ∧
  (∀ k, k < 4 → w.n 9 0 k = u.ar 3 k ∧ ∃ t, t < 4 ∧ u.ar 3 k = nI t) ∧ (∀ k, k < 6 → w.n 9 8 k = u.ar 20 k ∧ w.n 9 9 k = u.ar 21 k ∧ ∃ a b, a ≤ 32 ∧ b ≤ 32 ∧ u.ar 20 k = nI a ∧ u.ar 21 k = nI b) ∧ ∀ k, k < 8 → w.n 9 10 k = u.ar 22 k ∧ w.n 9 11 k = u.ar 23 k
def zRl (w : zW) (u : zU) (cm : Nat) : Prop := zRc w u cm ∧ (∀ b, b < 4 → zRb w u cm b) ∧ zRs w u ∧ zIv u
/-- the base rows that are there: those below wm -/
def zRw (w : zW) (wm : Nat) : Prop := wm ≤ 24 ∧ ∀ d, d < 24 → (w.o 6 d = none ↔ wm ≤ d)
/-- the reference's state but for what is only its own -/
def zUe (u u2 : zU) : Prop := (∀ j, j ≠ 0 → u2.i j = u.i j) ∧ ∀ j, j < 24 → u2.ar j = u.ar j
theorem zUe.rf (u : zU) : zUe u u := ⟨fun _ _ => rfl, fun _ _ => rfl⟩
theorem zUe.c0 (u : zU) (x : Int32) : zUe u (zuc u 0 x) := ⟨fun j hj => pk_un hj, fun _ _ => rfl⟩
theorem zHi.u {u u2 : zU} {cm : Nat} {A : Nat → Int32} (h : zHi u cm A) (h4 : ∀ c, c < cm → u2.ar 4 c = u.ar 4 c) (h5 : ∀ c, c < cm → u2.ar 5 c = u.ar 5 c) : zHi u2 cm A := by
  refine ⟨h.1, h.2.1, h.2.2.1, fun c c0 hc => ?_⟩
  rw [h4 c hc, h5 c hc]
  exact h.2.2.2 c c0 hc
theorem zCr.u {f : Nat → Int64} {u u2 : zU} {p : Nat} (h : zCr f u p) (h1 : ∀ k, k < 4096 → u2.ar 1 (4096 * p + k) = u.ar 1 (4096 * p + k) ∧ u2.ar 2 (4096 * p + k) = u.ar 2 (4096 * p + k)) : zCr f u2 p := fun k hk => by
  rw [(h1 k hk).1, (h1 k hk).2]
  exact h k hk
/-- the same but for the cells: at the place 24 + b and nowhere else -/
def zEd (b : Nat) (u t : zU) : Prop := (∀ j, j ≠ 0 → t.i j = u.i j) ∧ (∀ j, j < 24 → j ≠ 1 → j ≠ 2 → t.ar j = u.ar j) ∧ (∀ i, ¬ (4096 * (24 + b) ≤ i ∧ i < 4096 * (24 + b) + 4096) → t.ar 1 i = u.ar 1 i ∧ t.ar 2 i = u.ar 2 i) ∧ zIv t
theorem zRk.u {w w2 : zW} {u t : zU} {b : Nat} (h : zRk w u b) (ho : w2.o 5 b = w.o 5 b) (hi : w2.i 7 b = w.i 7 b ∧ w2.i 8 b = w.i 8 b) (hn : ∀ j, 10 ≤ j → j < 15 → w2.n j b = w.n j b) (h14 : t.ar 14 b = u.ar 14 b) (hu : ∀ j, (j = 10 ∨ j = 11 ∨ j = 12 ∨ j = 13 ∨ j = 15) → ∀ k, k < 4096 → t.ar j (4096 * b + k) = u.ar j (4096 * b + k)) : zRk w2 t b := by
  obtain ⟨e, e1, e2, e3, e4⟩ := h
  refine ⟨e, e1, h14.trans e2, fun h9 => e3 (ho ▸ h9), fun q hq => ?_⟩
  obtain ⟨a1, a2, a3⟩ := e4 q (ho ▸ hq)
  refine ⟨hi.1.trans a1, (hi.2.trans a2).trans ?_, fun k hk => ?_⟩
  · have key : ∀ n, n ≤ e → zfor n (st_M_unsettled u b) 0 = zfor n (st_M_unsettled t b) 0 := by
      intro n
      induction n with
      | zero => intro _; rfl
      | succ n ih =>
        intro hn9
        rw [zfor_s, zfor_s, ih (by omega)]
        unfold st_M_unsettled
        rw [hu 15 (by omega) n (by omega)]
    exact key e (Nat.le_refl _)
  · have hk9 : k < 4096 := by omega
    rw [hn 10 (by omega) (by omega), hn 11 (by omega) (by omega), hn 12 (by omega) (by omega), hn 13 (by omega) (by omega), hn 14 (by omega) (by omega), hu 10 (by omega) k hk9, hu 11 (by omega) k hk9, hu 12 (by omega) k hk9, hu 13 (by omega) k hk9, hu 15 (by omega) k hk9]
    exact a3 k hk
theorem zRs.u {w w2 : zW} {u t : zU} (h : zRs w u) (hi : w2.i 0 = w.i 0) (hn : w2.n 9 = w.n 9) (hu : ∀ j, j ≠ 0 → t.i j = u.i j) (ha : ∀ j, (j = 3 ∨ (20 ≤ j ∧ j < 24)) → t.ar j = u.ar j) : zRs w2 t := by
  obtain ⟨⟨lf, tp, wd, hg, a1, a2, a3, a4, a5⟩, h2, h3, h4, h5⟩ := h
  refine ⟨⟨lf, tp, wd, hg, (hu 16 (by decide)).trans a1, (hu 17 (by decide)).trans a2, (hu 18 (by decide)).trans a3, (hu 19 (by decide)).trans a4, a5⟩, fun j j1 j2 => ?_, ?_, ?_, ?_⟩
  · rw [hi, hu (12 + j) (by omega)]
    exact h2 j j1 j2
  · rw [hn, ha 3 (by omega)]; exact h3
  · rw [hn, ha 20 (by omega), ha 21 (by omega)]; exact h4
  · rw [hn, ha 22 (by omega), ha 23 (by omega)]; exact h5
theorem zRl.ed {w : zW} {u t : zU} {cm b : Nat} (h : zRl w u cm) (hb : b < 4) (he : zEd b u t) {f : Nat → Int64} (hf : zCr f t (24 + b)) : zRl (zWf w 4 b f) t cm := by
  obtain ⟨h1, h2, h3, h4⟩ := h
  obtain ⟨e1, e2, e3, e4⟩ := he
  have a4 := e2 4 (by decide) (by decide) (by decide)
  have a5 := e2 5 (by decide) (by decide) (by decide)
  have a7 := e2 7 (by decide) (by decide) (by decide)
  have a8 := e2 8 (by decide) (by decide) (by decide)
  have a9 := e2 9 (by decide) (by decide) (by decide)
  have a14 := e2 14 (by decide) (by decide) (by decide)
  refine ⟨?_, fun c hc => ?_, h3.u rfl rfl e1 (fun j hj => e2 j (by omega) (by omega) (by omega)), e4⟩
  · obtain ⟨c1, c2, c3, c4, c5, c6, c7⟩ := h1
    refine ⟨(e1 6 (by decide)).trans c1, c2, c3.u (fun c _ => by rw [a4]) (fun c _ => by rw [a5]), c4, by rw [a4]; exact c5, by rw [a5]; exact c6, fun c hc => ?_⟩
    rw [a4, a5]
    have hcm := c3.2.1
    refine ⟨(c7 c hc).1, (c7 c hc).2.1, ?_⟩
    show zCr (zud w.f 4 b f 2 c) t c
    rw [zud_n (by omega)]
    exact (c7 c hc).2.2.u (fun k hk => e3 _ (by omega))
  · obtain ⟨b1, b2, b3, b4, b5⟩ := h2 c hc
    unfold zRb
    rw [a7, a14]
    refine ⟨b1, b2, b3, b4, fun h9 => ?_⟩
    obtain ⟨t1, t2, t3, t4, t5⟩ := b5 h9
    refine ⟨by rw [a8]; exact t1, by rw [a9]; exact t2, by rw [a8, a9]; exact t3, ?_, t5.u rfl ⟨rfl, rfl⟩ (fun _ _ _ => rfl) (by rw [a14]) (fun j hj k hk => by rw [e2 j (by omega) (by omega) (by omega)])⟩
    show zCr (zud w.f 4 b f 4 c) t (24 + c)
    by_cases e : c = b
    · subst e
      rw [zud_s]
      exact hf
    · rw [zud_n (by omega)]
      exact t4.u (fun k hk => e3 _ (by omega))
theorem zRl.ue {w : zW} {u t : zU} {cm : Nat} (h : zRl w u cm) (he : zUe u t) : zRl w t cm := by
  obtain ⟨h1, h2, h3, h4⟩ := h
  obtain ⟨e1, e2⟩ := he
  refine ⟨?_, fun c hc => ?_, h3.u rfl rfl e1 (fun j hj => e2 j (by omega)), ?_⟩
  · obtain ⟨c1, c2, c3, c4, c5, c6, c7⟩ := h1
    refine ⟨(e1 6 (by decide)).trans c1, c2, c3.u (fun c _ => by rw [e2 4 (by decide)]) (fun c _ => by rw [e2 5 (by decide)]), c4, by rw [e2 4 (by decide)]; exact c5, by rw [e2 5 (by decide)]; exact c6, fun c hc => ?_⟩
    rw [e2 4 (by decide), e2 5 (by decide)]
    exact ⟨(c7 c hc).1, (c7 c hc).2.1, (c7 c hc).2.2.u (fun k hk => by rw [e2 1 (by decide), e2 2 (by decide)]; exact ⟨rfl, rfl⟩)⟩
  · obtain ⟨b1, b2, b3, b4, b5⟩ := h2 c hc
    unfold zRb
    rw [e2 7 (by decide), e2 14 (by decide)]
    refine ⟨b1, b2, b3, b4, fun h9 => ?_⟩
    obtain ⟨t1, t2, t3, t4, t5⟩ := b5 h9
    exact ⟨by rw [e2 8 (by decide)]; exact t1, by rw [e2 9 (by decide)]; exact t2, by rw [e2 8 (by decide), e2 9 (by decide)]; exact t3, t4.u (fun k hk => by rw [e2 1 (by decide), e2 2 (by decide)]; exact ⟨rfl, rfl⟩), t5.u rfl ⟨rfl, rfl⟩ (fun _ _ _ => rfl) (by rw [e2 14 (by decide)]) (fun j hj k hk => by rw [e2 j (by omega)])⟩
  · unfold zIv
    rw [e2 1 (by decide), e2 2 (by decide)]
    exact h4
/-- a branch's cells while they are edited -/
def zEe (b : Nat) (u t : zU) (f : Nat → Int64) : Prop := zEd b u t ∧ zCr f t (24 + b)
theorem zEe.of {b : Nat} {u : zU} {f : Nat → Int64} (hI : zIv u) (hf : zCr f u (24 + b)) : zEe b u u f := ⟨⟨fun _ _ => rfl, fun _ _ _ _ => rfl, fun _ _ => ⟨rfl, rfl⟩, hI⟩, hf⟩
/-- a cell is written -/
def zset1 (t : zU) (b i : Nat) (v o : Int32) : zU := zua (zua t 1 (upd (t.ar 1) (4096 * (24 + b) + i) v)) 2 (upd (t.ar 2) (4096 * (24 + b) + i) o)
theorem zset1_1 (u : zU) (b c : Nat) (v o : Int32) (i : Nat) : (zset1 u b c v o).ar 1 i = if i = 4096 * (24 + b) + c then v else u.ar 1 i := by
  unfold zset1
  refine (congrFun (zuaj _ _ (by decide)) i).trans ((zua_at _ _ _ _).trans ?_)
  by_cases e : i = 4096 * (24 + b) + c
  · rw [if_pos e, e, pk_us]
  · rw [if_neg e, pk_un e]
theorem zset1_2 (u : zU) (b c : Nat) (v o : Int32) (i : Nat) : (zset1 u b c v o).ar 2 i = if i = 4096 * (24 + b) + c then o else u.ar 2 i := by
  unfold zset1
  refine (zua_at _ _ _ _).trans ?_
  by_cases e : i = 4096 * (24 + b) + c
  · rw [if_pos e, e, pk_us]
  · rw [if_neg e, pk_un e]
theorem zset1_n (u : zU) (b c : Nat) (v o : Int32) {j : Nat} (h1 : j ≠ 1) (h2 : j ≠ 2) : (zset1 u b c v o).ar j = u.ar j := by
  unfold zset1
  exact (zuaj _ _ h2).trans (zuaj _ _ h1)
theorem zEe.put {b : Nat} {u t : zU} {f : Nat → Int64} (h : zEe b u t f) {i : Nat} (hi : i < 4096) {v o : Int32} (ho : zvo v o) : zEe b u (zset1 t b i v o) (vp_updL f i (zcell v o)) := by
  obtain ⟨⟨h1, h2, h3, h4⟩, h5⟩ := h
  refine ⟨⟨h1, fun j j1 j2 j3 => (zset1_n _ _ _ _ _ j2 j3).trans (h2 j j1 j2 j3), fun k hk => ?_, fun k hk => ?_⟩, fun k hk => ?_⟩
  · rw [zset1_1, zset1_2, if_neg (by omega), if_neg (by omega)]
    exact h3 k hk
  · rw [zset1_1, zset1_2]
    by_cases e : k = 4096 * (24 + b) + i
    · rw [if_pos e, if_pos e]; exact ho
    · rw [if_neg e, if_neg e]; exact h4 k hk
  · rw [zset1_1, zset1_2]
    by_cases e : k = i
    · rw [if_pos (by omega), if_pos (by omega), e, pk_uLs]
    · rw [if_neg (by omega), if_neg (by omega), pk_uLn e]
      exact h5 k hk
theorem zgive_s (u : zU) (b c : Nat) (w : Int32) : zgive u b c w = zset1 u b c w (if w = (-2147483648) then (-1) else 98304 + nI c) := rfl
theorem zEe.give {b : Nat} {u t : zU} {f : Nat → Int64} (h : zEe b u t f) {i : Nat} (hi : i < 4096) (v : Int32) : zEe b u (zgive t b i v) (vp_updL f i (zcell v (nI (98304 + i)))) := by
  rw [zgive_s, ← zgive_o]
  exact h.put hi (zvo_give v hi)
theorem zEe.val {b : Nat} {u t : zU} {f : Nat → Int64} (h : zEe b u t f) (hb : b < 4) {i : Nat} (hi : i < 4096) : s_S_valueOf (f i) = t.ar 1 (4096 * (24 + b) + i) := h.2.val h.1.2.2.2 (by omega) hi
theorem zEe.rl {w : zW} {u t : zU} {cm b : Nat} {f : Nat → Int64} (h : zEe b u t f) (hR : zRl w u cm) (hb : b < 4) : zRl (zWf w 4 b f) t cm := hR.ed hb h.1 h.2
