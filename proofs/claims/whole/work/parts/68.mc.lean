/-! a merge, one cell -/
/-- the same but for what a merge writes -/
def zMw (p : Nat) (w w2 : zW) : Prop := w2.o = w.o ∧ w2.a = w.a ∧ (∀ k b, ¬ (b = p ∧ (k = 7 ∨ k = 8)) → w2.i k b = w.i k b) ∧ (∀ a b, ¬ (a = 4 ∧ b = p) → w2.f a b = w.f a b) ∧ ∀ a b, ¬ (b = p ∧ 10 ≤ a ∧ a < 15) → w2.n a b = w.n a b
theorem zMw.rf (p : Nat) (w : zW) : zMw p w w := ⟨rfl, rfl, fun _ _ _ => rfl, fun _ _ _ => rfl, fun _ _ _ => rfl⟩
theorem zMw.tr {p : Nat} {w w2 w3 : zW} (h : zMw p w w2) (h2 : zMw p w2 w3) : zMw p w w3 := ⟨h2.1.trans h.1, h2.2.1.trans h.2.1, fun k b hb => (h2.2.2.1 k b hb).trans (h.2.2.1 k b hb), fun k b hb => (h2.2.2.2.1 k b hb).trans (h.2.2.2.1 k b hb), fun k b hb => (h2.2.2.2.2 k b hb).trans (h.2.2.2.2 k b hb)⟩
theorem zicf {a b c : Int32} (h : ¬ s_S_isConflict a b c = 0) : ¬ a = c ∧ ¬ b = c ∧ ¬ a = b := by
  unfold s_S_isConflict at h
  by_cases h1 : a = c
  · rw [if_pos h1] at h; exact absurd rfl h
  rw [if_neg h1] at h
  by_cases h2 : b = c
  · rw [if_pos h2] at h; exact absurd rfl h
  rw [if_neg h2] at h
  by_cases h3 : a = b
  · rw [if_pos h3] at h; exact absurd rfl h
  exact ⟨h1, h2, h3⟩
theorem zicf0 {a b c : Int32} (h : s_S_isConflict a b c = 0) : a = c ∨ b = c ∨ a = b := by
  unfold s_S_isConflict at h
  by_cases h1 : a = c
  · exact Or.inl h1
  rw [if_neg h1] at h
  by_cases h2 : b = c
  · exact Or.inr (Or.inl h2)
  rw [if_neg h2] at h
  by_cases h3 : a = b
  · exact Or.inr (Or.inr h3)
  rw [if_neg h3] at h
  exact absurd h (by decide)
section ZMC
variable {w : zW} {p c j e : Nat} {u s : zU}
/-- what the walk knows of the cell j -/
def zmk (w : zW) (p c j : Nat) (s : zU) : Prop := s_S_valueOf (w.f 4 p j) = s.ar 1 (4096 * (24 + p) + j) ∧ s_S_valueOf (w.f 2 c j) = s.ar 1 (4096 * c + j) ∧ w.n 7 0 j = s.ar 26 j ∧ w.n 9 0 (j / 1024) = s.ar 3 (j / 1024) ∧ w.f 4 p j = zcell (s.ar 1 (4096 * (24 + p) + j)) (s.ar 2 (4096 * (24 + p) + j)) ∧ w.f 2 c j = zcell (s.ar 1 (4096 * c + j)) (s.ar 2 (4096 * c + j)) ∧ zvo (s.ar 1 (4096 * (24 + p) + j)) (s.ar 2 (4096 * (24 + p) + j)) ∧ zvo (s.ar 1 (4096 * c + j)) (s.ar 2 (4096 * c + j))
theorem zmk_skip1 (hk : zmk w p c j s) (h1 : s_S_isConflict (s_S_valueOf (w.f 4 p j)) (s_S_valueOf (w.f 2 c j)) (w.n 7 0 j) = 0) (h2 : ¬ s_S_valueOf (w.f 4 p j) = w.n 7 0 j) : st_M_merge p c j s = s := by
  obtain ⟨a1, a2, a3, a4, a5, a6, -⟩ := hk
  rw [a1, a2, a3] at h1
  rw [a1, a3] at h2
  rw [zmg_eq]
  by_cases q : s.ar 1 (4096 * (24 + p) + j) = s.ar 1 (4096 * c + j)
  · rw [if_pos q]
  · rw [if_neg q]
    rcases zicf0 h1 with z | z | z
    · exact absurd z h2
    · rw [if_pos z]
    · exact absurd z q
theorem zmk_skip2 (hk : zmk w p c j s) (h2 : s_S_valueOf (w.f 4 p j) = s_S_valueOf (w.f 2 c j)) : st_M_merge p c j s = s := by
  obtain ⟨a1, a2, a3, a4, a5, a6, -⟩ := hk
  rw [a1, a2] at h2
  rw [zmg_eq, if_pos h2]
theorem zmk_take1 (hk : zmk w p c j s) (h1 : s_S_valueOf (w.f 4 p j) = w.n 7 0 j) (h2 : ¬ s_S_valueOf (w.f 4 p j) = s_S_valueOf (w.f 2 c j)) : st_M_merge p c j s = zset1 s p j (s.ar 1 (4096 * c + j)) (s.ar 2 (4096 * c + j)) := by
  obtain ⟨a1, a2, a3, a4, a5, a6, -⟩ := hk
  rw [a1, a2] at h2
  rw [a1, a3] at h1
  rw [zmg_eq, if_neg h2, if_neg (fun z => h2 (h1.trans z.symm)), if_pos h1]
theorem zmk_note (hk : zmk w p c j s) (h1 : ¬ s_S_isConflict (s_S_valueOf (w.f 4 p j)) (s_S_valueOf (w.f 2 c j)) (w.n 7 0 j) = 0) (h2 : w.n 9 0 (j / 1024) = 0) : st_M_merge p c j s = znote s p (nI j) (s_S_valueOf (w.f 4 p j)) (s_S_valueOf (w.f 2 c j)) (w.n 7 0 j) (s.ar 14 p).toNatClampNeg := by
  obtain ⟨a1, a2, a3, a4, a5, a6, -⟩ := hk
  obtain ⟨q1, q2, q3⟩ := zicf h1
  rw [a1, a3] at q1
  rw [a2, a3] at q2
  rw [a1, a2] at q3
  rw [a4] at h2
  rw [zmg_eq, if_neg q3, if_neg q2, if_neg q1, if_pos h2, a1, a2, a3]
theorem zmk_win (hk : zmk w p c j s) (h1 : ¬ s_S_isConflict (s_S_valueOf (w.f 4 p j)) (s_S_valueOf (w.f 2 c j)) (w.n 7 0 j) = 0) (h2 : ¬ w.n 9 0 (j / 1024) = 0) : (zow (w.n 9 0 (j / 1024)) (w.f 4 p j) (w.f 2 c j) = 0 ∧ st_M_merge p c j s = s) ∨ (¬ zow (w.n 9 0 (j / 1024)) (w.f 4 p j) (w.f 2 c j) = 0 ∧ st_M_merge p c j s = zset1 s p j (s.ar 1 (4096 * c + j)) (s.ar 2 (4096 * c + j))) := by
  obtain ⟨a1, a2, a3, a4, a5, a6, a7, a8⟩ := hk
  obtain ⟨q1, q2, q3⟩ := zicf h1
  rw [a1, a3] at q1
  rw [a2, a3] at q2
  rw [a1, a2] at q3
  rw [a4] at h2
  have hm := zmade (s := s) (i := 4096 * c + j) (j := 4096 * (24 + p) + j) a8 a7 (fun z => q3 z.symm)
  rw [← a5, ← a6] at hm
  rw [zmg_eq, if_neg q3, if_neg q2, if_neg q1, if_neg h2, a4]
  unfold zow
  rw [a1, a2]
  by_cases k1 : s.ar 3 (j / 1024) = 1
  · rw [if_pos k1]
    by_cases z : s.ar 1 (4096 * c + j) ≤ s.ar 1 (4096 * (24 + p) + j)
    · rw [if_pos z]
      refine Or.inl ⟨rfl, if_neg ?_⟩
      rintro (y | y | y)
      · exact Int32.not_lt.mpr z y.2
      · rw [k1] at y; exact absurd y.1 (by decide)
      · rw [k1] at y; exact absurd y.1 (by decide)
    · rw [if_neg z]
      exact Or.inr ⟨by decide, if_pos (Or.inl ⟨k1, Int32.not_le.mp z⟩)⟩
  rw [if_neg k1]
  by_cases k2 : s.ar 3 (j / 1024) = 2
  · rw [if_pos k2]
    by_cases z : s.ar 1 (4096 * (24 + p) + j) ≤ s.ar 1 (4096 * c + j)
    · rw [if_pos z]
      refine Or.inl ⟨rfl, if_neg ?_⟩
      rintro (y | y | y)
      · exact k1 y.1
      · exact Int32.not_lt.mpr z y.2
      · rw [k2] at y; exact absurd y.1 (by decide)
    · rw [if_neg z]
      exact Or.inr ⟨by decide, if_pos (Or.inr (Or.inl ⟨k2, Int32.not_le.mp z⟩))⟩
  rw [if_neg k2]
  by_cases k3 : s.ar 3 (j / 1024) = 3
  · rw [if_pos k3]
    by_cases z : s_S_originCommitOf (w.f 2 c j) ≤ s_S_originCommitOf (w.f 4 p j)
    · rw [if_pos z]
      refine Or.inl ⟨rfl, if_neg ?_⟩
      rintro (y | y | y)
      · exact k1 y.1
      · exact k2 y.1
      · exact y.2 (hm.mpr z)
    · rw [if_neg z]
      exact Or.inr ⟨by decide, if_pos (Or.inr (Or.inr ⟨k3, fun y => z (hm.mp y)⟩))⟩
  rw [if_neg k3]
  refine Or.inl ⟨rfl, if_neg ?_⟩
  rintro (y | y | y)
  · exact k1 y.1
  · exact k2 y.1
  · exact k3 y.1
/-- the row of the cells with one more cell taken -/
theorem zMw.take (w : zW) (p : Nat) (f : Nat → Int64) : zMw p w (zWf w 4 p f) := ⟨rfl, rfl, fun _ _ _ => rfl, fun a b h => zud_n h, fun _ _ _ => rfl⟩
/-- one more conflict -/
def zWad (w : zW) (p e : Nat) (c x y z : Int32) : zW := zW5 (zWn (zWn (zWn (zWn (zWn w 10 p (upd (w.n 10 p) e c)) 11 p (upd (w.n 11 p) e x)) 12 p (upd (w.n 12 p) e y)) 13 p (upd (w.n 13 p) e z)) 14 p (upd (w.n 14 p) e 0)) p (nI (e + 1)) (nI (e + 1))
theorem zWad_n (w : zW) (p e : Nat) (c x y z : Int32) : (fun k => (zWad w p e c x y z).n k p) = zNadd (fun k => w.n k p) e c x y z := by
  funext k
  unfold zNadd
  show zud (zud (zud (zud (zud w.n 10 p (upd (w.n 10 p) e c)) 11 p (upd (w.n 11 p) e x)) 12 p (upd (w.n 12 p) e y)) 13 p (upd (w.n 13 p) e z)) 14 p (upd (w.n 14 p) e 0) k p = _
  by_cases h14 : k = 14
  · subst h14
    rw [zud_s]; rfl
  rw [zud_n (fun q => h14 q.1)]
  by_cases h13 : k = 13
  · subst h13
    rw [zud_s]; rfl
  rw [zud_n (fun q => h13 q.1)]
  by_cases h12 : k = 12
  · subst h12
    rw [zud_s]; rfl
  rw [zud_n (fun q => h12 q.1)]
  by_cases h11 : k = 11
  · subst h11
    rw [zud_s]; rfl
  rw [zud_n (fun q => h11 q.1)]
  by_cases h10 : k = 10
  · subst h10
    rw [zud_s]; rfl
  rw [zud_n (fun q => h10 q.1), if_neg h10, if_neg h11, if_neg h12, if_neg h13, if_neg h14]
theorem zMw.add (w : zW) (p e : Nat) (c x y z : Int32) : zMw p w (zWad w p e c x y z) := by
  refine ⟨rfl, rfl, fun k b h => zW5_n _ _ _ (by omega), fun _ _ _ => rfl, fun a b h => ?_⟩
  show zud (zud (zud (zud (zud w.n 10 p (upd (w.n 10 p) e c)) 11 p (upd (w.n 11 p) e x)) 12 p (upd (w.n 12 p) e y)) 13 p (upd (w.n 13 p) e z)) 14 p (upd (w.n 14 p) e 0) a b = _
  rw [zud_n (by omega), zud_n (by omega), zud_n (by omega), zud_n (by omega), zud_n (by omega)]
theorem zHp.add {G : zG} (hH : zHp w G) {kq : Nat} (hk : w.o 5 p = some kq) (cc x y z : Int32) : zHp (zWad w p e cc x y z) (zput (zput (zput (zput (zput (zput G (w.a 10 p) (zI 4096 (upd (w.n 10 p) e cc))) (w.a 11 p) (zI 4096 (upd (w.n 11 p) e x))) (w.a 12 p) (zI 4096 (upd (w.n 12 p) e y))) (w.a 13 p) (zI 4096 (upd (w.n 13 p) e z))) (w.a 14 p) (zB 4096 (upd (w.n 14 p) e 0))) kq (zO 3 [.ref (w.a 10 p), .ref (w.a 11 p), .ref (w.a 12 p), .ref (w.a 13 p), .ref (w.a 14 p), .int (nI (e + 1)), .int (nI (e + 1))])) ∧ zFr w G (zWad w p e cc x y z) (zput (zput (zput (zput (zput (zput G (w.a 10 p) (zI 4096 (upd (w.n 10 p) e cc))) (w.a 11 p) (zI 4096 (upd (w.n 11 p) e x))) (w.a 12 p) (zI 4096 (upd (w.n 12 p) e y))) (w.a 13 p) (zI 4096 (upd (w.n 13 p) e z))) (w.a 14 p) (zB 4096 (upd (w.n 14 p) e 0))) kq (zO 3 [.ref (w.a 10 p), .ref (w.a 11 p), .ref (w.a 12 p), .ref (w.a 13 p), .ref (w.a 14 p), .int (nI (e + 1)), .int (nI (e + 1))])) := by
  have h1 := hH.wn 10 p (q := w.a 10 p) (zmp hk) (upd (w.n 10 p) e cc) (c := zI 4096 (upd (w.n 10 p) e cc)) (congrArg (zI 4096) (zud_s _ _ _ _))
  have h2 := h1.wn 11 p (q := w.a 11 p) (zmp hk) (upd (w.n 11 p) e x) (c := zI 4096 (upd (w.n 11 p) e x)) (congrArg (zI 4096) (zud_s _ _ _ _))
  have h3 := h2.wn 12 p (q := w.a 12 p) (zmp hk) (upd (w.n 12 p) e y) (c := zI 4096 (upd (w.n 12 p) e y)) (congrArg (zI 4096) (zud_s _ _ _ _))
  have h4 := h3.wn 13 p (q := w.a 13 p) (zmp hk) (upd (w.n 13 p) e z) (c := zI 4096 (upd (w.n 13 p) e z)) (congrArg (zI 4096) (zud_s _ _ _ _))
  have h5 := h4.wn 14 p (q := w.a 14 p) (zmp hk) (upd (w.n 14 p) e 0) (c := zB 4096 (upd (w.n 14 p) e 0)) (congrArg (zB 4096) (zud_s _ _ _ _))
  have h6 := h5.w5 (b := p) (q := kq) hk (nI (e + 1)) (nI (e + 1))
  refine ⟨h6, ?_⟩
  have f1 : zFr w G _ _ := zFr.put (w2 := zWn w 10 p (upd (w.n 10 p) e cc)) 10 p (q := w.a 10 p) (zmp hk) (zAd_n _ _ _ _) (zI 4096 (upd (w.n 10 p) e cc)) rfl
  have f2 := f1.tr (zFr.put (w2 := zWn (zWn w 10 p (upd (w.n 10 p) e cc)) 11 p (upd (w.n 11 p) e x)) 11 p (q := w.a 11 p) (zmp hk) (zAd_n _ _ _ _) (zI 4096 (upd (w.n 11 p) e x)) rfl)
  have f3 := f2.tr (zFr.put (w2 := zWn (zWn (zWn w 10 p (upd (w.n 10 p) e cc)) 11 p (upd (w.n 11 p) e x)) 12 p (upd (w.n 12 p) e y)) 12 p (q := w.a 12 p) (zmp hk) (zAd_n _ _ _ _) (zI 4096 (upd (w.n 12 p) e y)) rfl)
  have f4 := f3.tr (zFr.put (w2 := zWn (zWn (zWn (zWn w 10 p (upd (w.n 10 p) e cc)) 11 p (upd (w.n 11 p) e x)) 12 p (upd (w.n 12 p) e y)) 13 p (upd (w.n 13 p) e z)) 13 p (q := w.a 13 p) (zmp hk) (zAd_n _ _ _ _) (zI 4096 (upd (w.n 13 p) e z)) rfl)
  have f5 := f4.tr (zFr.put (w2 := zWn (zWn (zWn (zWn (zWn w 10 p (upd (w.n 10 p) e cc)) 11 p (upd (w.n 11 p) e x)) 12 p (upd (w.n 12 p) e y)) 13 p (upd (w.n 13 p) e z)) 14 p (upd (w.n 14 p) e 0)) 14 p (q := w.a 14 p) (zmp hk) (zAd_n _ _ _ _) (zB 4096 (upd (w.n 14 p) e 0)) rfl)
  exact f5.tr (zFr.put (w2 := zWad w p e cc x y z) 5 p (q := kq) hk rfl (zO 3 [.ref (w.a 10 p), .ref (w.a 11 p), .ref (w.a 12 p), .ref (w.a 13 p), .ref (w.a 14 p), .int (nI (e + 1)), .int (nI (e + 1))]) rfl)
end ZMC
