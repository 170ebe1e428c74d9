/-! base rows -/
/-- the same but for the base rows from dp on -/
def zBk (dp : Nat) (w w2 : zW) : Prop := (∀ k, k ≠ 6 → w2.o k = w.o k) ∧ (∀ k, k ≠ 7 → w2.a k = w.a k) ∧ w2.i = w.i ∧ w2.f = w.f ∧ (∀ k, k ≠ 7 → w2.n k = w.n k) ∧ ∀ d, d < dp → w2.o 6 d = w.o 6 d ∧ w2.a 7 d = w.a 7 d ∧ w2.n 7 d = w.n 7 d
theorem zBk.rf (dp : Nat) (w : zW) : zBk dp w w := ⟨fun _ _ => rfl, fun _ _ => rfl, rfl, rfl, fun _ _ => rfl, fun _ _ => ⟨rfl, rfl, rfl⟩⟩
theorem zBk.tr {dp dq : Nat} {w w2 w3 : zW} (h : zBk dp w w2) (h2 : zBk dq w2 w3) (hd : dp ≤ dq) : zBk dp w w3 := by
  obtain ⟨a1, a2, a3, a4, a5, a6⟩ := h
  obtain ⟨b1, b2, b3, b4, b5, b6⟩ := h2
  exact ⟨fun k hk => (b1 k hk).trans (a1 k hk), fun k hk => (b2 k hk).trans (a2 k hk), b3.trans a3, b4.trans a4, fun k hk => (b5 k hk).trans (a5 k hk), fun d hd9 => ⟨(b6 d (by omega)).1.trans (a6 d hd9).1, (b6 d (by omega)).2.1.trans (a6 d hd9).2.1, (b6 d (by omega)).2.2.trans (a6 d hd9).2.2⟩⟩
theorem zBk.we {dp : Nat} {w w2 : zW} (h : zBk dp w w2) : zWe w w2 := by
  obtain ⟨a1, a2, a3, a4, a5, a6⟩ := h
  exact ⟨fun k _ => by rw [a3], a1 1 (by decide), a1 3 (by decide), a1 5 (by decide), a4, fun k hk => a5 k (by omega)⟩
theorem zBk.x {dp : Nat} {w w2 : zW} (h : zBk dp w w2) : w2.a 0 0 = w.a 0 0 := by rw [h.2.1 0 (by decide)]
/-- a row's values are written -/
theorem zHp.wr {w : zW} {G : zG} (h : zHp w G) {r q : Nat} (hq : w.o 6 r = some q) (g : Nat → Int32) : zHp (zWn w 7 r g) (zput G (w.a 7 r) (zI 4096 g)) := h.wn 7 r (zmp hq) g (congrArg (zI 4096) (zud_s _ _ _ _))
theorem zBk.wr (w : zW) (r : Nat) (g : Nat → Int32) : zBk r w (zWn w 7 r g) := ⟨fun _ _ => rfl, fun _ _ => rfl, rfl, rfl, fun k hk => zud_f hk, fun d hd => ⟨rfl, rfl, zud_n (by omega)⟩⟩
theorem zFr.wr {w : zW} {G : zG} {r q : Nat} (hq : w.o 6 r = some q) (g : Nat → Int32) : zFr w G (zWn w 7 r g) (zput G (w.a 7 r) (zI 4096 g)) := zFr.put 7 r (zmp hq) (zAd_n _ _ _ _) _ rfl
/-- what baseOf leaves: the row dp, its values bs -/
def zBp (dp : Nat) (w : zW) (wm2 : Nat) (bs : Nat → Int32) (G : zG) (v : Value) (G1 : zG) : Prop := ∃ w2 q, v = .ref q ∧ zHp w2 G1 ∧ zFr w G w2 G1 ∧ zBk dp w w2 ∧ w2.o 6 dp = some q ∧ zRw w2 wm2 ∧ ∀ k, k < 4096 → w2.n 7 dp k = bs k
theorem zbsm (V : Nat → Nat → Int32) (rec : Int32 → Nat → (Nat → Int32) × Nat) (W : Int32) (s : Int32 × (Nat → Int32) × Nat) : ∀ m n, n ≤ m → (zfor n (zbst V rec W) s).2.2 ≤ (zfor m (zbst V rec W) s).2.2 := by
  intro m
  induction m with
  | zero => intro n hn; rw [show n = 0 by omega]; exact Nat.le_refl _
  | succ m ih =>
    intro n hn
    by_cases e : n = m + 1
    · rw [e]; exact Nat.le_refl _
    · have h1 := ih n (by omega)
      rw [zfor_s]
      generalize zfor m (zbst V rec W) s = t at h1 ⊢
      have h2 : t.2.2 ≤ (zbst V rec W m t).2.2 := by
        unfold zbst
        by_cases b : zbt W m = true
        · rw [if_pos b]
          show t.2.2 ≤ if t.1 = 0 then t.2.2 else max t.2.2 ((rec t.1 m).2 + 1)
          by_cases c : t.1 = 0
          · rw [if_pos c]; exact Nat.le_refl _
          · rw [if_neg c]; exact Nat.le_max_left _ _
        · rw [if_neg b]; exact Nat.le_refl _
      exact Nat.le_trans h1 h2
