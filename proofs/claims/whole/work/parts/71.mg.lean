/-! merge: the pieces put together -/
def zFw (p : Nat) (w w2 : zW) : Prop := (∀ k j, ¬ (k = 5 ∧ j = p) → w2.o k j = w.o k j) ∧ (∀ k j, ¬ (10 ≤ k ∧ k < 15 ∧ j = p) → w2.a k j = w.a k j) ∧ (∀ k b, ¬ (b = p ∧ (k = 7 ∨ k = 8)) → w2.i k b = w.i k b) ∧ w2.f = w.f ∧ ∀ a b, ¬ (b = p ∧ 10 ≤ a ∧ a < 15) → w2.n a b = w.n a b
theorem c_fresh (g : zGt) (d : Nat) (hdd : 3 ≤ d) (G : zG) (w : zW) (p qb : Nat) (hH : zHp w G) (hq3 : w.o 3 p = some qb) : zMet g y_B_freshConflicts b_B_freshConflicts 1 (some (.object "SurveyStore$Conflicts")) [] d (if w.o 5 p = none then 6 else 0) (if w.o 5 p = none then 20487 else 0) [.ref qb] G (fun r G1 => ∃ v, r = .inl (some v) ∧ ∃ w2 kq, v = .ref kq ∧ zHp w2 G1 ∧ zFr w G w2 G1 ∧ w2.o 5 p = some kq ∧ w2.i 7 p = nI 0 ∧ w2.i 8 p = nI 0 ∧ zFw p w w2) := by
  cases hk : w.o 5 p with
  | none =>
    rw [if_pos rfl, if_pos rfl]
    refine (c_B_fresh_n g d (by omega) G qb (w.a 4 p) (w.i 4 p) (w.i 5 p) (w.i 6 p) (hH.bmn hq3 hk)).mono (fun r G1 h => ?_)
    obtain ⟨v, hr, kq, a0, a1, a2, a3, a4, hv, ⟨g0, g1, g2, g3, g4, g5⟩, hne, m0, m1, m2, m3, m4, m5, mq, mr⟩ := h
    obtain ⟨h2, f2⟩ := hH.nk p kq a0 a1 a2 a3 a4 g0 g1 g2 g3 g4 g5 hne hq3 m0 m1 m2 m3 m4 m5 mq mr
    exact ⟨v, hr, zWnk w p kq a0 a1 a2 a3 a4, kq, hv, h2, f2, zWnk_o0 w p kq a0 a1 a2 a3 a4, zWnk_i0 w p kq a0 a1 a2 a3 a4, zWnk_i1 w p kq a0 a1 a2 a3 a4, fun k j h => zWnk_o w p kq a0 a1 a2 a3 a4 k j (by omega), fun k j h => zWnk_a w p kq a0 a1 a2 a3 a4 k j (by omega), fun k b h => zWnk_i w p kq a0 a1 a2 a3 a4 k b (by omega), rfl, fun a b h => zWnk_n w p kq a0 a1 a2 a3 a4 a b (by omega)⟩
  | some kq =>
    rw [if_neg (fun z => nomatch z), if_neg (fun z => nomatch z)]
    refine (c_B_fresh_k g d (by omega) G qb (w.a 4 p) kq (w.a 10 p) (w.a 11 p) (w.a 12 p) (w.a 13 p) (w.a 14 p) (w.i 4 p) (w.i 5 p) (w.i 6 p) (w.i 7 p) (w.i 8 p) (hH.bmk hq3 hk) (hH.km hk)).mono (fun r G1 h => ?_)
    obtain ⟨hr, rfl⟩ := h
    exact ⟨_, hr, zW5 w p 0 0, kq, rfl, hH.w5 hk 0 0, zFr.put 5 p hk rfl _ rfl, hk, zW5_7 w p 0 0, zW5_8 w p 0 0, fun _ _ _ => rfl, fun _ _ _ => rfl, fun k b h => zW5_n w 0 0 (by omega), rfl, fun _ _ _ => rfl⟩
theorem zNc_up {w w2 : zW} {p : Nat} (hp : p < 4) (h0 : w.o 5 p = none) {k : Nat} (h1 : w2.o 5 p = some k) (h2 : ∀ b, b ≠ p → w2.o 5 b = w.o 5 b) : zNc w2 + 1 = zNc w := by
  have e : ∀ z : zW, zNc z = (if z.o 5 0 = none then 1 else 0) + (if z.o 5 1 = none then 1 else 0) + (if z.o 5 2 = none then 1 else 0) + (if z.o 5 3 = none then 1 else 0) := fun z => by
    unfold zNc
    rw [zfor_s 3, zfor_s 2, zfor_s 1, zfor_s 0, zfor_0]
    by_cases a : z.o 5 0 = none <;> by_cases b : z.o 5 1 = none <;> by_cases c : z.o 5 2 = none <;> by_cases f : z.o 5 3 = none <;> simp [a, b, c, f]
  have hn : ¬ w2.o 5 p = none := fun z => by rw [h1] at z; cases z
  rw [e, e]
  rcases (show p = 0 ∨ p = 1 ∨ p = 2 ∨ p = 3 by omega) with rfl | rfl | rfl | rfl
  · rw [h2 1 (by decide), h2 2 (by decide), h2 3 (by decide), if_neg hn, if_pos h0]; omega
  · rw [h2 0 (by decide), h2 2 (by decide), h2 3 (by decide), if_neg hn, if_pos h0]; omega
  · rw [h2 0 (by decide), h2 1 (by decide), h2 3 (by decide), if_neg hn, if_pos h0]; omega
  · rw [h2 0 (by decide), h2 1 (by decide), h2 2 (by decide), if_neg hn, if_pos h0]
theorem zNc_eq {w w2 : zW} (h2 : ∀ b, w2.o 5 b = w.o 5 b) : zNc w2 = zNc w := by
  have e : w2.o 5 = w.o 5 := funext h2
  unfold zNc
  rw [e]
/-- the reference's state with the base's values in their row -/
def zub (u : zU) (bs : Nat → Int32) : zU := zua (zuc u 0 0) 26 bs
theorem zub_e (u : zU) (bs : Nat → Int32) : zUe u (zub u bs) := ⟨fun j hj => pk_un hj, fun j hj => zuaj _ _ (by omega)⟩
def zum (u : zU) (p c : Nat) : zU := zua (zua u 9 (upd (u.ar 9) p (nI c))) 14 (upd (u.ar 14) p 0)
theorem zum_n (u : zU) (p c : Nat) {j : Nat} (h1 : j ≠ 9) (h2 : j ≠ 14) : (zum u p c).ar j = u.ar j := (zuaj _ _ h2).trans (zuaj _ _ h1)
theorem zMg0 {w w2 : zW} {u : zU} {cm p c : Nat} (hR : zRl w u cm) (ht : zRt w u cm p) (hf : w2.f 4 p = w.f 4 p) (bs : Nat → Int32) (N : Nat → Nat → Int32) : zMg p (zum (zub u bs) p c) (zum (zub u bs) p c) (w2.f 4 p) N 0 0 := by
  have b1 : (zum (zub u bs) p c).ar 1 = u.ar 1 := (zum_n _ p c (by decide) (by decide)).trans (zuaj _ _ (by decide))
  have b2 : (zum (zub u bs) p c).ar 2 = u.ar 2 := (zum_n _ p c (by decide) (by decide)).trans (zuaj _ _ (by decide))
  refine ⟨rfl, fun _ _ _ _ => rfl, fun _ _ => ⟨rfl, rfl⟩, ?_, ?_, ?_, Nat.le_refl _, fun _ _ => rfl, fun _ _ _ _ _ _ => rfl, fun k hk => absurd hk (Nat.not_lt_zero _)⟩
  · unfold zIv; rw [b1, b2]; exact hR.iv
  · unfold zCr; rw [b1, b2, hf]; exact ht.2.2.2.1
  · have e : (zum (zub u bs) p c).ar 14 = upd ((zub u bs).ar 14) p 0 := zuas _ _ _
    rw [e, pk_us]; rfl
/-- what a merge leaves -/
theorem zmg_end {w w1 w2 w3 : zW} {wm wm1 : Nat} {u : zU} {cm p c hx qb kq e : Nat} {bs : Nat → Int32} {G G1 G2 G3 : zG} (hI : zIn w wm u cm) (hp : p < 4) (hc : c < cm) (h7 : ¬ u.ar 7 p = 0) (hhd : u.ar 8 p = nI hx) (hhx : hx < cm) (hne : c ≠ hx) (hq3 : w.o 3 p = some qb) (b1 : zBk 0 w w1) (f1 : zFr w G w1 G1) (r1 : zRw w1 wm1) (hwm : wm ≤ wm1) (f2 : zFr w1 G1 w2 G2) (o2 : w2.o 5 p = some kq) (fw : zFw p w1 w2) (h3 : zHp w3 G3) (f3 : zFr w2 G2 w3 G3) (m3 : zMw p w2 w3) (hM : zMg p (zum (zub u bs) p c) (t_M_merge (zub u bs) p c) (w3.f 4 p) (fun k => w3.n k p) e 4096) (e7 : w3.i 7 p = nI e) (e8 : w3.i 8 p = nI e) :
    zSq (.inl (some (.int ((t_M_merge (zub u bs) p c).ar 14 p)))) w wm (t_M_merge (zub u bs) p c) cm ((if w.o 5 p = none then 6 else 0) + 2 * (wm1 - wm)) ((if w.o 5 p = none then 20487 else 0) + 4097 * (wm1 - wm)) G (.inl (some (.int (nI e)))) (zput G3 qb (zO 2 [.ref (w.a 4 p), .int (w.i 4 p), .int (w.i 5 p), .int (nI c), .ref kq])) := by
  have o3 : w3.o 3 p = some qb := by rw [m3.1, fw.1 3 p (by omega), b1.1 3 (by decide)]; exact hq3
  have o5 : w3.o 5 p = some kq := by rw [m3.1]; exact o2
  have a4 : w3.a 4 p = w.a 4 p := by rw [m3.2.1, fw.2.1 4 p (by omega), b1.2.1 4 (by decide)]
  have ii : ∀ k b, ¬ (b = p ∧ (k = 7 ∨ k = 8)) → w3.i k b = w.i k b := fun k b h => by rw [m3.2.2.1 k b h, fw.2.2.1 k b h, b1.2.2.1]
  have h4 := h3.w3 (b := p) (q := qb) o3 (w.i 4 p) (w.i 5 p) (nI c)
  have f4 := ((f1.tr f2).tr f3).tr (zFr.put (w2 := zW3 w3 p (w.i 4 p) (w.i 5 p) (nI c)) 3 p (q := qb) o3 rfl (zO 2 [.ref (w.a 4 p), .int (w.i 4 p), .int (w.i 5 p), .int (nI c), .ref kq]) rfl)
  rw [a4, o5] at h4
  obtain ⟨W, hW⟩ : ∃ W, W = zW3 w3 p (w.i 4 p) (w.i 5 p) (nI c) := ⟨_, rfl⟩
  have wi : ∀ k b, ¬ (b = p ∧ 4 ≤ k ∧ k ≤ 8) → W.i k b = w.i k b := fun k b h => by
    rw [hW]
    exact (zW3_n w3 _ _ _ (by omega)).trans (ii k b (by omega))
  have w4 : W.i 4 p = w.i 4 p := by rw [hW]; exact zW3_4 _ _ _ _ _
  have w5 : W.i 5 p = w.i 5 p := by rw [hW]; exact zW3_5 _ _ _ _ _
  have w6 : W.i 6 p = nI c := by rw [hW]; exact zW3_6 _ _ _ _ _
  have w7 : W.i 7 p = nI e := by rw [hW]; exact (zW3_n w3 _ _ _ (by omega)).trans e7
  have w8 : W.i 8 p = nI e := by rw [hW]; exact (zW3_n w3 _ _ _ (by omega)).trans e8
  have wo : ∀ k j, ¬ (k = 5 ∧ j = p) → k ≠ 6 → W.o k j = w.o k j := fun k j h h6 => by
    rw [hW]
    show w3.o k j = _
    rw [m3.1, fw.1 k j h, b1.1 k h6]
  have wf : ∀ a b, ¬ (a = 4 ∧ b = p) → W.f a b = w.f a b := fun a b h => by
    rw [hW]
    show w3.f a b = _
    rw [m3.2.2.2.1 a b h, fw.2.2.2.1, b1.2.2.2.1]
  have wn : ∀ a b, ¬ (b = p ∧ 10 ≤ a ∧ a < 15) → a ≠ 7 → W.n a b = w.n a b := fun a b h h7 => by
    rw [hW]
    show w3.n a b = _
    rw [m3.2.2.2.2 a b h, fw.2.2.2.2 a b h, b1.2.2.2.2.1 a h7]
  have W5 : W.o 5 p = some kq := by rw [hW]; exact o5
  have W6 : W.o 6 = w1.o 6 := funext fun j => by
    rw [hW]
    show w3.o 6 j = _
    rw [m3.1, fw.1 6 j (by omega)]
  have hf3 : W.f 4 p = w3.f 4 p := by rw [hW]; rfl
  have hn3 : ∀ j, W.n j p = w3.n j p := fun j => by rw [hW]; rfl
  rw [← hW] at h4 f4
  have hRl : zRl W (t_M_merge (zub u bs) p c) cm := hI.1.merge (w2 := W) (u2 := zub u bs) (p := p) (c := c) (e := e) (r := kq) (f := w3.f 4 p) (N := fun k => w3.n k p) (zub_e u bs) hp h7 hc (fun x hx9 hx2 => by
      have := hI.1.hm
      have ex : x = hx := (nI_eq (by omega) (by omega)).mp (hx9.symm.trans hhd)
      omega) hM ⟨fun k hk => funext fun b => wi k b (by omega), fun k k1 k2 b hb => wi k b (by omega), funext fun b => wo 1 b (by omega) (by omega), fun b hb => ⟨wo 3 b (by omega) (by omega), wo 5 b (by omega) (by omega), wf 4 b (by omega)⟩, funext fun b => wf 2 b (by omega), funext fun b => wn 9 b (by omega) (by omega), fun b hb j j1 j2 => wn j b (by omega) (by omega)⟩ (wo 3 p (by omega) (by omega)) (fun k k1 k2 => by
      rcases (show k = 4 ∨ k = 5 by omega) with rfl | rfl
      · exact w4
      · exact w5) w6 W5 w7 w8 hf3 (fun j _ _ => hn3 j)
  have hNc : zNc W + (if w.o 5 p = none then 1 else 0) = zNc w := by
    by_cases z : w.o 5 p = none
    · rw [if_pos z]
      exact zNc_up hp z W5 (fun b hb => wo 5 b (by omega) (by omega))
    · rw [if_neg z]
      have : ∀ b, (W.o 5 b = none) = (w.o 5 b = none) := fun b => by
        by_cases e : b = p
        · rw [e, W5]
          exact propext ⟨fun q => (nomatch q), fun q => absurd q z⟩
        · rw [wo 5 b (by omega) (by omega)]
      unfold zNc
      rw [zfor_c (N := 4) (f := fun b n => if W.o 5 b = none then n + 1 else n) (g := fun b n => if w.o 5 b = none then n + 1 else n) (fun b n _ => by
        by_cases q : w.o 5 b = none
        · rw [if_pos q, if_pos (by rw [this b]; exact q)]
        · rw [if_neg q, if_neg (by rw [this b]; exact q)]) 0 4 (Nat.le_refl _)]
      rfl
  have he14 : (t_M_merge (zub u bs) p c).ar 14 p = nI e := hM.2.2.2.2.2.1
  refine ⟨by rw [he14], W, wm1, h4, f4, ⟨hRl, ?_, fun b hb => ?_⟩, ?_, ?_⟩
  · unfold zRw; rw [W6]; exact r1
  · by_cases q : b = p
    · rw [q, wo 3 p (by omega) (by omega), hq3] at hb; cases hb
    · rw [wo 3 b (by omega) (by omega)] at hb
      rw [wo 5 b (by omega) (by omega)]
      exact hI.2.2 b hb
  · have h8 := wo 8 0 (by omega) (by omega)
    have hw := r1.1
    unfold zPc
    rw [h8, ← hNc]
    by_cases z : w.o 5 p = none
    · rw [if_pos z, if_pos z]; omega
    · rw [if_neg z, if_neg z]; omega
  · have h8 := wo 8 0 (by omega) (by omega)
    have hw := r1.1
    unfold zPs
    rw [h8, ← hNc]
    by_cases z : w.o 5 p = none
    · rw [if_pos z, if_pos z]; omega
    · rw [if_neg z, if_neg z]; omega
