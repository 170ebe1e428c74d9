/-! edits, cell by cell: the class beside the reference -/
theorem zEe.cg {b : Nat} {u t : zU} {f f2 : Nat → Int64} (h : zEe b u t f) (hf : ∀ k, k < 4096 → f2 k = f k) : zEe b u t f2 := ⟨h.1, fun k hk => (hf k hk).trans (h.2 k hk)⟩
/-- what setIfOther does -/
theorem zEe.sio {b : Nat} {u t : zU} {f : Nat → Int64} (h : zEe b u t f) (hb : b < 4) {i : Nat} (hi : i < 4096) (v : Int32) : zEe b u (if v = t.ar 1 (4096 * (24 + b) + i) then t else zgive t b i v) (zsio f i v) := by
  unfold zsio
  rw [h.val hb hi]
  by_cases e : v = t.ar 1 (4096 * (24 + b) + i)
  · rw [if_pos e, if_pos e.symm]
    exact h
  · rw [if_neg e, if_neg (fun q => e q.symm)]
    exact h.give hi v
theorem zmapped_eq (F T F2 T2 : Nat → Int32) (x : Int32) (h : ∀ k, k < 8 → F k = F2 k ∧ T k = T2 k) : zsel (zfor 8 (zstp (zmapS F T x)) (.inl ())) (fun _ => x) = zsel (zfor 8 (zstp (zmapS F2 T2 x)) (.inl ())) (fun _ => x) := by
  rw [zstp_c (N := 8) (g := zmapS F2 T2 x) (fun j hj => by
    funext s
    unfold zmapS
    rw [(h j hj).1, (h j hj).2]) (.inl ()) 8 (Nat.le_refl _)]
theorem zEe.map {b : Nat} {u t : zU} {f : Nat → Int64} (h : zEe b u t f) (hb : b < 4) {q lf wd tp j i : Nat} (hi : 1024 * q + 32 * (tp + j) + (lf + i) < 4096) (v : zV) (hv : ∀ k, k < 8 → v.ar 10 k = t.ar 22 k ∧ v.ar 11 k = t.ar 23 k) : zEe b u (st_M_map_x b q lf wd tp j i t) (zsio f (1024 * q + 32 * (tp + j) + (lf + i)) (s_S_mapped v (s_S_valueOf (f (1024 * q + 32 * (tp + j) + (lf + i)))))) := by
  have hs := h.sio hb hi (s_S_mapped v (s_S_valueOf (f (1024 * q + 32 * (tp + j) + (lf + i)))))
  rw [h.val hb hi] at hs ⊢
  generalize hx : t.ar 1 (4096 * (24 + b) + (1024 * q + 32 * (tp + j) + (lf + i))) = x at hs ⊢
  have e1 : s_S_mapped v x = zsel (zfor 8 (zstp (zmapS (t.ar 22) (t.ar 23) x)) (.inl ())) (fun _ => x) := zmapped_eq (v.ar 10) (v.ar 11) (t.ar 22) (t.ar 23) x hv
  have e2 : st_M_map_x b q lf wd tp j i t = if 8 ≤ zfor 8 (zmapI (t.ar 22) x) 8 then t else if t.ar 23 (zfor 8 (zmapI (t.ar 22) x) 8).toNatClampNeg = x then t else zgive t b (1024 * q + 32 * (tp + j) + (lf + i)) (t.ar 23 (zfor 8 (zmapI (t.ar 22) x) 8).toNatClampNeg) := by
    rw [← hx]; rfl
  rw [e2]
  rcases zmap_eq (t.ar 22) (t.ar 23) x with ⟨m1, m2⟩ | ⟨m1, m2⟩
  · rw [if_pos m1]
    rw [e1, m2, if_pos rfl] at hs
    rw [e1, m2]
    exact hs
  · rw [if_neg m1]
    rw [e1, m2] at hs
    rw [e1, m2]
    exact hs
theorem zEe.combine {b : Nat} {u t : zU} {f : Nat → Int64} (h : zEe b u t f) (hb : b < 4) {q n lf wd tp j i : Nat} (w : Int32) (hi : 1024 * q + 32 * (tp + j) + (lf + i) < 4096) (hi2 : 1024 * n + 32 * (tp + j) + (lf + i) < 4096) : zEe b u (st_M_combine_x b q n w lf wd tp j i t) (zsio f (1024 * q + 32 * (tp + j) + (lf + i)) (zcmb (s_S_valueOf (f (1024 * q + 32 * (tp + j) + (lf + i)))) (s_S_valueOf (f (1024 * n + 32 * (tp + j) + (lf + i)))) w)) := by
  have hs := h.sio hb hi (zcmb (s_S_valueOf (f (1024 * q + 32 * (tp + j) + (lf + i)))) (s_S_valueOf (f (1024 * n + 32 * (tp + j) + (lf + i)))) w)
  rw [h.val hb hi, h.val hb hi2] at hs ⊢
  have e := zcmb_eq t (zgive t b (1024 * q + 32 * (tp + j) + (lf + i))) (t.ar 1 (4096 * (24 + b) + (1024 * q + 32 * (tp + j) + (lf + i)))) (t.ar 1 (4096 * (24 + b) + (1024 * n + 32 * (tp + j) + (lf + i)))) w
  rw [← e] at hs
  exact hs
theorem zEe.poly {b : Nat} {u t : zU} {f : Nat → Int64} (h : zEe b u t f) (hb : b < 4) {q n i j : Nat} (w : Int32) (hq : q < 4) (hi : i < 32) (hj : j < 32) (hn1 : 3 ≤ n) (hn : n ≤ 6) (X Y : Nat → Int32) (hc : ∀ k, k < 6 → X k = t.ar 20 k ∧ Y k = t.ar 21 k ∧ ∃ a b, a ≤ 32 ∧ b ≤ 32 ∧ t.ar 20 k = nI a ∧ t.ar 21 k = nI b) :
    (zfor n (zinS X Y n (nI (2 * i + 1)) (nI (2 * j + 1))) 0 = 0 ∧ st_M_polygon_x b q n w j i t = t) ∨ (¬ zfor n (zinS X Y n (nI (2 * i + 1)) (nI (2 * j + 1))) 0 = 0 ∧ zEe b u (st_M_polygon_x b q n w j i t) (vp_updL f (1024 * q + 32 * j + i) (zcell w (nI (98304 + (1024 * q + 32 * j + i)))))) := by
  obtain ⟨m, m1, m2, m3⟩ := zins t hn1 hn hi hj (fun k hk => (hc k hk).2.2) n (Nat.le_refl _)
  have e3 : zfor n (zinS X Y n (nI (2 * i + 1)) (nI (2 * j + 1))) 0 = nI (m % 2) := by
    rw [← m3]
    refine zfor_c (N := n) (fun k s hk => ?_) 0 n (Nat.le_refl _)
    have hk2 : (k + 1) % n < 6 := Nat.lt_of_lt_of_le (Nat.mod_lt _ (by omega)) hn
    unfold zinS zrt
    rw [(hc k (by omega)).1, (hc k (by omega)).2.1, (hc _ hk2).1, (hc _ hk2).2.1]
  rw [e3]
  unfold st_M_polygon_x
  rw [m2]
  rcases Nat.mod_two_eq_zero_or_one m with z | z
  · refine Or.inl ⟨by rw [z]; rfl, ?_⟩
    rw [if_neg (fun c => ?_)]
    rw [z2 m (by omega), z] at c
    exact absurd c (by decide)
  · refine Or.inr ⟨by rw [z]; decide, ?_⟩
    rw [if_pos ((z2 m (by omega)).mpr (by rw [z]; rfl))]
    exact h.give (by omega) w
/-- a row is copied -/
theorem zEe.copy {b : Nat} {u t : zU} {f src : Nat → Int64} (h : zEe b u t f) (hb : b < 4) {q c g x y lf tp j : Nat} (hc : c < 24) (hsrc : zCr src u c) : ∀ i, 1024 * q + 32 * (y + j) + (x + i) ≤ 4096 → 1024 * g + 32 * (tp + j) + (lf + i) ≤ 4096 → ∀ f2 : Nat → Int64, (∀ k, k < 4096 → f2 k = if 1024 * q + 32 * (y + j) + x ≤ k ∧ k < 1024 * q + 32 * (y + j) + x + i then src (1024 * g + 32 * (tp + j) + lf + (k - (1024 * q + 32 * (y + j) + x))) else f k) → zEe b u (zfor i (st_M_copy_x b q c g x y lf tp j) t) f2 := by
  intro i
  induction i with
  | zero => intro _ _ f2 h2; exact h.cg (fun k hk => by rw [h2 k hk, if_neg (by omega)])
  | succ i ih =>
    intro hi1 hi2 f2 h2
    have hE := ih (by omega) (by omega) (fun k => if 1024 * q + 32 * (y + j) + x ≤ k ∧ k < 1024 * q + 32 * (y + j) + x + i then src (1024 * g + 32 * (tp + j) + lf + (k - (1024 * q + 32 * (y + j) + x))) else f k) (fun _ _ => rfl)
    rw [zfor_s]
    obtain ⟨T, hT⟩ : ∃ T, T = zfor i (st_M_copy_x b q c g x y lf tp j) t := ⟨_, rfl⟩
    rw [← hT] at hE ⊢
    have hv : zvo (T.ar 1 (4096 * c + (1024 * g + 32 * (tp + j) + (lf + i)))) (T.ar 2 (4096 * c + (1024 * g + 32 * (tp + j) + (lf + i)))) := hE.1.2.2.2 _ (by omega)
    have hp := hE.put (i := 1024 * q + 32 * (y + j) + (x + i)) (by omega) hv
    have hst : st_M_copy_x b q c g x y lf tp j i T = zset1 T b (1024 * q + 32 * (y + j) + (x + i)) (T.ar 1 (4096 * c + (1024 * g + 32 * (tp + j) + (lf + i)))) (T.ar 2 (4096 * c + (1024 * g + 32 * (tp + j) + (lf + i)))) := rfl
    rw [hst]
    refine hp.cg (fun k hk => ?_)
    rw [h2 k hk]
    have ho := hE.1.2.2.1 (4096 * c + (1024 * g + 32 * (tp + j) + (lf + i))) (by omega)
    rw [ho.1, ho.2, ← hsrc _ (by omega)]
    by_cases e : k = 1024 * q + 32 * (y + j) + (x + i)
    · rw [if_pos (by omega), e, pk_uLs]
      congr 1
      omega
    · rw [pk_uLn e]
      by_cases e2 : 1024 * q + 32 * (y + j) + x ≤ k ∧ k < 1024 * q + 32 * (y + j) + x + i
      · rw [if_pos (by omega), if_pos e2]
      · rw [if_neg (by omega), if_neg e2]
