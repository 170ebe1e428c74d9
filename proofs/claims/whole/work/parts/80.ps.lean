section ZPS
variable {g : zGt} {w : zW} {wm : Nat} {u : zU} {cm : Nat}
theorem zPv.d {yS : MethodName} {bS : ByteArray} {nS : Nat} {rS : Option FieldType} {yM : MethodName} {bM : ByteArray} {nM : Nat} {rM : Option FieldType} {av : List Value} (hI : zIn w wm u cm) (v : Int32) (hS : ∀ (d : Nat) (G : zG), 80 ≤ d → zHp w G → zMet g yS bS nS rS [] d 0 0 (.ref (w.a 0 0) :: av) G (zD1 (.int v) G)) (hM : ∀ (d : Nat) (G : zG) (m : Nat), 80 ≤ d → zMv u m G → zMet g yM bM nM rM [] d 0 0 (.ref m :: av) G (zMq (some (.int v)) (zuc u 0 0) u m G)) : zPv g w wm u yS bS nS rS yM bM nM rM av :=
  ⟨v, zuc u 0 0, cm, 0, 0, ⟨by omega, by omega⟩, fun d G hd hH => (hS d G hd hH).mono (fun r G1 h => zSq.d1 hI hH (zUe.c0 u 0) (by omega) (by omega) h), fun d G m hd hm => (hM d G m hd hm).mono (fun r G1 h => zRx.q h (zc00 u 0))⟩
theorem zplcs (hI : zRl w u cm) {p : Int32} (h : ¬ s_M_isPlace u p = 0) : (∃ c, c < cm ∧ p = nI c) ∨ ∃ b hd, b < 4 ∧ p = nI (24 + b) ∧ ¬ s_M_isBranch u (nI b) = 0 ∧ u.ar 8 b = nI hd ∧ hd < 24 := by
  unfold s_M_isPlace at h
  by_cases a : 24 ≤ p
  · rw [if_pos a] at h
    obtain ⟨b, q, hb, e, h3, h4, h5, h6⟩ := hI.bra1 h
    obtain ⟨-, -, ⟨x, x1, x2, -⟩, -⟩ := h6
    have hm := hI.hm
    refine Or.inr ⟨b, x, hb, ?_, by rw [← e]; exact h, x1, by omega⟩
    have e2 : p = p - 24 + 24 := (Int32.sub_add_cancel p 24).symm
    rw [e2, e, show (24 : Int32) = nI 24 from rfl, nI_add, Nat.add_comm]
  · rw [if_neg a] at h
    exact Or.inl (zisc0 hI.i6 hI.hm h)
theorem zpl28 (hI : zRl w u cm) {p : Int32} (h : ¬ s_M_isPlace u p = 0) : ∃ c, c < 28 ∧ p = nI c := by
  have hm := hI.hm
  rcases zplcs hI h with ⟨c, h1, h2⟩ | ⟨b, x, h1, h2, -⟩
  · exact ⟨c, by omega, h2⟩
  · exact ⟨24 + b, by omega, h2⟩
theorem P_value (hI : zIn w wm u cm) (p l x y : Int32) : zPv g w wm u y_S_value b_S_value 5 (some .int) y_M_value b_M_value 5 (some .int) [.int p, .int l, .int x, .int y] :=
  zPv.d hI _ (fun d G hd hH => c_S_value g d (by omega) G w u cm hH hI.1 p l x y) (fun d G m hd hm => c_M_value g d (by omega) G u m hm p l x y cm hI.1.i6 hI.1.hm)
theorem P_origin (hI : zIn w wm u cm) (p l x y e : Int32) : zPv g w wm u y_S_origin b_S_origin 8 (some .int) y_M_origin b_M_origin 7 (some .int) [.int p, .int l, .int x, .int y, .int e] :=
  zPv.d hI _ (fun d G hd hH => c_S_origin g d (by omega) G w u cm hH hI.1 p l x y e) (fun d G m hd hm => c_M_origin g d (by omega) G u m hm p l x y e cm hI.1.i6 hI.1.hm)
theorem P_conflict (hI : zIn w wm u cm) (p q e : Int32) : zPv g w wm u y_S_conflict b_S_conflict 5 (some .int) y_M_conflict b_M_conflict 5 (some .int) [.int p, .int q, .int e] :=
  zPv.d hI _ (fun d G hd hH => c_S_conflict g d (by omega) G w u cm hH hI.1 p q e) (fun d G m hd hm => c_M_conflict g d (by omega) G u m hm p q e (fun b hb => (hI.1.2.1 b hb).2.2.2.1))
theorem P_differing (hI : zIn w wm u cm) (p q l : Int32) : zPv g w wm u y_S_differing b_S_differing 8 (some .int) y_M_differing b_M_differing 6 (some .int) [.int p, .int q, .int l] := by
  by_cases hb : s_M_isPlace u p = 0 ∨ s_M_isPlace u q = 0 ∨ s_M_isLayer l = 0
  · exact zPv.d hI _ (fun d G hd hH => c_S_differing_bad g d (by omega) G w u cm hH hI.1 p q l hb) (fun d G m hd hm => c_M_differing_bad g d (by omega) G u m hm p q l hb)
  · simp only [not_or] at hb
    obtain ⟨h1, h2, h3⟩ := hb
    obtain ⟨a, a1, rfl⟩ := zpl28 hI.1 h1
    obtain ⟨b, b1, rfl⟩ := zpl28 hI.1 h2
    obtain ⟨c, c1, rfl⟩ := zlay h3
    exact zPv.d hI _ (fun d G hd hH => c_S_differing_ok g d (by omega) G w u cm hH hI.1 a b c a1 b1 c1 h1 h2 h3) (fun d G m hd hm => c_M_differing_ok g d (by omega) G u m hm a b c a1 b1 c1 h1 h2 h3)
theorem P_differs (hI : zIn w wm u cm) (p q l e : Int32) : zPv g w wm u y_S_differs b_S_differs 10 (some .int) y_M_differs b_M_differs 7 (some .int) [.int p, .int q, .int l, .int e] := by
  by_cases hb : s_M_isPlace u p = 0 ∨ s_M_isPlace u q = 0 ∨ s_M_isLayer l = 0
  · exact zPv.d hI _ (fun d G hd hH => c_S_differs_bad g d (by omega) G w u cm hH hI.1 p q l e hb) (fun d G m hd hm => c_M_differs_bad g d (by omega) G u m hm p q l e (by rcases hb with h | h | h <;> simp [h]))
  · simp only [not_or] at hb
    obtain ⟨h1, h2, h3⟩ := hb
    obtain ⟨a, a1, rfl⟩ := zpl28 hI.1 h1
    obtain ⟨b, b1, rfl⟩ := zpl28 hI.1 h2
    obtain ⟨c, c1, rfl⟩ := zlay h3
    by_cases he : ¬ 0 ≤ e
    · exact zPv.d hI _ (fun d G hd hH => c_S_differs_neg g d (by omega) G w u cm hH hI.1 a b c e a1 b1 c1 h1 h2 h3 he) (fun d G m hd hm => c_M_differs_bad g d (by omega) G u m hm _ _ _ e (Or.inr (Or.inr (Or.inr he))))
    · exact zPv.d hI _ (fun d G hd hH => c_S_differs_ok g d (by omega) G w u cm hH hI.1 a b c e a1 b1 c1 h1 h2 h3 he) (fun d G m hd hm => c_M_differs_ok g d (by omega) G u m hm a b c e a1 b1 c1 h1 h2 h3 he)
theorem P_nearest (hI : zIn w wm u cm) (p q e : Int32) : zPv g w wm u y_S_nearest b_S_nearest 7 (some .int) y_M_nearest b_M_nearest 7 (some .int) [.int p, .int q, .int e] := by
  by_cases hb : s_M_isCommit u p = 0 ∨ s_M_isCommit u q = 0
  · exact zPv.d hI _ (fun d G hd hH => c_S_nearest_bad g d (by omega) G w u cm hH hI.1 p q e hb) (fun d G m hd hm => c_M_nearest_bad g d (by omega) G u m hm p q e (by rcases hb with h | h <;> simp [h]))
  · simp only [not_or] at hb
    obtain ⟨h1, h2⟩ := hb
    obtain ⟨a, a1, rfl⟩ := zisc0 hI.1.i6 hI.1.hm h1
    obtain ⟨b, b1, rfl⟩ := zisc0 hI.1.i6 hI.1.hm h2
    by_cases he : ¬ 0 ≤ e
    · exact zPv.d hI _ (fun d G hd hH => c_S_nearest_neg g d (by omega) G w u cm hH hI.1 a b e a1 b1 he) (fun d G m hd hm => c_M_nearest_bad g d (by omega) G u m hm _ _ e (Or.inr (Or.inr he)))
    · exact zPv.d hI _ (fun d G hd hH => c_S_nearest_ok g d (by omega) G w u cm hH hI.1 a b e a1 b1 he) (fun d G m hd hm => c_M_nearest_ok g d (by omega) G u m hm a b e cm hI.1.i6 hI.1.h1 hI.1.hm h1 h2 he)
theorem ze012 {e : Int32} (h1 : ¬ e < 0) (h2 : ¬ ¬ e ≤ 2) : e = 0 ∨ e = 1 ∨ e = 2 := by
  obtain ⟨j, hj, rfl⟩ := nI_of2 (M := 2) (n := 2) rfl h1 (Decidable.not_not.mp h2)
  have : j = 0 ∨ j = 1 ∨ j = 2 := by omega
  rcases this with rfl | rfl | rfl
  · exact Or.inl rfl
  · exact Or.inr (Or.inl rfl)
  · exact Or.inr (Or.inr rfl)
theorem zeout {e x y z : Int32} (h : e < 0 ∨ ¬ e ≤ 2) : (if e = 0 then x else if e = 1 then y else if e = 2 then z else (-1)) = (-1) := by
  have n0 : e ≠ 0 := fun q => by subst q; revert h; decide
  have n1 : e ≠ 1 := fun q => by subst q; revert h; decide
  have n2 : e ≠ 2 := fun q => by subst q; revert h; decide
  rw [if_neg n0, if_neg n1, if_neg n2]
theorem P_about (hI : zIn w wm u cm) (p e : Int32) : zPv g w wm u y_S_about b_S_about 5 (some .int) y_M_about b_M_about 5 (some .int) [.int p, .int e] := by
  by_cases h0 : s_M_isPlace u p = 0
  · exact zPv.d hI _ (fun d G hd hH => c_S_about_bad g d (by omega) G w u cm hH hI.1 p e h0) (fun d G m hd hm => c_M_about_bad g d (by omega) G u m hm p e (Or.inl h0))
  have hm := hI.1.hm
  by_cases he : e < 0 ∨ ¬ e ≤ 2
  · refine zPv.d hI (-1) (fun d G hd hH => ?_) (fun d G m hd hm => c_M_about_bad g d (by omega) G u m hm p e (Or.inr he))
    rcases zplcs hI.1 h0 with ⟨c, c1, rfl⟩ | ⟨b, x, b1, rfl, b2, b3, b4⟩
    · have := c_S_about_c g d (by omega) G w u cm hH hI.1 c e c1
      rw [zeout he] at this
      exact this
    · have := c_S_about_b g d (by omega) G w u cm hH hI.1 b x e b1 b2 b3 b4
      rw [zeout he] at this
      exact this
  · simp only [not_or] at he
    obtain ⟨e1, e2⟩ := he
    rcases zplcs hI.1 h0 with ⟨c, c1, rfl⟩ | ⟨b, x, b1, rfl, b2, b3, b4⟩
    · refine zPv.d hI (s_M_aboutC u c e cm) (fun d G hd hH => ?_) (fun d G m hd hm => c_M_about_c g d (by omega) G u m hm c e cm hI.1.i6 hI.1.h1 hI.1.hm (by have := hI.1.hm; omega) h0 e1 e2)
      have h := c_S_about_c g d (by omega) G w u cm hH hI.1 c e c1
      have k : (if e = 0 then u.ar 4 c else if e = 1 then u.ar 5 c else if e = 2 then zfor (cm - 1) (st_M_about u c cm) 0 else (-1)) = s_M_aboutC u c e cm := by
        unfold s_M_aboutC
        rcases ze012 e1 e2 with rfl | rfl | rfl <;> rfl
      rw [k] at h
      exact h
    · refine zPv.d hI (s_M_aboutB u (24 + b) e x) (fun d G hd hH => ?_) (fun d G m hd hm => c_M_about_b g d (by omega) G u m hm (24 + b) e (by omega) (by omega) x (by rw [Nat.add_sub_cancel_left]; exact b3) b4 h0 e1 e2)
      have h := c_S_about_b g d (by omega) G w u cm hH hI.1 b x e b1 b2 b3 b4
      have k : (if e = 0 then u.ar 8 b else if e = 1 then u.ar 9 b else if e = 2 then (if s_M_isChanged u b x = 0 then 0 else 1) else (-1)) = s_M_aboutB u (24 + b) e x := by
        unfold s_M_aboutB
        rw [Nat.add_sub_cancel_left]
        rcases ze012 e1 e2 with rfl | rfl | rfl <;> rfl
      rw [k] at h
      exact h
theorem P_blocks (hI : zIn w wm u cm) (l : Int32) : zPv g w wm u y_S_blocks b_S_blocks 4 (some .int) y_M_blocks b_M_blocks 6 (some .int) [.int l] := by
  by_cases h0 : s_M_isLayer l = 0
  · exact zPv.d hI _ (fun d G hd hH => c_S_blocks_bad g d (by omega) G w u cm hH hI.1 l h0) (fun d G m hd hm => c_M_blocks_bad g d (by omega) G u m hm l h0)
  obtain ⟨c, c1, rfl⟩ := zlay h0
  have hI2 : zIn w wm (zuc u 0 0) cm := ⟨hI.1.ue (zUe.c0 u 0), hI.2⟩
  have hMr : ∀ (d : Nat) (G : zG) (m : Nat), 80 ≤ d → zMv u m G → zMet g y_M_blocks b_M_blocks 6 (some .int) [] d 0 0 [.ref m, .int (nI c)] G (zRx (some (.int (nI (zbl9 (zuc u 0 0) c).1))) 0 (zuc u 0 0) u m G) := fun d G m hd hm =>
    (c_M_blocks_ok g d (by omega) G u m hm c c1 h0).mono (fun r G1 h => by
      obtain ⟨h1, u2, h2, h3, h4, h5, h6, -⟩ := h
      exact ⟨h1, u2, h2, h3, h4, ⟨fun j _ => by rw [zU.i, h5], fun j hj => h6 j (by omega)⟩, by rw [zU.i, h5]; exact zc00 u 0⟩)
  cases ht : w.o 8 0 with
  | some tq => exact ⟨_, zuc u 0 0, cm, 0, 0, ⟨by omega, by omega⟩, fun d G hd hH => c_S_blocks_old g d (by omega) G w wm (zuc u 0 0) cm hH hI2 c c1 h0 tq ht, hMr⟩
  | none => exact ⟨_, zuc u 0 0, cm, 3, 32771, ⟨by unfold zPc; rw [if_pos ht]; omega, by unfold zPs; rw [if_pos ht]; omega⟩, fun d G hd hH => c_S_blocks_new g d (by omega) G w wm (zuc u 0 0) cm hH hI2 c c1 h0 ht, hMr⟩
end ZPS
