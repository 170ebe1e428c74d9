section ZPX
variable {g : zGt} {w : zW} {wm : Nat} {u : zU} {cm : Nat}
theorem zrgn (hI : zIn w wm u cm) : ∃ lf tp wd hg, u.i 16 = nI lf ∧ u.i 17 = nI tp ∧ u.i 18 = nI wd ∧ u.i 19 = nI hg ∧ lf + wd ≤ 32 ∧ tp + hg ≤ 32 := by
  obtain ⟨lf, tp, wd, hg, a1, a2, a3, a4, a5, a6, -⟩ := hI.1.2.2.1.1
  exact ⟨lf, tp, wd, hg, a1, a2, a3, a4, a5, a6⟩
theorem P_paint (hI : zIn w wm u cm) (p q v : Int32) : zPw g w wm u y_L_paint b_L_paint 5 [(0, 7, 10, 13)] y_M_paint b_M_paint 6 [.int p, .int q, .int v] := by
  by_cases hb : s_M_isBranch u p = 0 ∨ s_M_isLayer q = 0 ∨ s_M_isValue v = 0
  · exact zPw.bad hI 1 (fun d G hd hH => c_L_paint_iae g d (by omega) G (w.a 0 0) (zS (w.a 9) (w.i 0) (va_rf (w.o 8 0))) (hH.at 0 0 rfl) p q v 1 6 (c_S_paint_bad g (d - 1) (by omega) G w u cm hH hI.1 p q v hb)) (fun d G m hd hm => c_M_paint_bad g d (by omega) G u m hm p q v hb)
  simp only [not_or] at hb
  obtain ⟨h0, h1, h2⟩ := hb
  obtain ⟨a, qa, a1, rfl, -⟩ := hI.1.bra1 h0
  obtain ⟨b, b1, rfl⟩ := zlay h1
  obtain ⟨lf, tp, wd, hg, r1, r2, r3, r4, r5, r6⟩ := zrgn hI
  refine ⟨0, zfor hg (st_M_paint_y a b v lf wd tp) (zuc u 0 0), cm, 0, 0, ⟨by omega, by omega⟩, fun d G hd hH => (c_L_paint_ok g d (by omega) G (w.a 0 0) (zS (w.a 9) (w.i 0) (va_rf (w.o 8 0))) (hH.at 0 0 rfl) (nI a) (nI b) (v) 0 0 _ (c_S_paint_ok g (d - 1) (by omega) G w u cm hH hI.1 a b v lf tp wd hg r1 r2 r3 r4 r5 r6 a1 b1 h0 h1 h2)).mono (fun r G1 h => ?_), fun d G m hd hm => (c_M_paint_ok g d (by omega) G u m hm a b v lf tp wd hg r1 r2 r3 r4 r5 r6 a1 b1 h0 h1 h2).mono (fun r G1 h => zRx.q h ?_)⟩
  · have k := zSq.ee (res := r) hI hH a1 h0 h.2
    rw [h.1] at k ⊢
    exact k
  · show (zfor hg (st_M_paint_y a b v lf wd tp) (zuc u 0 0)).2.1 0 = 0
    rw [i_paint]
    exact zc00 u 0
theorem P_polygon (hI : zIn w wm u cm) (p q n v : Int32) : zPw g w wm u y_L_polygon b_L_polygon 6 [(0, 9, 12, 13)] y_M_polygon b_M_polygon 9 [.int p, .int q, .int n, .int v] := by
  by_cases hb : s_M_isBranch u p = 0 ∨ s_M_isLayer q = 0 ∨ n < 3 ∨ 6 < n ∨ s_M_isValue v = 0
  · exact zPw.bad hI 1 (fun d G hd hH => c_L_polygon_iae g d (by omega) G (w.a 0 0) (zS (w.a 9) (w.i 0) (va_rf (w.o 8 0))) (hH.at 0 0 rfl) p q n v 1 6 (c_S_polygon_bad g (d - 1) (by omega) G w u cm hH hI.1 p q n v hb)) (fun d G m hd hm => c_M_polygon_bad g d (by omega) G u m hm p q n v hb)
  simp only [not_or] at hb
  obtain ⟨h0, h1, h2, h3, h4⟩ := hb
  obtain ⟨a, qa, a1, rfl, -⟩ := hI.1.bra1 h0
  obtain ⟨b, b1, rfl⟩ := zlay h1
  obtain ⟨c, c1, rfl⟩ := nI_of (x := n) (fun z => h2 (Int32.lt_trans z (by decide)))
  have c2 : 3 ≤ c := by rw [show (3 : Int32) = nI 3 from rfl, nI_ltI c1 (by decide)] at h2; omega
  have c3 : c ≤ 6 := by rw [show (6 : Int32) = nI 6 from rfl, nI_ltI (by decide) c1] at h3; omega
  refine ⟨0, t_M_polygon u a b c v, cm, 0, 0, ⟨by omega, by omega⟩, fun d G hd hH => (c_L_polygon_ok g d (by omega) G (w.a 0 0) (zS (w.a 9) (w.i 0) (va_rf (w.o 8 0))) (hH.at 0 0 rfl) (nI a) (nI b) (nI c) (v) 0 0 _ (c_S_polygon_ok g (d - 1) (by omega) G w u cm hH hI.1 a b c v  a1 b1 c2 c3 h0 h1 h4)).mono (fun r G1 h => ?_), fun d G m hd hm => (c_M_polygon_ok g d (by omega) G u m hm a b c v  a1 b1 c2 c3 h0 h1 h4).mono (fun r G1 h => zRx.q h ?_)⟩
  · have k := zSq.ee (res := r) hI hH a1 h0 h.2
    rw [h.1] at k ⊢
    exact k
  · show (t_M_polygon u a b c v).2.1 0 = 0
    rw [i_polygon]
    exact zc00 u 0
theorem P_map (hI : zIn w wm u cm) (p q : Int32) : zPw g w wm u y_L_map b_L_map 4 [(0, 6, 9, 13)] y_M_map b_M_map 9 [.int p, .int q] := by
  by_cases hb : s_M_isBranch u p = 0 ∨ s_M_isLayer q = 0
  · exact zPw.bad hI 1 (fun d G hd hH => c_L_map_iae g d (by omega) G (w.a 0 0) (zS (w.a 9) (w.i 0) (va_rf (w.o 8 0))) (hH.at 0 0 rfl) p q 1 6 (c_S_map_bad g (d - 1) (by omega) G w u cm hH hI.1 p q hb)) (fun d G m hd hm => c_M_map_bad g d (by omega) G u m hm p q hb)
  simp only [not_or] at hb
  obtain ⟨h0, h1⟩ := hb
  obtain ⟨a, qa, a1, rfl, -⟩ := hI.1.bra1 h0
  obtain ⟨b, b1, rfl⟩ := zlay h1
  obtain ⟨lf, tp, wd, hg, r1, r2, r3, r4, r5, r6⟩ := zrgn hI
  refine ⟨0, t_M_map u a b lf tp wd hg, cm, 0, 0, ⟨by omega, by omega⟩, fun d G hd hH => (c_L_map_ok g d (by omega) G (w.a 0 0) (zS (w.a 9) (w.i 0) (va_rf (w.o 8 0))) (hH.at 0 0 rfl) (nI a) (nI b) 0 0 _ (c_S_map_ok g (d - 1) (by omega) G w u cm hH hI.1 a b lf tp wd hg r1 r2 r3 r4 r5 r6 a1 b1 h0 h1)).mono (fun r G1 h => ?_), fun d G m hd hm => (c_M_map_ok g d (by omega) G u m hm a b lf tp wd hg r1 r2 r3 r4 r5 r6 a1 b1 h0 h1).mono (fun r G1 h => zRx.q h ?_)⟩
  · have k := zSq.ee (res := r) hI hH a1 h0 h.2
    rw [h.1] at k ⊢
    exact k
  · show (t_M_map u a b lf tp wd hg).2.1 0 = 0
    rw [i_map]
    exact zc00 u 0
theorem P_combine (hI : zIn w wm u cm) (p q n v : Int32) : zPw g w wm u y_L_combine b_L_combine 6 [(0, 9, 12, 13)] y_M_combine b_M_combine 12 [.int p, .int q, .int n, .int v] := by
  by_cases hb : s_M_isBranch u p = 0 ∨ s_M_isLayer q = 0 ∨ s_M_isLayer n = 0 ∨ v < 0 ∨ ¬ v ≤ 2
  · exact zPw.bad hI 1 (fun d G hd hH => c_L_combine_iae g d (by omega) G (w.a 0 0) (zS (w.a 9) (w.i 0) (va_rf (w.o 8 0))) (hH.at 0 0 rfl) p q n v 1 6 (c_S_combine_bad g (d - 1) (by omega) G w u cm hH hI.1 p q n v hb)) (fun d G m hd hm => c_M_combine_bad g d (by omega) G u m hm p q n v hb)
  simp only [not_or] at hb
  obtain ⟨h0, h1, h2, h3, h4⟩ := hb
  obtain ⟨a, qa, a1, rfl, -⟩ := hI.1.bra1 h0
  obtain ⟨b, b1, rfl⟩ := zlay h1
  obtain ⟨c, c1, rfl⟩ := zlay h2
  obtain ⟨lf, tp, wd, hg, r1, r2, r3, r4, r5, r6⟩ := zrgn hI
  refine ⟨0, t_M_combine u a b c v lf tp wd hg, cm, 0, 0, ⟨by omega, by omega⟩, fun d G hd hH => (c_L_combine_ok g d (by omega) G (w.a 0 0) (zS (w.a 9) (w.i 0) (va_rf (w.o 8 0))) (hH.at 0 0 rfl) (nI a) (nI b) (nI c) (v) 0 0 _ (c_S_combine_ok g (d - 1) (by omega) G w u cm hH hI.1 a b c v lf tp wd hg r1 r2 r3 r4 r5 r6 a1 b1 c1 h0 h1 h2 h3 h4)).mono (fun r G1 h => ?_), fun d G m hd hm => (c_M_combine_ok g d (by omega) G u m hm a b c v lf tp wd hg r1 r2 r3 r4 r5 r6 a1 b1 c1 h0 h1 h2 h3 h4).mono (fun r G1 h => zRx.q h ?_)⟩
  · have k := zSq.ee (res := r) hI hH a1 h0 h.2
    rw [h.1] at k ⊢
    exact k
  · show (t_M_combine u a b c v lf tp wd hg).2.1 0 = 0
    rw [i_combine]
    exact zc00 u 0
theorem P_copy (hI : zIn w wm u cm) (p q c f x y : Int32) : zPw g w wm u y_L_copy b_L_copy 8 [(0, 13, 16, 13)] y_M_copy b_M_copy 12 [.int p, .int q, .int c, .int f, .int x, .int y] := by
  by_cases hb : s_M_isBranch u p = 0 ∨ s_M_isLayer q = 0 ∨ s_M_isCommit u c = 0 ∨ s_M_isLayer f = 0 ∨ x < 0 ∨ y < 0 ∨ 32 ≤ x ∨ 32 ≤ y ∨ 32 - x < u.i 18 ∨ 32 - y < u.i 19
  · exact zPw.bad hI 1 (fun d G hd hH => c_L_copy_iae g d (by omega) G (w.a 0 0) (zS (w.a 9) (w.i 0) (va_rf (w.o 8 0))) (hH.at 0 0 rfl) p q c f x y 1 6 (c_S_copy_bad g (d - 1) (by omega) G w u cm hH hI.1 p q c f x y hb)) (fun d G m hd hm => c_M_copy_bad g d (by omega) G u m hm p q c f x y hb)
  simp only [not_or] at hb
  obtain ⟨h0, h1, h2, h3, h4, h5, h6, h7, h8, h9⟩ := hb
  obtain ⟨a, qa, a1, rfl, -⟩ := hI.1.bra1 h0
  obtain ⟨b, b1, rfl⟩ := zlay h1
  obtain ⟨cc, cc1, rfl⟩ := zisc0 hI.1.i6 hI.1.hm h2
  have cc2 : cc < 24 := Nat.lt_of_lt_of_le cc1 hI.1.hm
  obtain ⟨e, e1, rfl⟩ := zlay h3
  obtain ⟨xx, xx1, rfl⟩ := zcoo h4 h6
  obtain ⟨yy, yy1, rfl⟩ := zcoo h5 h7
  obtain ⟨lf, tp, wd, hg, r1, r2, r3, r4, r5, r6⟩ := zrgn hI
  have xx2 : wd ≤ 32 - xx := by rw [r3, zn32, pk_sub (by omega), nI_ltI (by omega) (by omega)] at h8; omega
  have yy2 : hg ≤ 32 - yy := by rw [r4, zn32, pk_sub (by omega), nI_ltI (by omega) (by omega)] at h9; omega
  refine ⟨0, t_M_copy u a b cc e xx yy lf tp wd hg, cm, 0, 0, ⟨by omega, by omega⟩, fun d G hd hH => (c_L_copy_ok g d (by omega) G (w.a 0 0) (zS (w.a 9) (w.i 0) (va_rf (w.o 8 0))) (hH.at 0 0 rfl) (nI a) (nI b) (nI cc) (nI e) (nI xx) (nI yy) 0 0 _ (c_S_copy_ok g (d - 1) (by omega) G w u cm hH hI.1 a b cc e xx yy lf tp wd hg r1 r2 r3 r4 r5 r6 a1 b1 cc2 e1 xx1 yy1 xx2 yy2 h0 h1 h2 h3)).mono (fun r G1 h => ?_), fun d G m hd hm => (c_M_copy_ok g d (by omega) G u m hm a b cc e xx yy lf tp wd hg r1 r2 r3 r4 r5 r6 a1 b1 cc2 e1 xx1 yy1 xx2 yy2 h0 h1 h2 h3).mono (fun r G1 h => zRx.q h ?_)⟩
  · have k := zSq.ee (res := r) hI hH a1 h0 h.2
    rw [h.1] at k ⊢
    exact k
  · show (t_M_copy u a b cc e xx yy lf tp wd hg).2.1 0 = 0
    rw [i_copy]
    exact zc00 u 0
theorem P_branch (hI : zIn w wm u cm) (p q : Int32) : zPw g w wm u y_L_branch b_L_branch 4 [(0, 6, 9, 13), (0, 6, 12, 15)] y_M_branch b_M_branch 3 [.int p, .int q] := by
  by_cases hb : p < 0 ∨ 3 < p ∨ s_M_isCommit u q = 0
  · exact zPw.bad hI 1 (fun d G hd hH => c_L_branch_iae g d (by omega) G (w.a 0 0) (zS (w.a 9) (w.i 0) (va_rf (w.o 8 0))) (hH.at 0 0 rfl) p q 1 6 (c_S_branch_bad g (d - 1) (by omega) G w u cm hH hI.1 p q hb)) (fun d G m hd hm => c_M_branch_bad g d (by omega) G u m hm p q hb)
  simp only [not_or] at hb
  obtain ⟨h0, h1, h2⟩ := hb
  obtain ⟨a, a1, rfl⟩ := nI_of2 (x := p) (M := 3) (n := 3) rfl h0 (Int32.not_lt.mp h1)
  have a2 : a < 4 := by omega
  obtain ⟨c, c1, rfl⟩ := zisc0 hI.1.i6 hI.1.hm h2
  have c2 : c < 24 := Nat.lt_of_lt_of_le c1 hI.1.hm
  by_cases h7 : u.ar 7 a = 0
  · have hm : ∀ (d : Nat) (G : zG) (m : Nat), 80 ≤ d → zMv u m G → zMet g y_M_branch b_M_branch 3 none [] d 0 0 [.ref m, .int (nI a), .int (nI c)] G (zRx none 0 (t_M_branch u a c) u m G) := fun d G m hd hm => (c_M_branch_ok g d (by omega) G u m hm a c a2 c2 h7 h2).mono (fun r G1 h => zRx.q h (i_branch u a c))
    have hs : ∀ (d : Nat) (G : zG), 79 ≤ d → zHp w G → zMet g y_S_branch b_S_branch 4 none [] d 2 4101 [.ref (w.a 0 0), .int (nI a), .int (nI c)] G (zSq (.inl none) w wm (t_M_branch u a c) cm 2 4101 G) := by
      intro d G hd hH
      cases h3 : w.o 3 a with
      | none => exact c_S_branch_new g d (by omega) G w wm u cm hH hI a c a2 c2 h7 h2 h3 (hI.2.2 a h3)
      | some qb =>
        cases h5 : w.o 5 a with
        | none => exact c_S_branch_n g d (by omega) G w wm u cm hH hI a c a2 c2 h7 h2 qb h3 h5
        | some kq => exact c_S_branch_k g d (by omega) G w wm u cm hH hI a c a2 c2 h7 h2 qb h3 kq h5
    exact ⟨0, t_M_branch u a c, cm, 2, 4101, ⟨by omega, by omega⟩, fun d G hd hH => (c_L_branch_ok g d (by omega) G (w.a 0 0) (zS (w.a 9) (w.i 0) (va_rf (w.o 8 0))) (hH.at 0 0 rfl) (nI a) (nI c) 2 4101 _ (hs (d - 1) G (by omega) hH).sq).mono (fun r G1 h => ⟨h.1, h.2.2⟩), hm⟩
  · exact zPw.bad hI 2 (fun d G hd hH => c_L_branch_ise g d (by omega) G (w.a 0 0) (zS (w.a 9) (w.i 0) (va_rf (w.o 8 0))) (hH.at 0 0 rfl) (nI a) (nI c) 1 6 (c_S_branch_two g (d - 1) (by omega) G w u cm hH hI.1 a c a2 c2 h7 h2)) (fun d G m hd hm => c_M_branch_two g d (by omega) G u m hm a c a2 h7 h2)
end ZPX
