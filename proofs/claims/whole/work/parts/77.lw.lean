theorem c_L_branch_ok (g : zGt) (d : Nat) (hdd : 1 ≤ d) (G : zG) (x : Nat) (fs : List Value) (hx : G x = some (zO 0 fs)) (p0 p1 : Int32) (mc ms : Nat) (Q : zG → Prop) (hM : zMet g y_S_branch b_S_branch 4 none [] (d - 1) mc ms [.ref x, .int p0, .int p1] G (fun r G1 => r = .inl none ∧ Q G1)) : zMet g y_L_branch b_L_branch 4 (some .int) [(0, 6, 9, 13), (0, 6, 12, 15)] d mc ms [.ref x, .int p0, .int p1] G (fun r G1 => r = .inl (some (.int 0)) ∧ Q G1) := by
  refine zMet.of (by decide) (Nat.le_of_ble_eq_true rfl) rfl (fun X hX => ?_)
  refine zr_aload_n hX rfl d_L_branch_0 ?_
  refine zr_iload_n hX rfl d_L_branch_1 ?_
  refine zr_iload_n hX rfl d_L_branch_2 ?_
  refine zr_callV hX hM l_L_7 im_S_branch se_S_branch f_S_branch k_S.1 hx rfl (Nat.le_of_ble_eq_true rfl) (by omega) (by omega) (by omega) d_L_branch_3 (fun v9 G1 h => ?_) (fun E9 G1 h => ?_)
  · obtain ⟨h1, h2⟩ := h
    cases h1
    refine zr_goto hX (tgt := 15) (by decide) d_L_branch_6 ?_
    refine zr_iconst (v := 0) hX rfl d_L_branch_15 ?_
    exact zr_iret hX d_L_branch_16 ⟨rfl, h2⟩
  · obtain ⟨h1, -⟩ := h
    cases h1
theorem c_L_branch_iae (g : zGt) (d : Nat) (hdd : 1 ≤ d) (G : zG) (x : Nat) (fs : List Value) (hx : G x = some (zO 0 fs)) (p0 p1 : Int32) (mc ms : Nat) (hM : zMet g y_S_branch b_S_branch 4 none [] (d - 1) mc ms [.ref x, .int p0, .int p1] G (zDx "java/lang/IllegalArgumentException" G)) : zMet g y_L_branch b_L_branch 4 (some .int) [(0, 6, 9, 13), (0, 6, 12, 15)] d mc ms [.ref x, .int p0, .int p1] G (zD1 (.int 1) G) := by
  refine zMet.of (by decide) (Nat.le_of_ble_eq_true rfl) rfl (fun X hX => ?_)
  refine zr_aload_n hX rfl d_L_branch_0 ?_
  refine zr_iload_n hX rfl d_L_branch_1 ?_
  refine zr_iload_n hX rfl d_L_branch_2 ?_
  refine zr_callV hX hM l_L_7 im_S_branch se_S_branch f_S_branch k_S.1 hx rfl (Nat.le_of_ble_eq_true rfl) (by omega) (by omega) (by omega) d_L_branch_3 (fun v9 G1 h => ?_) (fun E9 G1 h => ?_)
  · obtain ⟨h1, -⟩ := h
    cases h1
  · obtain ⟨h1, h2⟩ := h
    cases h1
    subst h2
    refine zt_catch hX [] ⟨0, 6, 9, 13⟩ [⟨0, 6, 12, 15⟩] rfl (fun z hz => nomatch hz) (by decide) (by decide) q348 q356 (fun q9 => ?_)
    refine zs_astore_n hX (by decide) rfl d_L_branch_9 ?_
    refine zr_iconst (v := 1) hX rfl d_L_branch_10 ?_
    exact zr_iret hX d_L_branch_11 ⟨rfl, rfl⟩
theorem c_L_branch_ise (g : zGt) (d : Nat) (hdd : 1 ≤ d) (G : zG) (x : Nat) (fs : List Value) (hx : G x = some (zO 0 fs)) (p0 p1 : Int32) (mc ms : Nat) (hM : zMet g y_S_branch b_S_branch 4 none [] (d - 1) mc ms [.ref x, .int p0, .int p1] G (zDx "java/lang/IllegalStateException" G)) : zMet g y_L_branch b_L_branch 4 (some .int) [(0, 6, 9, 13), (0, 6, 12, 15)] d mc ms [.ref x, .int p0, .int p1] G (zD1 (.int 2) G) := by
  refine zMet.of (by decide) (Nat.le_of_ble_eq_true rfl) rfl (fun X hX => ?_)
  refine zr_aload_n hX rfl d_L_branch_0 ?_
  refine zr_iload_n hX rfl d_L_branch_1 ?_
  refine zr_iload_n hX rfl d_L_branch_2 ?_
  refine zr_callV hX hM l_L_7 im_S_branch se_S_branch f_S_branch k_S.1 hx rfl (Nat.le_of_ble_eq_true rfl) (by omega) (by omega) (by omega) d_L_branch_3 (fun v9 G1 h => ?_) (fun E9 G1 h => ?_)
  · obtain ⟨h1, -⟩ := h
    cases h1
  · obtain ⟨h1, h2⟩ := h
    cases h1
    subst h2
    refine zt_catch hX [⟨0, 6, 9, 13⟩] ⟨0, 6, 12, 15⟩ [] rfl (fun z hz => by rw [List.mem_singleton.mp hz]; exact Or.inr ⟨by decide, _, q348, qn2⟩) (by decide) (by decide) q349 q418 (fun q9 => ?_)
    refine zs_astore_n hX (by decide) rfl d_L_branch_12 ?_
    refine zr_iconst (v := 2) hX rfl d_L_branch_13 ?_
    exact zr_iret hX d_L_branch_14 ⟨rfl, rfl⟩
theorem c_L_paint_ok (g : zGt) (d : Nat) (hdd : 1 ≤ d) (G : zG) (x : Nat) (fs : List Value) (hx : G x = some (zO 0 fs)) (p0 p1 p2 : Int32) (mc ms : Nat) (Q : zG → Prop) (hM : zMet g y_S_paint b_S_paint 7 none [] (d - 1) mc ms [.ref x, .int p0, .int p1, .int p2] G (fun r G1 => r = .inl none ∧ Q G1)) : zMet g y_L_paint b_L_paint 5 (some .int) [(0, 7, 10, 13)] d mc ms [.ref x, .int p0, .int p1, .int p2] G (fun r G1 => r = .inl (some (.int 0)) ∧ Q G1) := by
  refine zMet.of (by decide) (Nat.le_of_ble_eq_true rfl) rfl (fun X hX => ?_)
  refine zr_aload_n hX rfl d_L_paint_0 ?_
  refine zr_iload_n hX rfl d_L_paint_1 ?_
  refine zr_iload_n hX rfl d_L_paint_2 ?_
  refine zr_iload_n hX rfl d_L_paint_3 ?_
  refine zr_callV hX hM l_L_17 im_S_paint se_S_paint f_S_paint k_S.1 hx rfl (Nat.le_of_ble_eq_true rfl) (by omega) (by omega) (by omega) d_L_paint_4 (fun v9 G1 h => ?_) (fun E9 G1 h => ?_)
  · obtain ⟨h1, h2⟩ := h
    cases h1
    refine zr_goto hX (tgt := 14) (by decide) d_L_paint_7 ?_
    refine zr_iconst (v := 0) hX rfl d_L_paint_14 ?_
    exact zr_iret hX d_L_paint_15 ⟨rfl, h2⟩
  · obtain ⟨h1, -⟩ := h
    cases h1
theorem c_L_paint_iae (g : zGt) (d : Nat) (hdd : 1 ≤ d) (G : zG) (x : Nat) (fs : List Value) (hx : G x = some (zO 0 fs)) (p0 p1 p2 : Int32) (mc ms : Nat) (hM : zMet g y_S_paint b_S_paint 7 none [] (d - 1) mc ms [.ref x, .int p0, .int p1, .int p2] G (zDx "java/lang/IllegalArgumentException" G)) : zMet g y_L_paint b_L_paint 5 (some .int) [(0, 7, 10, 13)] d mc ms [.ref x, .int p0, .int p1, .int p2] G (zD1 (.int 1) G) := by
  refine zMet.of (by decide) (Nat.le_of_ble_eq_true rfl) rfl (fun X hX => ?_)
  refine zr_aload_n hX rfl d_L_paint_0 ?_
  refine zr_iload_n hX rfl d_L_paint_1 ?_
  refine zr_iload_n hX rfl d_L_paint_2 ?_
  refine zr_iload_n hX rfl d_L_paint_3 ?_
  refine zr_callV hX hM l_L_17 im_S_paint se_S_paint f_S_paint k_S.1 hx rfl (Nat.le_of_ble_eq_true rfl) (by omega) (by omega) (by omega) d_L_paint_4 (fun v9 G1 h => ?_) (fun E9 G1 h => ?_)
  · obtain ⟨h1, -⟩ := h
    cases h1
  · obtain ⟨h1, h2⟩ := h
    cases h1
    subst h2
    refine zt_catch hX [] ⟨0, 7, 10, 13⟩ [] rfl (fun z hz => nomatch hz) (by decide) (by decide) q348 q356 (fun q9 => ?_)
    refine zs_astore hX (by decide) rfl d_L_paint_10 ?_
    refine zr_iconst (v := 1) hX rfl d_L_paint_12 ?_
    exact zr_iret hX d_L_paint_13 ⟨rfl, rfl⟩
theorem c_L_polygon_ok (g : zGt) (d : Nat) (hdd : 1 ≤ d) (G : zG) (x : Nat) (fs : List Value) (hx : G x = some (zO 0 fs)) (p0 p1 p2 p3 : Int32) (mc ms : Nat) (Q : zG → Prop) (hM : zMet g y_S_polygon b_S_polygon 8 none [] (d - 1) mc ms [.ref x, .int p0, .int p1, .int p2, .int p3] G (fun r G1 => r = .inl none ∧ Q G1)) : zMet g y_L_polygon b_L_polygon 6 (some .int) [(0, 9, 12, 13)] d mc ms [.ref x, .int p0, .int p1, .int p2, .int p3] G (fun r G1 => r = .inl (some (.int 0)) ∧ Q G1) := by
  refine zMet.of (by decide) (Nat.le_of_ble_eq_true rfl) rfl (fun X hX => ?_)
  refine zr_aload_n hX rfl d_L_polygon_0 ?_
  refine zr_iload_n hX rfl d_L_polygon_1 ?_
  refine zr_iload_n hX rfl d_L_polygon_2 ?_
  refine zr_iload_n hX rfl d_L_polygon_3 ?_
  refine zr_iload hX rfl d_L_polygon_4 ?_
  refine zr_callV hX hM l_L_21 im_S_polygon se_S_polygon f_S_polygon k_S.1 hx rfl (Nat.le_of_ble_eq_true rfl) (by omega) (by omega) (by omega) d_L_polygon_6 (fun v9 G1 h => ?_) (fun E9 G1 h => ?_)
  · obtain ⟨h1, h2⟩ := h
    cases h1
    refine zr_goto hX (tgt := 16) (by decide) d_L_polygon_9 ?_
    refine zr_iconst (v := 0) hX rfl d_L_polygon_16 ?_
    exact zr_iret hX d_L_polygon_17 ⟨rfl, h2⟩
  · obtain ⟨h1, -⟩ := h
    cases h1
theorem c_L_polygon_iae (g : zGt) (d : Nat) (hdd : 1 ≤ d) (G : zG) (x : Nat) (fs : List Value) (hx : G x = some (zO 0 fs)) (p0 p1 p2 p3 : Int32) (mc ms : Nat) (hM : zMet g y_S_polygon b_S_polygon 8 none [] (d - 1) mc ms [.ref x, .int p0, .int p1, .int p2, .int p3] G (zDx "java/lang/IllegalArgumentException" G)) : zMet g y_L_polygon b_L_polygon 6 (some .int) [(0, 9, 12, 13)] d mc ms [.ref x, .int p0, .int p1, .int p2, .int p3] G (zD1 (.int 1) G) := by
  refine zMet.of (by decide) (Nat.le_of_ble_eq_true rfl) rfl (fun X hX => ?_)
  refine zr_aload_n hX rfl d_L_polygon_0 ?_
  refine zr_iload_n hX rfl d_L_polygon_1 ?_
  refine zr_iload_n hX rfl d_L_polygon_2 ?_
  refine zr_iload_n hX rfl d_L_polygon_3 ?_
  refine zr_iload hX rfl d_L_polygon_4 ?_
  refine zr_callV hX hM l_L_21 im_S_polygon se_S_polygon f_S_polygon k_S.1 hx rfl (Nat.le_of_ble_eq_true rfl) (by omega) (by omega) (by omega) d_L_polygon_6 (fun v9 G1 h => ?_) (fun E9 G1 h => ?_)
  · obtain ⟨h1, -⟩ := h
    cases h1
  · obtain ⟨h1, h2⟩ := h
    cases h1
    subst h2
    refine zt_catch hX [] ⟨0, 9, 12, 13⟩ [] rfl (fun z hz => nomatch hz) (by decide) (by decide) q348 q356 (fun q9 => ?_)
    refine zs_astore hX (by decide) rfl d_L_polygon_12 ?_
    refine zr_iconst (v := 1) hX rfl d_L_polygon_14 ?_
    exact zr_iret hX d_L_polygon_15 ⟨rfl, rfl⟩
theorem c_L_copy_ok (g : zGt) (d : Nat) (hdd : 1 ≤ d) (G : zG) (x : Nat) (fs : List Value) (hx : G x = some (zO 0 fs)) (p0 p1 p2 p3 p4 p5 : Int32) (mc ms : Nat) (Q : zG → Prop) (hM : zMet g y_S_copy b_S_copy 11 none [] (d - 1) mc ms [.ref x, .int p0, .int p1, .int p2, .int p3, .int p4, .int p5] G (fun r G1 => r = .inl none ∧ Q G1)) : zMet g y_L_copy b_L_copy 8 (some .int) [(0, 13, 16, 13)] d mc ms [.ref x, .int p0, .int p1, .int p2, .int p3, .int p4, .int p5] G (fun r G1 => r = .inl (some (.int 0)) ∧ Q G1) := by
  refine zMet.of (by decide) (Nat.le_of_ble_eq_true rfl) rfl (fun X hX => ?_)
  refine zr_aload_n hX rfl d_L_copy_0 ?_
  refine zr_iload_n hX rfl d_L_copy_1 ?_
  refine zr_iload_n hX rfl d_L_copy_2 ?_
  refine zr_iload_n hX rfl d_L_copy_3 ?_
  refine zr_iload hX rfl d_L_copy_4 ?_
  refine zr_iload hX rfl d_L_copy_6 ?_
  refine zr_iload hX rfl d_L_copy_8 ?_
  refine zr_callV hX hM l_L_25 im_S_copy se_S_copy f_S_copy k_S.1 hx rfl (Nat.le_of_ble_eq_true rfl) (by omega) (by omega) (by omega) d_L_copy_10 (fun v9 G1 h => ?_) (fun E9 G1 h => ?_)
  · obtain ⟨h1, h2⟩ := h
    cases h1
    refine zr_goto hX (tgt := 20) (by decide) d_L_copy_13 ?_
    refine zr_iconst (v := 0) hX rfl d_L_copy_20 ?_
    exact zr_iret hX d_L_copy_21 ⟨rfl, h2⟩
  · obtain ⟨h1, -⟩ := h
    cases h1
theorem c_L_copy_iae (g : zGt) (d : Nat) (hdd : 1 ≤ d) (G : zG) (x : Nat) (fs : List Value) (hx : G x = some (zO 0 fs)) (p0 p1 p2 p3 p4 p5 : Int32) (mc ms : Nat) (hM : zMet g y_S_copy b_S_copy 11 none [] (d - 1) mc ms [.ref x, .int p0, .int p1, .int p2, .int p3, .int p4, .int p5] G (zDx "java/lang/IllegalArgumentException" G)) : zMet g y_L_copy b_L_copy 8 (some .int) [(0, 13, 16, 13)] d mc ms [.ref x, .int p0, .int p1, .int p2, .int p3, .int p4, .int p5] G (zD1 (.int 1) G) := by
  refine zMet.of (by decide) (Nat.le_of_ble_eq_true rfl) rfl (fun X hX => ?_)
  refine zr_aload_n hX rfl d_L_copy_0 ?_
  refine zr_iload_n hX rfl d_L_copy_1 ?_
  refine zr_iload_n hX rfl d_L_copy_2 ?_
  refine zr_iload_n hX rfl d_L_copy_3 ?_
  refine zr_iload hX rfl d_L_copy_4 ?_
  refine zr_iload hX rfl d_L_copy_6 ?_
  refine zr_iload hX rfl d_L_copy_8 ?_
  refine zr_callV hX hM l_L_25 im_S_copy se_S_copy f_S_copy k_S.1 hx rfl (Nat.le_of_ble_eq_true rfl) (by omega) (by omega) (by omega) d_L_copy_10 (fun v9 G1 h => ?_) (fun E9 G1 h => ?_)
  · obtain ⟨h1, -⟩ := h
    cases h1
  · obtain ⟨h1, h2⟩ := h
    cases h1
    subst h2
    refine zt_catch hX [] ⟨0, 13, 16, 13⟩ [] rfl (fun z hz => nomatch hz) (by decide) (by decide) q348 q356 (fun q9 => ?_)
    refine zs_astore hX (by decide) rfl d_L_copy_16 ?_
    refine zr_iconst (v := 1) hX rfl d_L_copy_18 ?_
    exact zr_iret hX d_L_copy_19 ⟨rfl, rfl⟩
theorem c_L_map_ok (g : zGt) (d : Nat) (hdd : 1 ≤ d) (G : zG) (x : Nat) (fs : List Value) (hx : G x = some (zO 0 fs)) (p0 p1 : Int32) (mc ms : Nat) (Q : zG → Prop) (hM : zMet g y_S_map b_S_map 8 none [] (d - 1) mc ms [.ref x, .int p0, .int p1] G (fun r G1 => r = .inl none ∧ Q G1)) : zMet g y_L_map b_L_map 4 (some .int) [(0, 6, 9, 13)] d mc ms [.ref x, .int p0, .int p1] G (fun r G1 => r = .inl (some (.int 0)) ∧ Q G1) := by
  refine zMet.of (by decide) (Nat.le_of_ble_eq_true rfl) rfl (fun X hX => ?_)
  refine zr_aload_n hX rfl d_L_map_0 ?_
  refine zr_iload_n hX rfl d_L_map_1 ?_
  refine zr_iload_n hX rfl d_L_map_2 ?_
  refine zr_callV hX hM l_L_29 im_S_map se_S_map f_S_map k_S.1 hx rfl (Nat.le_of_ble_eq_true rfl) (by omega) (by omega) (by omega) d_L_map_3 (fun v9 G1 h => ?_) (fun E9 G1 h => ?_)
  · obtain ⟨h1, h2⟩ := h
    cases h1
    refine zr_goto hX (tgt := 12) (by decide) d_L_map_6 ?_
    refine zr_iconst (v := 0) hX rfl d_L_map_12 ?_
    exact zr_iret hX d_L_map_13 ⟨rfl, h2⟩
  · obtain ⟨h1, -⟩ := h
    cases h1
theorem c_L_map_iae (g : zGt) (d : Nat) (hdd : 1 ≤ d) (G : zG) (x : Nat) (fs : List Value) (hx : G x = some (zO 0 fs)) (p0 p1 : Int32) (mc ms : Nat) (hM : zMet g y_S_map b_S_map 8 none [] (d - 1) mc ms [.ref x, .int p0, .int p1] G (zDx "java/lang/IllegalArgumentException" G)) : zMet g y_L_map b_L_map 4 (some .int) [(0, 6, 9, 13)] d mc ms [.ref x, .int p0, .int p1] G (zD1 (.int 1) G) := by
  refine zMet.of (by decide) (Nat.le_of_ble_eq_true rfl) rfl (fun X hX => ?_)
  refine zr_aload_n hX rfl d_L_map_0 ?_
  refine zr_iload_n hX rfl d_L_map_1 ?_
  refine zr_iload_n hX rfl d_L_map_2 ?_
  refine zr_callV hX hM l_L_29 im_S_map se_S_map f_S_map k_S.1 hx rfl (Nat.le_of_ble_eq_true rfl) (by omega) (by omega) (by omega) d_L_map_3 (fun v9 G1 h => ?_) (fun E9 G1 h => ?_)
  · obtain ⟨h1, -⟩ := h
    cases h1
  · obtain ⟨h1, h2⟩ := h
    cases h1
    subst h2
    refine zt_catch hX [] ⟨0, 6, 9, 13⟩ [] rfl (fun z hz => nomatch hz) (by decide) (by decide) q348 q356 (fun q9 => ?_)
    refine zs_astore_n hX (by decide) rfl d_L_map_9 ?_
    refine zr_iconst (v := 1) hX rfl d_L_map_10 ?_
    exact zr_iret hX d_L_map_11 ⟨rfl, rfl⟩
theorem c_L_combine_ok (g : zGt) (d : Nat) (hdd : 1 ≤ d) (G : zG) (x : Nat) (fs : List Value) (hx : G x = some (zO 0 fs)) (p0 p1 p2 p3 : Int32) (mc ms : Nat) (Q : zG → Prop) (hM : zMet g y_S_combine b_S_combine 11 none [] (d - 1) mc ms [.ref x, .int p0, .int p1, .int p2, .int p3] G (fun r G1 => r = .inl none ∧ Q G1)) : zMet g y_L_combine b_L_combine 6 (some .int) [(0, 9, 12, 13)] d mc ms [.ref x, .int p0, .int p1, .int p2, .int p3] G (fun r G1 => r = .inl (some (.int 0)) ∧ Q G1) := by
  refine zMet.of (by decide) (Nat.le_of_ble_eq_true rfl) rfl (fun X hX => ?_)
  refine zr_aload_n hX rfl d_L_combine_0 ?_
  refine zr_iload_n hX rfl d_L_combine_1 ?_
  refine zr_iload_n hX rfl d_L_combine_2 ?_
  refine zr_iload_n hX rfl d_L_combine_3 ?_
  refine zr_iload hX rfl d_L_combine_4 ?_
  refine zr_callV hX hM l_L_32 im_S_combine se_S_combine f_S_combine k_S.1 hx rfl (Nat.le_of_ble_eq_true rfl) (by omega) (by omega) (by omega) d_L_combine_6 (fun v9 G1 h => ?_) (fun E9 G1 h => ?_)
  · obtain ⟨h1, h2⟩ := h
    cases h1
    refine zr_goto hX (tgt := 16) (by decide) d_L_combine_9 ?_
    refine zr_iconst (v := 0) hX rfl d_L_combine_16 ?_
    exact zr_iret hX d_L_combine_17 ⟨rfl, h2⟩
  · obtain ⟨h1, -⟩ := h
    cases h1
theorem c_L_combine_iae (g : zGt) (d : Nat) (hdd : 1 ≤ d) (G : zG) (x : Nat) (fs : List Value) (hx : G x = some (zO 0 fs)) (p0 p1 p2 p3 : Int32) (mc ms : Nat) (hM : zMet g y_S_combine b_S_combine 11 none [] (d - 1) mc ms [.ref x, .int p0, .int p1, .int p2, .int p3] G (zDx "java/lang/IllegalArgumentException" G)) : zMet g y_L_combine b_L_combine 6 (some .int) [(0, 9, 12, 13)] d mc ms [.ref x, .int p0, .int p1, .int p2, .int p3] G (zD1 (.int 1) G) := by
  refine zMet.of (by decide) (Nat.le_of_ble_eq_true rfl) rfl (fun X hX => ?_)
  refine zr_aload_n hX rfl d_L_combine_0 ?_
  refine zr_iload_n hX rfl d_L_combine_1 ?_
  refine zr_iload_n hX rfl d_L_combine_2 ?_
  refine zr_iload_n hX rfl d_L_combine_3 ?_
  refine zr_iload hX rfl d_L_combine_4 ?_
  refine zr_callV hX hM l_L_32 im_S_combine se_S_combine f_S_combine k_S.1 hx rfl (Nat.le_of_ble_eq_true rfl) (by omega) (by omega) (by omega) d_L_combine_6 (fun v9 G1 h => ?_) (fun E9 G1 h => ?_)
  · obtain ⟨h1, -⟩ := h
    cases h1
  · obtain ⟨h1, h2⟩ := h
    cases h1
    subst h2
    refine zt_catch hX [] ⟨0, 9, 12, 13⟩ [] rfl (fun z hz => nomatch hz) (by decide) (by decide) q348 q356 (fun q9 => ?_)
    refine zs_astore hX (by decide) rfl d_L_combine_12 ?_
    refine zr_iconst (v := 1) hX rfl d_L_combine_14 ?_
    exact zr_iret hX d_L_combine_15 ⟨rfl, rfl⟩
theorem c_L_commit_ok (g : zGt) (d : Nat) (hdd : 1 ≤ d) (G : zG) (x : Nat) (fs : List Value) (hx : G x = some (zO 0 fs)) (p0 : Int32) (mc ms : Nat) (out : Nat) (Q : zG → Prop) (v : Int32) (fo : Nat → Int64) (hQ : ∀ G1, Q G1 → G1 out = some (zJ 1 fo)) (hM : zMet g y_S_commit b_S_commit 5 (some .int) [] (d - 1) mc ms [.ref x, .int p0] G (fun r G1 => r = .inl (some (.int v)) ∧ Q G1)) : zMet g y_L_commit b_L_commit 4 (some .int) [(0, 9, 12, 13), (0, 9, 15, 15)] d mc ms [.ref x, .int p0, .ref out] G (fun r G1 => r = .inl (some (.int 0)) ∧ ∃ G2, Q G2 ∧ G1 = zput G2 out (zJ 1 (vp_updL fo 0 v.toInt64))) := by
  refine zMet.of (by decide) (Nat.le_of_ble_eq_true rfl) rfl (fun X hX => ?_)
  refine zr_aload_n hX rfl d_L_commit_0 ?_
  refine zr_iconst (v := 0) hX rfl d_L_commit_1 ?_
  refine zr_aload_n hX rfl d_L_commit_2 ?_
  refine zr_iload_n hX rfl d_L_commit_3 ?_
  refine zr_callV hX hM l_L_35 im_S_commit se_S_commit f_S_commit k_S.1 hx rfl (Nat.le_of_ble_eq_true rfl) (by omega) (by omega) (by omega) d_L_commit_4 (fun v9 G1 h => ?_) (fun E9 G1 h => ?_)
  · obtain ⟨h1, h2⟩ := h
    cases h1
    refine zr_i2l hX d_L_commit_7 ?_
    refine zr_lastN hX (hQ G1 h2) 0 rfl (by decide) (by decide) d_L_commit_8 ?_
    refine zr_goto hX (tgt := 18) (by decide) d_L_commit_9 ?_
    refine zr_iconst (v := 0) hX rfl d_L_commit_18 ?_
    exact zr_iret hX d_L_commit_19 ⟨rfl, G1, h2, rfl⟩
  · obtain ⟨h1, -⟩ := h
    cases h1
theorem c_L_commit_iae (g : zGt) (d : Nat) (hdd : 1 ≤ d) (G : zG) (x : Nat) (fs : List Value) (hx : G x = some (zO 0 fs)) (p0 : Int32) (mc ms : Nat) (out : Nat) (hM : zMet g y_S_commit b_S_commit 5 (some .int) [] (d - 1) mc ms [.ref x, .int p0] G (zDx "java/lang/IllegalArgumentException" G)) : zMet g y_L_commit b_L_commit 4 (some .int) [(0, 9, 12, 13), (0, 9, 15, 15)] d mc ms [.ref x, .int p0, .ref out] G (zD1 (.int 1) G) := by
  refine zMet.of (by decide) (Nat.le_of_ble_eq_true rfl) rfl (fun X hX => ?_)
  refine zr_aload_n hX rfl d_L_commit_0 ?_
  refine zr_iconst (v := 0) hX rfl d_L_commit_1 ?_
  refine zr_aload_n hX rfl d_L_commit_2 ?_
  refine zr_iload_n hX rfl d_L_commit_3 ?_
  refine zr_callV hX hM l_L_35 im_S_commit se_S_commit f_S_commit k_S.1 hx rfl (Nat.le_of_ble_eq_true rfl) (by omega) (by omega) (by omega) d_L_commit_4 (fun v9 G1 h => ?_) (fun E9 G1 h => ?_)
  · obtain ⟨h1, -⟩ := h
    cases h1
  · obtain ⟨h1, h2⟩ := h
    cases h1
    subst h2
    refine zt_catch hX [] ⟨0, 9, 12, 13⟩ [⟨0, 9, 15, 15⟩] rfl (fun z hz => nomatch hz) (by decide) (by decide) q348 q356 (fun q9 => ?_)
    refine zs_astore_n hX (by decide) rfl d_L_commit_12 ?_
    refine zr_iconst (v := 1) hX rfl d_L_commit_13 ?_
    exact zr_iret hX d_L_commit_14 ⟨rfl, rfl⟩
theorem c_L_commit_ise (g : zGt) (d : Nat) (hdd : 1 ≤ d) (G : zG) (x : Nat) (fs : List Value) (hx : G x = some (zO 0 fs)) (p0 : Int32) (mc ms : Nat) (out : Nat) (hM : zMet g y_S_commit b_S_commit 5 (some .int) [] (d - 1) mc ms [.ref x, .int p0] G (zDx "java/lang/IllegalStateException" G)) : zMet g y_L_commit b_L_commit 4 (some .int) [(0, 9, 12, 13), (0, 9, 15, 15)] d mc ms [.ref x, .int p0, .ref out] G (zD1 (.int 2) G) := by
  refine zMet.of (by decide) (Nat.le_of_ble_eq_true rfl) rfl (fun X hX => ?_)
  refine zr_aload_n hX rfl d_L_commit_0 ?_
  refine zr_iconst (v := 0) hX rfl d_L_commit_1 ?_
  refine zr_aload_n hX rfl d_L_commit_2 ?_
  refine zr_iload_n hX rfl d_L_commit_3 ?_
  refine zr_callV hX hM l_L_35 im_S_commit se_S_commit f_S_commit k_S.1 hx rfl (Nat.le_of_ble_eq_true rfl) (by omega) (by omega) (by omega) d_L_commit_4 (fun v9 G1 h => ?_) (fun E9 G1 h => ?_)
  · obtain ⟨h1, -⟩ := h
    cases h1
  · obtain ⟨h1, h2⟩ := h
    cases h1
    subst h2
    refine zt_catch hX [⟨0, 9, 12, 13⟩] ⟨0, 9, 15, 15⟩ [] rfl (fun z hz => by rw [List.mem_singleton.mp hz]; exact Or.inr ⟨by decide, _, q348, qn2⟩) (by decide) (by decide) q349 q418 (fun q9 => ?_)
    refine zs_astore_n hX (by decide) rfl d_L_commit_15 ?_
    refine zr_iconst (v := 2) hX rfl d_L_commit_16 ?_
    exact zr_iret hX d_L_commit_17 ⟨rfl, rfl⟩
theorem c_L_merge_ok (g : zGt) (d : Nat) (hdd : 1 ≤ d) (G : zG) (x : Nat) (fs : List Value) (hx : G x = some (zO 0 fs)) (p0 p1 : Int32) (mc ms : Nat) (out : Nat) (Q : zG → Prop) (v : Int32) (fo : Nat → Int64) (hQ : ∀ G1, Q G1 → G1 out = some (zJ 1 fo)) (hM : zMet g y_S_merge b_S_merge 7 (some .int) [] (d - 1) mc ms [.ref x, .int p0, .int p1] G (fun r G1 => r = .inl (some (.int v)) ∧ Q G1)) : zMet g y_L_merge b_L_merge 5 (some .int) [(0, 10, 13, 13), (0, 10, 17, 15)] d mc ms [.ref x, .int p0, .int p1, .ref out] G (fun r G1 => r = .inl (some (.int 0)) ∧ ∃ G2, Q G2 ∧ G1 = zput G2 out (zJ 1 (vp_updL fo 0 v.toInt64))) := by
  refine zMet.of (by decide) (Nat.le_of_ble_eq_true rfl) rfl (fun X hX => ?_)
  refine zr_aload_n hX rfl d_L_merge_0 ?_
  refine zr_iconst (v := 0) hX rfl d_L_merge_1 ?_
  refine zr_aload_n hX rfl d_L_merge_2 ?_
  refine zr_iload_n hX rfl d_L_merge_3 ?_
  refine zr_iload_n hX rfl d_L_merge_4 ?_
  refine zr_callV hX hM l_L_39 im_S_merge se_S_merge f_S_merge k_S.1 hx rfl (Nat.le_of_ble_eq_true rfl) (by omega) (by omega) (by omega) d_L_merge_5 (fun v9 G1 h => ?_) (fun E9 G1 h => ?_)
  · obtain ⟨h1, h2⟩ := h
    cases h1
    refine zr_i2l hX d_L_merge_8 ?_
    refine zr_lastN hX (hQ G1 h2) 0 rfl (by decide) (by decide) d_L_merge_9 ?_
    refine zr_goto hX (tgt := 21) (by decide) d_L_merge_10 ?_
    refine zr_iconst (v := 0) hX rfl d_L_merge_21 ?_
    exact zr_iret hX d_L_merge_22 ⟨rfl, G1, h2, rfl⟩
  · obtain ⟨h1, -⟩ := h
    cases h1
theorem c_L_merge_iae (g : zGt) (d : Nat) (hdd : 1 ≤ d) (G : zG) (x : Nat) (fs : List Value) (hx : G x = some (zO 0 fs)) (p0 p1 : Int32) (mc ms : Nat) (out : Nat) (hM : zMet g y_S_merge b_S_merge 7 (some .int) [] (d - 1) mc ms [.ref x, .int p0, .int p1] G (zDx "java/lang/IllegalArgumentException" G)) : zMet g y_L_merge b_L_merge 5 (some .int) [(0, 10, 13, 13), (0, 10, 17, 15)] d mc ms [.ref x, .int p0, .int p1, .ref out] G (zD1 (.int 1) G) := by
  refine zMet.of (by decide) (Nat.le_of_ble_eq_true rfl) rfl (fun X hX => ?_)
  refine zr_aload_n hX rfl d_L_merge_0 ?_
  refine zr_iconst (v := 0) hX rfl d_L_merge_1 ?_
  refine zr_aload_n hX rfl d_L_merge_2 ?_
  refine zr_iload_n hX rfl d_L_merge_3 ?_
  refine zr_iload_n hX rfl d_L_merge_4 ?_
  refine zr_callV hX hM l_L_39 im_S_merge se_S_merge f_S_merge k_S.1 hx rfl (Nat.le_of_ble_eq_true rfl) (by omega) (by omega) (by omega) d_L_merge_5 (fun v9 G1 h => ?_) (fun E9 G1 h => ?_)
  · obtain ⟨h1, -⟩ := h
    cases h1
  · obtain ⟨h1, h2⟩ := h
    cases h1
    subst h2
    refine zt_catch hX [] ⟨0, 10, 13, 13⟩ [⟨0, 10, 17, 15⟩] rfl (fun z hz => nomatch hz) (by decide) (by decide) q348 q356 (fun q9 => ?_)
    refine zs_astore hX (by decide) rfl d_L_merge_13 ?_
    refine zr_iconst (v := 1) hX rfl d_L_merge_15 ?_
    exact zr_iret hX d_L_merge_16 ⟨rfl, rfl⟩
theorem c_L_merge_ise (g : zGt) (d : Nat) (hdd : 1 ≤ d) (G : zG) (x : Nat) (fs : List Value) (hx : G x = some (zO 0 fs)) (p0 p1 : Int32) (mc ms : Nat) (out : Nat) (hM : zMet g y_S_merge b_S_merge 7 (some .int) [] (d - 1) mc ms [.ref x, .int p0, .int p1] G (zDx "java/lang/IllegalStateException" G)) : zMet g y_L_merge b_L_merge 5 (some .int) [(0, 10, 13, 13), (0, 10, 17, 15)] d mc ms [.ref x, .int p0, .int p1, .ref out] G (zD1 (.int 2) G) := by
  refine zMet.of (by decide) (Nat.le_of_ble_eq_true rfl) rfl (fun X hX => ?_)
  refine zr_aload_n hX rfl d_L_merge_0 ?_
  refine zr_iconst (v := 0) hX rfl d_L_merge_1 ?_
  refine zr_aload_n hX rfl d_L_merge_2 ?_
  refine zr_iload_n hX rfl d_L_merge_3 ?_
  refine zr_iload_n hX rfl d_L_merge_4 ?_
  refine zr_callV hX hM l_L_39 im_S_merge se_S_merge f_S_merge k_S.1 hx rfl (Nat.le_of_ble_eq_true rfl) (by omega) (by omega) (by omega) d_L_merge_5 (fun v9 G1 h => ?_) (fun E9 G1 h => ?_)
  · obtain ⟨h1, -⟩ := h
    cases h1
  · obtain ⟨h1, h2⟩ := h
    cases h1
    subst h2
    refine zt_catch hX [⟨0, 10, 13, 13⟩] ⟨0, 10, 17, 15⟩ [] rfl (fun z hz => by rw [List.mem_singleton.mp hz]; exact Or.inr ⟨by decide, _, q348, qn2⟩) (by decide) (by decide) q349 q418 (fun q9 => ?_)
    refine zs_astore hX (by decide) rfl d_L_merge_17 ?_
    refine zr_iconst (v := 2) hX rfl d_L_merge_19 ?_
    exact zr_iret hX d_L_merge_20 ⟨rfl, rfl⟩
theorem c_L_settle_ok (g : zGt) (d : Nat) (hdd : 1 ≤ d) (G : zG) (x : Nat) (fs : List Value) (hx : G x = some (zO 0 fs)) (p0 p1 p2 : Int32) (mc ms : Nat) (out : Nat) (Q : zG → Prop) (v : Int32) (fo : Nat → Int64) (hQ : ∀ G1, Q G1 → G1 out = some (zJ 1 fo)) (hM : zMet g y_S_settle b_S_settle 5 (some .int) [] (d - 1) mc ms [.ref x, .int p0, .int p1, .int p2] G (fun r G1 => r = .inl (some (.int v)) ∧ Q G1)) : zMet g y_L_settle b_L_settle 6 (some .int) [(0, 12, 15, 13)] d mc ms [.ref x, .int p0, .int p1, .int p2, .ref out] G (fun r G1 => r = .inl (some (.int 0)) ∧ ∃ G2, Q G2 ∧ G1 = zput G2 out (zJ 1 (vp_updL fo 0 v.toInt64))) := by
  refine zMet.of (by decide) (Nat.le_of_ble_eq_true rfl) rfl (fun X hX => ?_)
  refine zr_aload hX rfl d_L_settle_0 ?_
  refine zr_iconst (v := 0) hX rfl d_L_settle_2 ?_
  refine zr_aload_n hX rfl d_L_settle_3 ?_
  refine zr_iload_n hX rfl d_L_settle_4 ?_
  refine zr_iload_n hX rfl d_L_settle_5 ?_
  refine zr_iload_n hX rfl d_L_settle_6 ?_
  refine zr_callV hX hM l_L_43 im_S_settle se_S_settle f_S_settle k_S.1 hx rfl (Nat.le_of_ble_eq_true rfl) (by omega) (by omega) (by omega) d_L_settle_7 (fun v9 G1 h => ?_) (fun E9 G1 h => ?_)
  · obtain ⟨h1, h2⟩ := h
    cases h1
    refine zr_i2l hX d_L_settle_10 ?_
    refine zr_lastN hX (hQ G1 h2) 0 rfl (by decide) (by decide) d_L_settle_11 ?_
    refine zr_goto hX (tgt := 19) (by decide) d_L_settle_12 ?_
    refine zr_iconst (v := 0) hX rfl d_L_settle_19 ?_
    exact zr_iret hX d_L_settle_20 ⟨rfl, G1, h2, rfl⟩
  · obtain ⟨h1, -⟩ := h
    cases h1
theorem c_L_settle_iae (g : zGt) (d : Nat) (hdd : 1 ≤ d) (G : zG) (x : Nat) (fs : List Value) (hx : G x = some (zO 0 fs)) (p0 p1 p2 : Int32) (mc ms : Nat) (out : Nat) (hM : zMet g y_S_settle b_S_settle 5 (some .int) [] (d - 1) mc ms [.ref x, .int p0, .int p1, .int p2] G (zDx "java/lang/IllegalArgumentException" G)) : zMet g y_L_settle b_L_settle 6 (some .int) [(0, 12, 15, 13)] d mc ms [.ref x, .int p0, .int p1, .int p2, .ref out] G (zD1 (.int 1) G) := by
  refine zMet.of (by decide) (Nat.le_of_ble_eq_true rfl) rfl (fun X hX => ?_)
  refine zr_aload hX rfl d_L_settle_0 ?_
  refine zr_iconst (v := 0) hX rfl d_L_settle_2 ?_
  refine zr_aload_n hX rfl d_L_settle_3 ?_
  refine zr_iload_n hX rfl d_L_settle_4 ?_
  refine zr_iload_n hX rfl d_L_settle_5 ?_
  refine zr_iload_n hX rfl d_L_settle_6 ?_
  refine zr_callV hX hM l_L_43 im_S_settle se_S_settle f_S_settle k_S.1 hx rfl (Nat.le_of_ble_eq_true rfl) (by omega) (by omega) (by omega) d_L_settle_7 (fun v9 G1 h => ?_) (fun E9 G1 h => ?_)
  · obtain ⟨h1, -⟩ := h
    cases h1
  · obtain ⟨h1, h2⟩ := h
    cases h1
    subst h2
    refine zt_catch hX [] ⟨0, 12, 15, 13⟩ [] rfl (fun z hz => nomatch hz) (by decide) (by decide) q348 q356 (fun q9 => ?_)
    refine zs_astore hX (by decide) rfl d_L_settle_15 ?_
    refine zr_iconst (v := 1) hX rfl d_L_settle_17 ?_
    exact zr_iret hX d_L_settle_18 ⟨rfl, rfl⟩
theorem c_L_total_ok (g : zGt) (d : Nat) (hdd : 1 ≤ d) (G : zG) (x : Nat) (fs : List Value) (hx : G x = some (zO 0 fs)) (p0 p1 p2 : Int32) (mc ms : Nat) (out : Nat) (Q : zG → Prop) (v : Int32) (fo : Nat → Int64) (hQ : ∀ G1, Q G1 → G1 out = some (zJ 1 fo)) (hM : zMet g y_S_total b_S_total 12 (some .int) [] (d - 1) mc ms [.ref x, .int p0, .int p1, .int p2] G (fun r G1 => r = .inl (some (.int v)) ∧ Q G1)) : zMet g y_L_total b_L_total 6 (some .int) [(0, 12, 15, 13)] d mc ms [.ref x, .int p0, .int p1, .int p2, .ref out] G (fun r G1 => r = .inl (some (.int 0)) ∧ ∃ G2, Q G2 ∧ G1 = zput G2 out (zJ 1 (vp_updL fo 0 v.toInt64))) := by
  refine zMet.of (by decide) (Nat.le_of_ble_eq_true rfl) rfl (fun X hX => ?_)
  refine zr_aload hX rfl d_L_total_0 ?_
  refine zr_iconst (v := 0) hX rfl d_L_total_2 ?_
  refine zr_aload_n hX rfl d_L_total_3 ?_
  refine zr_iload_n hX rfl d_L_total_4 ?_
  refine zr_iload_n hX rfl d_L_total_5 ?_
  refine zr_iload_n hX rfl d_L_total_6 ?_
  refine zr_callV hX hM l_L_47 im_S_total se_S_total f_S_total k_S.1 hx rfl (Nat.le_of_ble_eq_true rfl) (by omega) (by omega) (by omega) d_L_total_7 (fun v9 G1 h => ?_) (fun E9 G1 h => ?_)
  · obtain ⟨h1, h2⟩ := h
    cases h1
    refine zr_i2l hX d_L_total_10 ?_
    refine zr_lastN hX (hQ G1 h2) 0 rfl (by decide) (by decide) d_L_total_11 ?_
    refine zr_goto hX (tgt := 19) (by decide) d_L_total_12 ?_
    refine zr_iconst (v := 0) hX rfl d_L_total_19 ?_
    exact zr_iret hX d_L_total_20 ⟨rfl, G1, h2, rfl⟩
  · obtain ⟨h1, -⟩ := h
    cases h1
theorem c_L_total_iae (g : zGt) (d : Nat) (hdd : 1 ≤ d) (G : zG) (x : Nat) (fs : List Value) (hx : G x = some (zO 0 fs)) (p0 p1 p2 : Int32) (mc ms : Nat) (out : Nat) (hM : zMet g y_S_total b_S_total 12 (some .int) [] (d - 1) mc ms [.ref x, .int p0, .int p1, .int p2] G (zDx "java/lang/IllegalArgumentException" G)) : zMet g y_L_total b_L_total 6 (some .int) [(0, 12, 15, 13)] d mc ms [.ref x, .int p0, .int p1, .int p2, .ref out] G (zD1 (.int 1) G) := by
  refine zMet.of (by decide) (Nat.le_of_ble_eq_true rfl) rfl (fun X hX => ?_)
  refine zr_aload hX rfl d_L_total_0 ?_
  refine zr_iconst (v := 0) hX rfl d_L_total_2 ?_
  refine zr_aload_n hX rfl d_L_total_3 ?_
  refine zr_iload_n hX rfl d_L_total_4 ?_
  refine zr_iload_n hX rfl d_L_total_5 ?_
  refine zr_iload_n hX rfl d_L_total_6 ?_
  refine zr_callV hX hM l_L_47 im_S_total se_S_total f_S_total k_S.1 hx rfl (Nat.le_of_ble_eq_true rfl) (by omega) (by omega) (by omega) d_L_total_7 (fun v9 G1 h => ?_) (fun E9 G1 h => ?_)
  · obtain ⟨h1, -⟩ := h
    cases h1
  · obtain ⟨h1, h2⟩ := h
    cases h1
    subst h2
    refine zt_catch hX [] ⟨0, 12, 15, 13⟩ [] rfl (fun z hz => nomatch hz) (by decide) (by decide) q348 q356 (fun q9 => ?_)
    refine zs_astore hX (by decide) rfl d_L_total_15 ?_
    refine zr_iconst (v := 1) hX rfl d_L_total_17 ?_
    exact zr_iret hX d_L_total_18 ⟨rfl, rfl⟩
