theorem z_isPlaceM {u : zU} {p : Int32} {cm : Nat} (hc : u.i 6 = nI cm) (hm : cm ≤ 24) (h : ¬ s_M_isPlace u p = 0) : ∃ P, P < 28 ∧ p = nI P := by
  unfold s_M_isPlace at h
  by_cases h1 : 24 ≤ p
  · rw [if_pos h1] at h
    obtain ⟨h2, h3⟩ := z_isBranchM h
    obtain ⟨h4, h5⟩ := zcl_of (n := 4) h2 h3 rfl (by decide)
    refine ⟨24 + (p - 24).toNatClampNeg, by omega, ?_⟩
    rw [← nI_add, ← h5]
    show p = 24 + (p - 24)
    rw [Int32.add_comm, Int32.sub_add_cancel]
  · rw [if_neg h1] at h
    unfold s_M_isCommit at h
    by_cases h2 : p < 0
    · rw [if_pos h2] at h; exact absurd rfl h
    · obtain ⟨h4, h5⟩ := zcl_of (n := 24) h2 h1 rfl (by decide)
      exact ⟨p.toNatClampNeg, by omega, h5⟩
theorem z_isCellM {u : zU} {p q x y : Int32} {cm : Nat} (hc : u.i 6 = nI cm) (hm : cm ≤ 24) (h1 : ¬ s_M_isPlace u p = 0) (h2 : ¬ s_M_isLayer q = 0) (h3 : ¬ x < 0) (h4 : ¬ 32 ≤ x) (h5 : ¬ y < 0) (h6 : ¬ 32 ≤ y) : vp_in (4096 * p + s_M_cellOf q x y) 114688 := by
  obtain ⟨P, hP, rfl⟩ := z_isPlaceM hc hm h1
  obtain ⟨a1, a2⟩ := z_isLayerM h2
  obtain ⟨b1, b2⟩ := zcl_of (n := 4) a1 a2 rfl (by decide)
  obtain ⟨b3, b4⟩ := zcl_of (n := 32) h3 h4 rfl (by decide)
  obtain ⟨b5, b6⟩ := zcl_of (n := 32) h5 h6 rfl (by decide)
  rw [b2, b4, b6, zcellM, zpl]
  exact vp_in_nI (by omega) (by decide)
def s_M_isConflict (u : zU) (p : Int32) (q : Int32) : Int32 := if (s_M_isBranch u p) = 0 then 0 else if q < 0 then 0 else if ((u.ar 14) p.toNatClampNeg) ≤ q then 0 else 1
theorem c_M_isConflict (g : zGt) (d : Nat) (hd : 1 ≤ d) (G : zG) (u : zU) (m : Nat) (h : zMv u m G) (p : Int32) (q : Int32)  : zMet g y_M_isConflict b_M_isConflict 3 (some .boolean) [] d 0 0 [.ref m, .int p, .int q] G (zD1 (.int (s_M_isConflict u p q)) G) := by
  refine zMet.of (by decide) (Nat.le_of_ble_eq_true rfl) rfl (fun X hX => ?_)
  refine zr_aload_n hX rfl d_M_isConflict_0 ?_
  refine zr_iload_n hX rfl d_M_isConflict_1 ?_
  refine zr_pV hX (c_M_isBranch g (d - 1) _ u m h p) l_M_97 im_M_isBranch se_M_isBranch f_M_isBranch k_M.1 h.m rfl (Nat.le_of_ble_eq_true rfl) (by omega) (Nat.zero_le _) (Nat.zero_le _) d_M_isConflict_2 ?_
  refine zr_if_eq hX (tgt := 26) d_M_isConflict_5 (by decide) (fun h5 => ?_) (fun h5 => ?_)
  · skip
    refine zr_iconst (v := 0) hX rfl d_M_isConflict_26 ?_
    exact zr_zret hX rfl d_M_isConflict_27 ⟨(by unfold s_M_isConflict; rw [if_pos h5]), rfl⟩
  · skip
    refine zr_iload_n hX rfl d_M_isConflict_8 ?_
    refine zr_if_lt hX (tgt := 26) d_M_isConflict_9 (by decide) (fun h9 => ?_) (fun h9 => ?_)
    · skip
      refine zr_iconst (v := 0) hX rfl d_M_isConflict_26 ?_
      exact zr_zret hX rfl d_M_isConflict_27 ⟨(by unfold s_M_isConflict; rw [if_neg h5]; rw [if_pos h9]), rfl⟩
    · skip
      refine zr_iload_n hX rfl d_M_isConflict_12 ?_
      refine zr_aload_n hX rfl d_M_isConflict_13 ?_
      refine zr_get hX k_M 14 (by decide) q667 rfl h.m rfl d_M_isConflict_14 ?_
      refine zr_iload_n hX rfl d_M_isConflict_17 ?_
      refine zr_iald hX (h.ar 14 rfl) (zix (z_isBranchM h5).1 (z_isBranchM h5).2 rfl) d_M_isConflict_18 ?_
      refine zr_icmp_ge hX (tgt := 26) d_M_isConflict_19 (by decide) (fun h19 => ?_) (fun h19 => ?_)
      · skip
        refine zr_iconst (v := 0) hX rfl d_M_isConflict_26 ?_
        exact zr_zret hX rfl d_M_isConflict_27 ⟨(by unfold s_M_isConflict; rw [if_neg h5]; rw [if_neg h9]; rw [if_pos h19]), rfl⟩
      · skip
        refine zr_iconst (v := 1) hX rfl d_M_isConflict_22 ?_
        refine zr_goto hX (tgt := 27) (by decide) d_M_isConflict_23 ?_
        exact zr_zret hX rfl d_M_isConflict_27 ⟨(by unfold s_M_isConflict; rw [if_neg h5]; rw [if_neg h9]; rw [if_neg h19]), rfl⟩
def s_M_isCell (u : zU) (p : Int32) (q : Int32) (x : Int32) (y : Int32) : Int32 := if (s_M_isPlace u p) = 0 then 0 else if (s_M_isLayer q) = 0 then 0 else if x < 0 then 0 else if 32 ≤ x then 0 else if y < 0 then 0 else if 32 ≤ y then 0 else 1
theorem c_M_isCell (g : zGt) (d : Nat) (hd : 2 ≤ d) (G : zG) (u : zU) (m : Nat) (h : zMv u m G) (p : Int32) (q : Int32) (x : Int32) (y : Int32)  : zMet g y_M_isCell b_M_isCell 5 (some .boolean) [] d 0 0 [.ref m, .int p, .int q, .int x, .int y] G (zD1 (.int (s_M_isCell u p q x y)) G) := by
  refine zMet.of (by decide) (Nat.le_of_ble_eq_true rfl) rfl (fun X hX => ?_)
  refine zr_aload_n hX rfl d_M_isCell_0 ?_
  refine zr_iload_n hX rfl d_M_isCell_1 ?_
  refine zr_pV hX (c_M_isPlace g (d - 1) (by omega) _ u m h p) l_M_172 im_M_isPlace se_M_isPlace f_M_isPlace k_M.1 h.m rfl (Nat.le_of_ble_eq_true rfl) (by omega) (Nat.zero_le _) (Nat.zero_le _) d_M_isCell_2 ?_
  refine zr_if_eq hX (tgt := 41) d_M_isCell_5 (by decide) (fun h5 => ?_) (fun h5 => ?_)
  · skip
    refine zr_iconst (v := 0) hX rfl d_M_isCell_41 ?_
    exact zr_zret hX rfl d_M_isCell_42 ⟨(by unfold s_M_isCell; rw [if_pos h5]), rfl⟩
  · skip
    refine zr_iload_n hX rfl d_M_isCell_8 ?_
    refine zr_pS hX (c_M_isLayer g (d - 1) _ q) l_M_102 st_M_isLayer f_M_isLayer rfl (Nat.le_of_ble_eq_true rfl) (by omega) (Nat.zero_le _) (Nat.zero_le _) d_M_isCell_9 ?_
    refine zr_if_eq hX (tgt := 41) d_M_isCell_12 (by decide) (fun h12 => ?_) (fun h12 => ?_)
    · skip
      refine zr_iconst (v := 0) hX rfl d_M_isCell_41 ?_
      exact zr_zret hX rfl d_M_isCell_42 ⟨(by unfold s_M_isCell; rw [if_neg h5]; rw [if_pos h12]), rfl⟩
    · skip
      refine zr_iload_n hX rfl d_M_isCell_15 ?_
      refine zr_if_lt hX (tgt := 41) d_M_isCell_16 (by decide) (fun h16 => ?_) (fun h16 => ?_)
      · skip
        refine zr_iconst (v := 0) hX rfl d_M_isCell_41 ?_
        exact zr_zret hX rfl d_M_isCell_42 ⟨(by unfold s_M_isCell; rw [if_neg h5]; rw [if_neg h12]; rw [if_pos h16]), rfl⟩
      · skip
        refine zr_iload_n hX rfl d_M_isCell_19 ?_
        refine zr_bipush (v := 32) hX rfl d_M_isCell_20 ?_
        refine zr_icmp_ge hX (tgt := 41) d_M_isCell_22 (by decide) (fun h22 => ?_) (fun h22 => ?_)
        · skip
          refine zr_iconst (v := 0) hX rfl d_M_isCell_41 ?_
          exact zr_zret hX rfl d_M_isCell_42 ⟨(by unfold s_M_isCell; rw [if_neg h5]; rw [if_neg h12]; rw [if_neg h16]; rw [if_pos h22]), rfl⟩
        · skip
          refine zr_iload hX rfl d_M_isCell_25 ?_
          refine zr_if_lt hX (tgt := 41) d_M_isCell_27 (by decide) (fun h27 => ?_) (fun h27 => ?_)
          · skip
            refine zr_iconst (v := 0) hX rfl d_M_isCell_41 ?_
            exact zr_zret hX rfl d_M_isCell_42 ⟨(by unfold s_M_isCell; rw [if_neg h5]; rw [if_neg h12]; rw [if_neg h16]; rw [if_neg h22]; rw [if_pos h27]), rfl⟩
          · skip
            refine zr_iload hX rfl d_M_isCell_30 ?_
            refine zr_bipush (v := 32) hX rfl d_M_isCell_32 ?_
            refine zr_icmp_ge hX (tgt := 41) d_M_isCell_34 (by decide) (fun h34 => ?_) (fun h34 => ?_)
            · skip
              refine zr_iconst (v := 0) hX rfl d_M_isCell_41 ?_
              exact zr_zret hX rfl d_M_isCell_42 ⟨(by unfold s_M_isCell; rw [if_neg h5]; rw [if_neg h12]; rw [if_neg h16]; rw [if_neg h22]; rw [if_neg h27]; rw [if_pos h34]), rfl⟩
            · skip
              refine zr_iconst (v := 1) hX rfl d_M_isCell_37 ?_
              refine zr_goto hX (tgt := 42) (by decide) d_M_isCell_38 ?_
              exact zr_zret hX rfl d_M_isCell_42 ⟨(by unfold s_M_isCell; rw [if_neg h5]; rw [if_neg h12]; rw [if_neg h16]; rw [if_neg h22]; rw [if_neg h27]; rw [if_neg h34]), rfl⟩
theorem z_isCellM2 {u : zU} {p q x y : Int32} {cm : Nat} (hc : u.i 6 = nI cm) (hm : cm ≤ 24) (h : ¬ s_M_isCell u p q x y = 0) : vp_in (4096 * p + s_M_cellOf q x y) 114688 := by
  unfold s_M_isCell at h
  by_cases h1 : s_M_isPlace u p = 0
  · rw [if_pos h1] at h; exact absurd rfl h
  rw [if_neg h1] at h
  by_cases h2 : s_M_isLayer q = 0
  · rw [if_pos h2] at h; exact absurd rfl h
  rw [if_neg h2] at h
  by_cases h3 : x < 0
  · rw [if_pos h3] at h; exact absurd rfl h
  rw [if_neg h3] at h
  by_cases h4 : 32 ≤ x
  · rw [if_pos h4] at h; exact absurd rfl h
  rw [if_neg h4] at h
  by_cases h5 : y < 0
  · rw [if_pos h5] at h; exact absurd rfl h
  rw [if_neg h5] at h
  by_cases h6 : 32 ≤ y
  · rw [if_pos h6] at h; exact absurd rfl h
  exact z_isCellM hc hm h1 h2 h3 h4 h5 h6
def s_M_value (u : zU) (p : Int32) (q : Int32) (x : Int32) (y : Int32) : Int32 := if (s_M_isCell (zuc u 0 0) p q x y) = 0 then (-2147483648) else (u.ar 1) ((4096 * p) + (s_M_cellOf q x y)).toNatClampNeg
theorem c_M_value (g : zGt) (d : Nat) (hd : 3 ≤ d) (G : zG) (u : zU) (m : Nat) (h : zMv u m G) (p : Int32) (q : Int32) (x : Int32) (y : Int32) (cm : Nat) (hc : u.i 6 = nI cm) (hm : cm ≤ 24)  : zMet g y_M_value b_M_value 5 (some .int) [] d 0 0 [.ref m, .int p, .int q, .int x, .int y] G (zMq (some (.int (s_M_value u p q x y))) (zuc u 0 0) u m G) := by
  refine zMet.of (by decide) (Nat.le_of_ble_eq_true rfl) rfl (fun X hX => ?_)
  refine zr_aload_n hX rfl d_M_value_0 ?_
  refine zr_iconst (v := 0) hX rfl d_M_value_1 ?_
  refine zr_put hX k_M 0 (by decide) q653 rfl rfl rfl rfl (Nat.le_of_ble_eq_true rfl) h.m d_M_value_2 ?_
  refine zr_aload_n hX rfl d_M_value_5 ?_
  refine zr_iload_n hX rfl d_M_value_6 ?_
  refine zr_iload_n hX rfl d_M_value_7 ?_
  refine zr_iload_n hX rfl d_M_value_8 ?_
  refine zr_iload hX rfl d_M_value_9 ?_
  refine zr_pV hX (c_M_isCell g (d - 1) (by omega) _ (zuc u 0 0) m (zMv.put h (upd u.2.1 0 0)) p q x y) l_M_175 im_M_isCell se_M_isCell f_M_isCell k_M.1 (zput_s _ _ _) rfl (Nat.le_of_ble_eq_true rfl) (by omega) (Nat.zero_le _) (Nat.zero_le _) d_M_value_11 ?_
  refine zr_if_eq hX (tgt := 38) d_M_value_14 (by decide) (fun h14 => ?_) (fun h14 => ?_)
  · skip
    refine zr_ldc hX q652 d_M_value_38 ?_
    exact zr_iret hX d_M_value_40 ⟨(by unfold s_M_value; rw [if_pos h14]), (zMv.put h (upd u.2.1 0 0)), (zMf.obj zMf.rf _), rfl⟩
  · skip
    refine zr_aload_n hX rfl d_M_value_17 ?_
    refine zr_get hX k_M 1 (by decide) q654 rfl (zput_s _ _ _) rfl d_M_value_18 ?_
    refine zr_sipush (v := 4096) hX rfl d_M_value_21 ?_
    refine zr_iload_n hX rfl d_M_value_24 ?_
    refine zr_imul hX d_M_value_25 ?_
    refine zr_iload_n hX rfl d_M_value_26 ?_
    refine zr_iload_n hX rfl d_M_value_27 ?_
    refine zr_iload hX rfl d_M_value_28 ?_
    refine zr_pS hX (c_M_cellOf g (d - 1) _ q x y) l_M_123 st_M_cellOf f_M_cellOf rfl (Nat.le_of_ble_eq_true rfl) (by omega) (Nat.zero_le _) (Nat.zero_le _) d_M_value_30 ?_
    refine zr_iadd hX d_M_value_33 ?_
    refine zr_iald hX (zput_k (zne (h.ar 1 rfl) h.m rfl) (h.ar 1 rfl)) (z_isCellM2 (u := zuc u 0 0) hc hm h14) d_M_value_34 ?_
    refine zr_goto hX (tgt := 40) (by decide) d_M_value_35 ?_
    exact zr_iret hX d_M_value_40 ⟨(by unfold s_M_value; rw [if_neg h14]), (zMv.put h (upd u.2.1 0 0)), (zMf.obj zMf.rf _), rfl⟩
def s_M_origin (u : zU) (p : Int32) (q : Int32) (x : Int32) (y : Int32) (e : Int32) : Int32 := if (s_M_isCell (zuc u 0 0) p q x y) = 0 then (-2147483648) else if 0 ≤ ((u.ar 2) ((4096 * p) + (s_M_cellOf q x y)).toNatClampNeg) then if e = 0 then ((u.ar 2) ((4096 * p) + (s_M_cellOf q x y)).toNatClampNeg) / 4096 else if e = 1 then (((u.ar 2) ((4096 * p) + (s_M_cellOf q x y)).toNatClampNeg) - ((u.ar 2) ((4096 * p) + (s_M_cellOf q x y)).toNatClampNeg) / 4096 * 4096) / 1024 else if e = 2 then ((u.ar 2) ((4096 * p) + (s_M_cellOf q x y)).toNatClampNeg) - ((u.ar 2) ((4096 * p) + (s_M_cellOf q x y)).toNatClampNeg) / 32 * 32 else if e = 3 then (((u.ar 2) ((4096 * p) + (s_M_cellOf q x y)).toNatClampNeg) / 32) - (((u.ar 2) ((4096 * p) + (s_M_cellOf q x y)).toNatClampNeg) / 32) / 32 * 32 else (-2147483648) else (-2147483648)
theorem c_M_origin (g : zGt) (d : Nat) (hd : 3 ≤ d) (G : zG) (u : zU) (m : Nat) (h : zMv u m G) (p : Int32) (q : Int32) (x : Int32) (y : Int32) (e : Int32) (cm : Nat) (hc : u.i 6 = nI cm) (hm : cm ≤ 24)  : zMet g y_M_origin b_M_origin 7 (some .int) [] d 0 0 [.ref m, .int p, .int q, .int x, .int y, .int e] G (zMq (some (.int (s_M_origin u p q x y e))) (zuc u 0 0) u m G) := by
  refine zMet.of (by decide) (Nat.le_of_ble_eq_true rfl) rfl (fun X hX => ?_)
  refine zr_aload_n hX rfl d_M_origin_0 ?_
  refine zr_iconst (v := 0) hX rfl d_M_origin_1 ?_
  refine zr_put hX k_M 0 (by decide) q653 rfl rfl rfl rfl (Nat.le_of_ble_eq_true rfl) h.m d_M_origin_2 ?_
  refine zr_aload_n hX rfl d_M_origin_5 ?_
  refine zr_iload_n hX rfl d_M_origin_6 ?_
  refine zr_iload_n hX rfl d_M_origin_7 ?_
  refine zr_iload_n hX rfl d_M_origin_8 ?_
  refine zr_iload hX rfl d_M_origin_9 ?_
  refine zr_pV hX (c_M_isCell g (d - 1) (by omega) _ (zuc u 0 0) m (zMv.put h (upd u.2.1 0 0)) p q x y) l_M_175 im_M_isCell se_M_isCell f_M_isCell k_M.1 (zput_s _ _ _) rfl (Nat.le_of_ble_eq_true rfl) (by omega) (Nat.zero_le _) (Nat.zero_le _) d_M_origin_11 ?_
  refine zr_if_ne hX (tgt := 20) d_M_origin_14 (by decide) (fun h14 => ?_) (fun h14 => ?_)
  · skip
    refine zr_aload_n hX rfl d_M_origin_20 ?_
    refine zr_get hX k_M 2 (by decide) q655 rfl (zput_s _ _ _) rfl d_M_origin_21 ?_
    refine zr_sipush (v := 4096) hX rfl d_M_origin_24 ?_
    refine zr_iload_n hX rfl d_M_origin_27 ?_
    refine zr_imul hX d_M_origin_28 ?_
    refine zr_iload_n hX rfl d_M_origin_29 ?_
    refine zr_iload_n hX rfl d_M_origin_30 ?_
    refine zr_iload hX rfl d_M_origin_31 ?_
    refine zr_pS hX (c_M_cellOf g (d - 1) _ q x y) l_M_123 st_M_cellOf f_M_cellOf rfl (Nat.le_of_ble_eq_true rfl) (by omega) (Nat.zero_le _) (Nat.zero_le _) d_M_origin_33 ?_
    refine zr_iadd hX d_M_origin_36 ?_
    refine zr_iald hX (zput_k (zne (h.ar 2 rfl) h.m rfl) (h.ar 2 rfl)) (z_isCellM2 (u := zuc u 0 0) hc hm h14) d_M_origin_37 ?_
    refine zs_istore hX (by decide) rfl d_M_origin_38 ?_
    refine zr_iload hX rfl d_M_origin_40 ?_
    refine zr_if_ge hX (tgt := 48) d_M_origin_42 (by decide) (fun h42 => ?_) (fun h42 => ?_)
    · skip
      refine zr_iload hX rfl d_M_origin_48 ?_
      refine zr_if_ne hX (tgt := 62) d_M_origin_50 (by decide) (fun h50 => ?_) (fun h50 => ?_)
      · skip
        refine zr_iload hX rfl d_M_origin_62 ?_
        refine zr_iconst (v := 1) hX rfl d_M_origin_64 ?_
        refine zr_icmp_ne hX (tgt := 81) d_M_origin_65 (by decide) (fun h65 => ?_) (fun h65 => ?_)
        · skip
          refine zr_iload hX rfl d_M_origin_81 ?_
          refine zr_iconst (v := 2) hX rfl d_M_origin_83 ?_
          refine zr_icmp_ne hX (tgt := 95) d_M_origin_84 (by decide) (fun h84 => ?_) (fun h84 => ?_)
          · skip
            refine zr_iload hX rfl d_M_origin_95 ?_
            refine zr_iconst (v := 3) hX rfl d_M_origin_97 ?_
            refine zr_icmp_ne hX (tgt := 112) d_M_origin_98 (by decide) (fun h98 => ?_) (fun h98 => ?_)
            · skip
              refine zr_ldc hX q652 d_M_origin_112 ?_
              exact zr_iret hX d_M_origin_114 ⟨(by unfold s_M_origin; rw [if_neg h14]; rw [if_pos h42]; rw [if_neg h50]; rw [if_neg h65]; rw [if_neg h84]; rw [if_neg h98]), (zMv.put h (upd u.2.1 0 0)), (zMf.obj zMf.rf _), rfl⟩
            · skip
              refine zr_iload hX rfl d_M_origin_101 ?_
              refine zr_bipush (v := 32) hX rfl d_M_origin_103 ?_
              refine zr_idiv hX (by decide) d_M_origin_105 ?_
              refine zr_bipush (v := 32) hX rfl d_M_origin_106 ?_
              refine zr_irem hX (by decide) d_M_origin_108 ?_
              refine zr_goto hX (tgt := 114) (by decide) d_M_origin_109 ?_
              exact zr_iret hX d_M_origin_114 ⟨(by unfold s_M_origin; rw [if_neg h14]; rw [if_pos h42]; rw [if_neg h50]; rw [if_neg h65]; rw [if_neg h84]; rw [if_pos h98]), (zMv.put h (upd u.2.1 0 0)), (zMf.obj zMf.rf _), rfl⟩
          · skip
            refine zr_iload hX rfl d_M_origin_87 ?_
            refine zr_bipush (v := 32) hX rfl d_M_origin_89 ?_
            refine zr_irem hX (by decide) d_M_origin_91 ?_
            refine zr_goto hX (tgt := 114) (by decide) d_M_origin_92 ?_
            exact zr_iret hX d_M_origin_114 ⟨(by unfold s_M_origin; rw [if_neg h14]; rw [if_pos h42]; rw [if_neg h50]; rw [if_neg h65]; rw [if_pos h84]), (zMv.put h (upd u.2.1 0 0)), (zMf.obj zMf.rf _), rfl⟩
        · skip
          refine zr_iload hX rfl d_M_origin_68 ?_
          refine zr_sipush (v := 4096) hX rfl d_M_origin_70 ?_
          refine zr_irem hX (by decide) d_M_origin_73 ?_
          refine zr_sipush (v := 1024) hX rfl d_M_origin_74 ?_
          refine zr_idiv hX (by decide) d_M_origin_77 ?_
          refine zr_goto hX (tgt := 114) (by decide) d_M_origin_78 ?_
          exact zr_iret hX d_M_origin_114 ⟨(by unfold s_M_origin; rw [if_neg h14]; rw [if_pos h42]; rw [if_neg h50]; rw [if_pos h65]), (zMv.put h (upd u.2.1 0 0)), (zMf.obj zMf.rf _), rfl⟩
      · skip
        refine zr_iload hX rfl d_M_origin_53 ?_
        refine zr_sipush (v := 4096) hX rfl d_M_origin_55 ?_
        refine zr_idiv hX (by decide) d_M_origin_58 ?_
        refine zr_goto hX (tgt := 114) (by decide) d_M_origin_59 ?_
        exact zr_iret hX d_M_origin_114 ⟨(by unfold s_M_origin; rw [if_neg h14]; rw [if_pos h42]; rw [if_pos h50]), (zMv.put h (upd u.2.1 0 0)), (zMf.obj zMf.rf _), rfl⟩
    · skip
      refine zr_ldc hX q652 d_M_origin_45 ?_
      exact zr_iret hX d_M_origin_47 ⟨(by unfold s_M_origin; rw [if_neg h14]; rw [if_neg h42]), (zMv.put h (upd u.2.1 0 0)), (zMf.obj zMf.rf _), rfl⟩
  · skip
    refine zr_ldc hX q652 d_M_origin_17 ?_
    exact zr_iret hX d_M_origin_19 ⟨(by unfold s_M_origin; rw [if_pos h14]), (zMv.put h (upd u.2.1 0 0)), (zMf.obj zMf.rf _), rfl⟩
theorem z_isConflM {u : zU} {p q : Int32} (hn : ∀ b, b < 4 → ∃ e, u.ar 14 b = nI e ∧ e ≤ 4096) (h : ¬ s_M_isConflict u p q = 0) : vp_in (4096 * p + q) 16384 := by
  unfold s_M_isConflict at h
  by_cases h1 : s_M_isBranch u p = 0
  · rw [if_pos h1] at h; exact absurd rfl h
  rw [if_neg h1] at h
  by_cases h2 : q < 0
  · rw [if_pos h2] at h; exact absurd rfl h
  rw [if_neg h2] at h
  by_cases h3 : (u.ar 14) p.toNatClampNeg ≤ q
  · rw [if_pos h3] at h; exact absurd rfl h
  obtain ⟨a1, a2⟩ := z_isBranchM h1
  obtain ⟨b1, b2⟩ := zcl_of (n := 4) a1 a2 rfl (by decide)
  obtain ⟨e, he, hl⟩ := hn _ b1
  rw [he] at h3
  obtain ⟨c1, c2⟩ := zcl_of (n := e) h2 h3 (nI_toInt (by omega)) (by omega)
  rw [b2, c2, zpl]
  exact vp_in_nI (by omega) (by decide)
def s_M_conflict (u : zU) (p : Int32) (q : Int32) (e : Int32) : Int32 := if (s_M_isConflict (zuc u 0 0) p q) = 0 then (-2147483648) else if e = 0 then ((u.ar 10) ((4096 * p) + q).toNatClampNeg) / 1024 else if e = 1 then ((u.ar 10) ((4096 * p) + q).toNatClampNeg) - ((u.ar 10) ((4096 * p) + q).toNatClampNeg) / 32 * 32 else if e = 2 then (((u.ar 10) ((4096 * p) + q).toNatClampNeg) / 32) - (((u.ar 10) ((4096 * p) + q).toNatClampNeg) / 32) / 32 * 32 else if e = 3 then (u.ar 11) ((4096 * p) + q).toNatClampNeg else if e = 4 then (u.ar 12) ((4096 * p) + q).toNatClampNeg else if e = 5 then (u.ar 13) ((4096 * p) + q).toNatClampNeg else if e = 6 then if ((u.ar 15) ((4096 * p) + q).toNatClampNeg) = 0 then 0 else 1 else (-2147483648)
theorem c_M_conflict (g : zGt) (d : Nat) (hd : 2 ≤ d) (G : zG) (u : zU) (m : Nat) (h : zMv u m G) (p : Int32) (q : Int32) (e : Int32) (hn : ∀ b, b < 4 → ∃ e, u.ar 14 b = nI e ∧ e ≤ 4096) : zMet g y_M_conflict b_M_conflict 5 (some .int) [] d 0 0 [.ref m, .int p, .int q, .int e] G (zMq (some (.int (s_M_conflict u p q e))) (zuc u 0 0) u m G) := by
  refine zMet.of (by decide) (Nat.le_of_ble_eq_true rfl) rfl (fun X hX => ?_)
  refine zr_aload_n hX rfl d_M_conflict_0 ?_
  refine zr_iconst (v := 0) hX rfl d_M_conflict_1 ?_
  refine zr_put hX k_M 0 (by decide) q653 rfl rfl rfl rfl (Nat.le_of_ble_eq_true rfl) h.m d_M_conflict_2 ?_
  refine zr_aload_n hX rfl d_M_conflict_5 ?_
  refine zr_iload_n hX rfl d_M_conflict_6 ?_
  refine zr_iload_n hX rfl d_M_conflict_7 ?_
  refine zr_pV hX (c_M_isConflict g (d - 1) (by omega) _ (zuc u 0 0) m (zMv.put h (upd u.2.1 0 0)) p q) l_M_168 im_M_isConflict se_M_isConflict f_M_isConflict k_M.1 (zput_s _ _ _) rfl (Nat.le_of_ble_eq_true rfl) (by omega) (Nat.zero_le _) (Nat.zero_le _) d_M_conflict_8 ?_
  refine zr_if_ne hX (tgt := 17) d_M_conflict_11 (by decide) (fun h11 => ?_) (fun h11 => ?_)
  · skip
    refine zr_sipush (v := 4096) hX rfl d_M_conflict_17 ?_
    refine zr_iload_n hX rfl d_M_conflict_20 ?_
    refine zr_imul hX d_M_conflict_21 ?_
    refine zr_iload_n hX rfl d_M_conflict_22 ?_
    refine zr_iadd hX d_M_conflict_23 ?_
    refine zs_istore hX (by decide) rfl d_M_conflict_24 ?_
    refine zr_iload_n hX rfl d_M_conflict_26 ?_
    by_cases h27_0 : e = 0
    · skip
      refine zr_tabN hX (tgt := 68) d_M_conflict_27 0 h27_0 (by decide) (by decide) rfl (by decide) ?_
      refine zr_aload_n hX rfl d_M_conflict_68 ?_
      refine zr_get hX k_M 10 (by decide) q663 rfl (zput_s _ _ _) rfl d_M_conflict_69 ?_
      refine zr_iload hX rfl d_M_conflict_72 ?_
      refine zr_iald hX (zput_k (zne (h.ar 10 rfl) h.m rfl) (h.ar 10 rfl)) (z_isConflM (u := zuc u 0 0) hn h11) d_M_conflict_74 ?_
      refine zr_sipush (v := 1024) hX rfl d_M_conflict_75 ?_
      refine zr_idiv hX (by decide) d_M_conflict_78 ?_
      exact zr_iret hX d_M_conflict_79 ⟨(by unfold s_M_conflict; rw [if_neg h11]; rw [if_pos h27_0]), (zMv.put h (upd u.2.1 0 0)), (zMf.obj zMf.rf _), rfl⟩
    · skip
      by_cases h27_1 : e = 1
      · skip
        refine zr_tabN hX (tgt := 80) d_M_conflict_27 1 h27_1 (by decide) (by decide) rfl (by decide) ?_
        refine zr_aload_n hX rfl d_M_conflict_80 ?_
        refine zr_get hX k_M 10 (by decide) q663 rfl (zput_s _ _ _) rfl d_M_conflict_81 ?_
        refine zr_iload hX rfl d_M_conflict_84 ?_
        refine zr_iald hX (zput_k (zne (h.ar 10 rfl) h.m rfl) (h.ar 10 rfl)) (z_isConflM (u := zuc u 0 0) hn h11) d_M_conflict_86 ?_
        refine zr_bipush (v := 32) hX rfl d_M_conflict_87 ?_
        refine zr_irem hX (by decide) d_M_conflict_89 ?_
        exact zr_iret hX d_M_conflict_90 ⟨(by unfold s_M_conflict; rw [if_neg h11]; rw [if_neg h27_0]; rw [if_pos h27_1]), (zMv.put h (upd u.2.1 0 0)), (zMf.obj zMf.rf _), rfl⟩
      · skip
        by_cases h27_2 : e = 2
        · skip
          refine zr_tabN hX (tgt := 91) d_M_conflict_27 2 h27_2 (by decide) (by decide) rfl (by decide) ?_
          refine zr_aload_n hX rfl d_M_conflict_91 ?_
          refine zr_get hX k_M 10 (by decide) q663 rfl (zput_s _ _ _) rfl d_M_conflict_92 ?_
          refine zr_iload hX rfl d_M_conflict_95 ?_
          refine zr_iald hX (zput_k (zne (h.ar 10 rfl) h.m rfl) (h.ar 10 rfl)) (z_isConflM (u := zuc u 0 0) hn h11) d_M_conflict_97 ?_
          refine zr_bipush (v := 32) hX rfl d_M_conflict_98 ?_
          refine zr_idiv hX (by decide) d_M_conflict_100 ?_
          refine zr_bipush (v := 32) hX rfl d_M_conflict_101 ?_
          refine zr_irem hX (by decide) d_M_conflict_103 ?_
          exact zr_iret hX d_M_conflict_104 ⟨(by unfold s_M_conflict; rw [if_neg h11]; rw [if_neg h27_0]; rw [if_neg h27_1]; rw [if_pos h27_2]), (zMv.put h (upd u.2.1 0 0)), (zMf.obj zMf.rf _), rfl⟩
        · skip
          by_cases h27_3 : e = 3
          · skip
            refine zr_tabN hX (tgt := 105) d_M_conflict_27 3 h27_3 (by decide) (by decide) rfl (by decide) ?_
            refine zr_aload_n hX rfl d_M_conflict_105 ?_
            refine zr_get hX k_M 11 (by decide) q664 rfl (zput_s _ _ _) rfl d_M_conflict_106 ?_
            refine zr_iload hX rfl d_M_conflict_109 ?_
            refine zr_iald hX (zput_k (zne (h.ar 11 rfl) h.m rfl) (h.ar 11 rfl)) (z_isConflM (u := zuc u 0 0) hn h11) d_M_conflict_111 ?_
            exact zr_iret hX d_M_conflict_112 ⟨(by unfold s_M_conflict; rw [if_neg h11]; rw [if_neg h27_0]; rw [if_neg h27_1]; rw [if_neg h27_2]; rw [if_pos h27_3]), (zMv.put h (upd u.2.1 0 0)), (zMf.obj zMf.rf _), rfl⟩
          · skip
            by_cases h27_4 : e = 4
            · skip
              refine zr_tabN hX (tgt := 113) d_M_conflict_27 4 h27_4 (by decide) (by decide) rfl (by decide) ?_
              refine zr_aload_n hX rfl d_M_conflict_113 ?_
              refine zr_get hX k_M 12 (by decide) q665 rfl (zput_s _ _ _) rfl d_M_conflict_114 ?_
              refine zr_iload hX rfl d_M_conflict_117 ?_
              refine zr_iald hX (zput_k (zne (h.ar 12 rfl) h.m rfl) (h.ar 12 rfl)) (z_isConflM (u := zuc u 0 0) hn h11) d_M_conflict_119 ?_
              exact zr_iret hX d_M_conflict_120 ⟨(by unfold s_M_conflict; rw [if_neg h11]; rw [if_neg h27_0]; rw [if_neg h27_1]; rw [if_neg h27_2]; rw [if_neg h27_3]; rw [if_pos h27_4]), (zMv.put h (upd u.2.1 0 0)), (zMf.obj zMf.rf _), rfl⟩
            · skip
              by_cases h27_5 : e = 5
              · skip
                refine zr_tabN hX (tgt := 121) d_M_conflict_27 5 h27_5 (by decide) (by decide) rfl (by decide) ?_
                refine zr_aload_n hX rfl d_M_conflict_121 ?_
                refine zr_get hX k_M 13 (by decide) q666 rfl (zput_s _ _ _) rfl d_M_conflict_122 ?_
                refine zr_iload hX rfl d_M_conflict_125 ?_
                refine zr_iald hX (zput_k (zne (h.ar 13 rfl) h.m rfl) (h.ar 13 rfl)) (z_isConflM (u := zuc u 0 0) hn h11) d_M_conflict_127 ?_
                exact zr_iret hX d_M_conflict_128 ⟨(by unfold s_M_conflict; rw [if_neg h11]; rw [if_neg h27_0]; rw [if_neg h27_1]; rw [if_neg h27_2]; rw [if_neg h27_3]; rw [if_neg h27_4]; rw [if_pos h27_5]), (zMv.put h (upd u.2.1 0 0)), (zMf.obj zMf.rf _), rfl⟩
              · skip
                by_cases h27_6 : e = 6
                · skip
                  refine zr_tabN hX (tgt := 129) d_M_conflict_27 6 h27_6 (by decide) (by decide) rfl (by decide) ?_
                  refine zr_aload_n hX rfl d_M_conflict_129 ?_
                  refine zr_get hX k_M 15 (by decide) q668 rfl (zput_s _ _ _) rfl d_M_conflict_130 ?_
                  refine zr_iload hX rfl d_M_conflict_133 ?_
                  refine zr_zald hX (zput_k (zne (h.ar 15 rfl) h.m rfl) (h.ar 15 rfl)) (z_isConflM (u := zuc u 0 0) hn h11) d_M_conflict_135 ?_
                  refine zr_if_eq hX (tgt := 143) d_M_conflict_136 (by decide) (fun h136 => ?_) (fun h136 => ?_)
                  · skip
                    refine zr_iconst (v := 0) hX rfl d_M_conflict_143 ?_
                    exact zr_iret hX d_M_conflict_144 ⟨(by unfold s_M_conflict; rw [if_neg h11]; rw [if_neg h27_0]; rw [if_neg h27_1]; rw [if_neg h27_2]; rw [if_neg h27_3]; rw [if_neg h27_4]; rw [if_neg h27_5]; rw [if_pos h27_6]; rw [if_pos h136]), (zMv.put h (upd u.2.1 0 0)), (zMf.obj zMf.rf _), rfl⟩
                  · skip
                    refine zr_iconst (v := 1) hX rfl d_M_conflict_139 ?_
                    refine zr_goto hX (tgt := 144) (by decide) d_M_conflict_140 ?_
                    exact zr_iret hX d_M_conflict_144 ⟨(by unfold s_M_conflict; rw [if_neg h11]; rw [if_neg h27_0]; rw [if_neg h27_1]; rw [if_neg h27_2]; rw [if_neg h27_3]; rw [if_neg h27_4]; rw [if_neg h27_5]; rw [if_pos h27_6]; rw [if_neg h136]), (zMv.put h (upd u.2.1 0 0)), (zMf.obj zMf.rf _), rfl⟩
                · skip
                  refine zr_tabD hX (tgt := 145) (z := 6) d_M_conflict_27 rfl (zsw6 h27_0 h27_1 h27_2 h27_3 h27_4 h27_5 h27_6) (by decide) ?_
                  refine zr_ldc hX q652 d_M_conflict_145 ?_
                  exact zr_iret hX d_M_conflict_147 ⟨(by unfold s_M_conflict; rw [if_neg h11]; rw [if_neg h27_0]; rw [if_neg h27_1]; rw [if_neg h27_2]; rw [if_neg h27_3]; rw [if_neg h27_4]; rw [if_neg h27_5]; rw [if_neg h27_6]), (zMv.put h (upd u.2.1 0 0)), (zMf.obj zMf.rf _), rfl⟩
  · skip
    refine zr_ldc hX q652 d_M_conflict_14 ?_
    exact zr_iret hX d_M_conflict_16 ⟨(by unfold s_M_conflict; rw [if_pos h11]), (zMv.put h (upd u.2.1 0 0)), (zMf.obj zMf.rf _), rfl⟩
def s_M_meets (u : zU) (i : Int32) (j : Int32) (x : Int32) (y : Int32) : Int32 := if ((2 * (((u.ar 21) i.toNatClampNeg) - y)) - 1) ≤ 0 then if ((2 * (((u.ar 21) j.toNatClampNeg) - y)) - 1) ≤ 0 then 0 else if (((2 * (((u.ar 21) i.toNatClampNeg) - y)) - 1) - ((2 * (((u.ar 21) j.toNatClampNeg) - y)) - 1)) ≤ 0 then if 0 ≤ ((((2 * ((u.ar 20) i.toNatClampNeg)) * (((2 * (((u.ar 21) i.toNatClampNeg) - y)) - 1) - ((2 * (((u.ar 21) j.toNatClampNeg) - y)) - 1))) + ((2 * (((u.ar 20) j.toNatClampNeg) - ((u.ar 20) i.toNatClampNeg))) * ((2 * (((u.ar 21) i.toNatClampNeg) - y)) - 1))) - (((2 * x) + 1) * (((2 * (((u.ar 21) i.toNatClampNeg) - y)) - 1) - ((2 * (((u.ar 21) j.toNatClampNeg) - y)) - 1)))) then 0 else 1 else if ((((2 * ((u.ar 20) i.toNatClampNeg)) * (((2 * (((u.ar 21) i.toNatClampNeg) - y)) - 1) - ((2 * (((u.ar 21) j.toNatClampNeg) - y)) - 1))) + ((2 * (((u.ar 20) j.toNatClampNeg) - ((u.ar 20) i.toNatClampNeg))) * ((2 * (((u.ar 21) i.toNatClampNeg) - y)) - 1))) - (((2 * x) + 1) * (((2 * (((u.ar 21) i.toNatClampNeg) - y)) - 1) - ((2 * (((u.ar 21) j.toNatClampNeg) - y)) - 1)))) ≤ 0 then 0 else 1 else if ((2 * (((u.ar 21) j.toNatClampNeg) - y)) - 1) ≤ 0 then if (((2 * (((u.ar 21) i.toNatClampNeg) - y)) - 1) - ((2 * (((u.ar 21) j.toNatClampNeg) - y)) - 1)) ≤ 0 then if 0 ≤ ((((2 * ((u.ar 20) i.toNatClampNeg)) * (((2 * (((u.ar 21) i.toNatClampNeg) - y)) - 1) - ((2 * (((u.ar 21) j.toNatClampNeg) - y)) - 1))) + ((2 * (((u.ar 20) j.toNatClampNeg) - ((u.ar 20) i.toNatClampNeg))) * ((2 * (((u.ar 21) i.toNatClampNeg) - y)) - 1))) - (((2 * x) + 1) * (((2 * (((u.ar 21) i.toNatClampNeg) - y)) - 1) - ((2 * (((u.ar 21) j.toNatClampNeg) - y)) - 1)))) then 0 else 1 else if ((((2 * ((u.ar 20) i.toNatClampNeg)) * (((2 * (((u.ar 21) i.toNatClampNeg) - y)) - 1) - ((2 * (((u.ar 21) j.toNatClampNeg) - y)) - 1))) + ((2 * (((u.ar 20) j.toNatClampNeg) - ((u.ar 20) i.toNatClampNeg))) * ((2 * (((u.ar 21) i.toNatClampNeg) - y)) - 1))) - (((2 * x) + 1) * (((2 * (((u.ar 21) i.toNatClampNeg) - y)) - 1) - ((2 * (((u.ar 21) j.toNatClampNeg) - y)) - 1)))) ≤ 0 then 0 else 1 else 0
theorem c_M_meets (g : zGt) (d : Nat) (G : zG) (u : zU) (m : Nat) (h : zMv u m G) (i : Int32) (j : Int32) (x : Int32) (y : Int32) (hi : vp_in i 6) (hj : vp_in j 6) : zMet g y_M_meets b_M_meets 11 (some .boolean) [] d 0 0 [.ref m, .int i, .int j, .int x, .int y] G (zD1 (.int (s_M_meets u i j x y)) G) := by
  refine zMet.of (by decide) (Nat.le_of_ble_eq_true rfl) rfl (fun X hX => ?_)
  refine zr_aload_n hX rfl d_M_meets_0 ?_
  refine zr_get hX k_M 21 (by decide) q674 rfl h.m rfl d_M_meets_1 ?_
  refine zr_iload_n hX rfl d_M_meets_4 ?_
  refine zr_iald hX (h.ar 21 rfl) hi d_M_meets_5 ?_
  refine zr_iload hX rfl d_M_meets_6 ?_
  refine zr_isub hX d_M_meets_8 ?_
  refine zs_istore hX (by decide) rfl d_M_meets_9 ?_
  refine zr_aload_n hX rfl d_M_meets_11 ?_
  refine zr_get hX k_M 21 (by decide) q674 rfl h.m rfl d_M_meets_12 ?_
  refine zr_iload_n hX rfl d_M_meets_15 ?_
  refine zr_iald hX (h.ar 21 rfl) hj d_M_meets_16 ?_
  refine zr_iload hX rfl d_M_meets_17 ?_
  refine zr_isub hX d_M_meets_19 ?_
  refine zs_istore hX (by decide) rfl d_M_meets_20 ?_
  refine zr_iconst (v := 2) hX rfl d_M_meets_22 ?_
  refine zr_iload hX rfl d_M_meets_23 ?_
  refine zr_imul hX d_M_meets_25 ?_
  refine zr_iconst (v := 1) hX rfl d_M_meets_26 ?_
  refine zr_isub hX d_M_meets_27 ?_
  refine zs_istore hX (by decide) rfl d_M_meets_28 ?_
  refine zr_iconst (v := 2) hX rfl d_M_meets_30 ?_
  refine zr_iload hX rfl d_M_meets_31 ?_
  refine zr_imul hX d_M_meets_33 ?_
  refine zr_iconst (v := 1) hX rfl d_M_meets_34 ?_
  refine zr_isub hX d_M_meets_35 ?_
  refine zs_istore hX (by decide) rfl d_M_meets_36 ?_
  refine zr_iload hX rfl d_M_meets_38 ?_
  refine zr_if_le hX (tgt := 47) d_M_meets_40 (by decide) (fun h40 => ?_) (fun h40 => ?_)
  · skip
    refine zr_iconst (v := 0) hX rfl d_M_meets_47 ?_
    refine zr_iload hX rfl d_M_meets_48 ?_
    refine zr_if_le hX (tgt := 57) d_M_meets_50 (by decide) (fun h50 => ?_) (fun h50 => ?_)
    · skip
      refine zr_iconst (v := 0) hX rfl d_M_meets_57 ?_
      refine zr_icmp_ne hX (tgt := 63) d_M_meets_58 (by decide) (fun h => absurd h (by decide)) (fun _ => ?_)
      refine zr_iconst (v := 0) hX rfl d_M_meets_61 ?_
      exact zr_zret hX rfl d_M_meets_62 ⟨(by unfold s_M_meets; rw [if_pos h40]; rw [if_pos h50]), rfl⟩
    · skip
      refine zr_iconst (v := 1) hX rfl d_M_meets_53 ?_
      refine zr_goto hX (tgt := 58) (by decide) d_M_meets_54 ?_
      refine zr_icmp_ne hX (tgt := 63) d_M_meets_58 (by decide) (fun _ => ?_) (fun h => absurd h (by decide))
      refine zr_iload hX rfl d_M_meets_63 ?_
      refine zr_iload hX rfl d_M_meets_65 ?_
      refine zr_isub hX d_M_meets_67 ?_
      refine zs_istore hX (by decide) rfl d_M_meets_68 ?_
      refine zr_iconst (v := 2) hX rfl d_M_meets_70 ?_
      refine zr_aload_n hX rfl d_M_meets_71 ?_
      refine zr_get hX k_M 20 (by decide) q673 rfl h.m rfl d_M_meets_72 ?_
      refine zr_iload_n hX rfl d_M_meets_75 ?_
      refine zr_iald hX (h.ar 20 rfl) hi d_M_meets_76 ?_
      refine zr_imul hX d_M_meets_77 ?_
      refine zr_iload hX rfl d_M_meets_78 ?_
      refine zr_imul hX d_M_meets_80 ?_
      refine zr_iconst (v := 2) hX rfl d_M_meets_81 ?_
      refine zr_aload_n hX rfl d_M_meets_82 ?_
      refine zr_get hX k_M 20 (by decide) q673 rfl h.m rfl d_M_meets_83 ?_
      refine zr_iload_n hX rfl d_M_meets_86 ?_
      refine zr_iald hX (h.ar 20 rfl) hj d_M_meets_87 ?_
      refine zr_aload_n hX rfl d_M_meets_88 ?_
      refine zr_get hX k_M 20 (by decide) q673 rfl h.m rfl d_M_meets_89 ?_
      refine zr_iload_n hX rfl d_M_meets_92 ?_
      refine zr_iald hX (h.ar 20 rfl) hi d_M_meets_93 ?_
      refine zr_isub hX d_M_meets_94 ?_
      refine zr_imul hX d_M_meets_95 ?_
      refine zr_iload hX rfl d_M_meets_96 ?_
      refine zr_imul hX d_M_meets_98 ?_
      refine zr_iadd hX d_M_meets_99 ?_
      refine zr_iconst (v := 2) hX rfl d_M_meets_100 ?_
      refine zr_iload_n hX rfl d_M_meets_101 ?_
      refine zr_imul hX d_M_meets_102 ?_
      refine zr_iconst (v := 1) hX rfl d_M_meets_103 ?_
      refine zr_iadd hX d_M_meets_104 ?_
      refine zr_iload hX rfl d_M_meets_105 ?_
      refine zr_imul hX d_M_meets_107 ?_
      refine zr_isub hX d_M_meets_108 ?_
      refine zs_istore hX (by decide) rfl d_M_meets_109 ?_
      refine zr_iload hX rfl d_M_meets_111 ?_
      refine zr_if_le hX (tgt := 129) d_M_meets_113 (by decide) (fun h113 => ?_) (fun h113 => ?_)
      · skip
        refine zr_iload hX rfl d_M_meets_129 ?_
        refine zr_if_ge hX (tgt := 138) d_M_meets_131 (by decide) (fun h131 => ?_) (fun h131 => ?_)
        · skip
          refine zr_iconst (v := 0) hX rfl d_M_meets_138 ?_
          exact zr_zret hX rfl d_M_meets_139 ⟨(by unfold s_M_meets; rw [if_pos h40]; rw [if_neg h50]; rw [if_pos h113]; rw [if_pos h131]), rfl⟩
        · skip
          refine zr_iconst (v := 1) hX rfl d_M_meets_134 ?_
          refine zr_goto hX (tgt := 139) (by decide) d_M_meets_135 ?_
          exact zr_zret hX rfl d_M_meets_139 ⟨(by unfold s_M_meets; rw [if_pos h40]; rw [if_neg h50]; rw [if_pos h113]; rw [if_neg h131]), rfl⟩
      · skip
        refine zr_iload hX rfl d_M_meets_116 ?_
        refine zr_if_le hX (tgt := 125) d_M_meets_118 (by decide) (fun h118 => ?_) (fun h118 => ?_)
        · skip
          refine zr_iconst (v := 0) hX rfl d_M_meets_125 ?_
          refine zr_goto hX (tgt := 139) (by decide) d_M_meets_126 ?_
          exact zr_zret hX rfl d_M_meets_139 ⟨(by unfold s_M_meets; rw [if_pos h40]; rw [if_neg h50]; rw [if_neg h113]; rw [if_pos h118]), rfl⟩
        · skip
          refine zr_iconst (v := 1) hX rfl d_M_meets_121 ?_
          refine zr_goto hX (tgt := 139) (by decide) d_M_meets_122 ?_
          exact zr_zret hX rfl d_M_meets_139 ⟨(by unfold s_M_meets; rw [if_pos h40]; rw [if_neg h50]; rw [if_neg h113]; rw [if_neg h118]), rfl⟩
  · skip
    refine zr_iconst (v := 1) hX rfl d_M_meets_43 ?_
    refine zr_goto hX (tgt := 48) (by decide) d_M_meets_44 ?_
    refine zr_iload hX rfl d_M_meets_48 ?_
    refine zr_if_le hX (tgt := 57) d_M_meets_50 (by decide) (fun h50 => ?_) (fun h50 => ?_)
    · skip
      refine zr_iconst (v := 0) hX rfl d_M_meets_57 ?_
      refine zr_icmp_ne hX (tgt := 63) d_M_meets_58 (by decide) (fun _ => ?_) (fun h => absurd h (by decide))
      refine zr_iload hX rfl d_M_meets_63 ?_
      refine zr_iload hX rfl d_M_meets_65 ?_
      refine zr_isub hX d_M_meets_67 ?_
      refine zs_istore hX (by decide) rfl d_M_meets_68 ?_
      refine zr_iconst (v := 2) hX rfl d_M_meets_70 ?_
      refine zr_aload_n hX rfl d_M_meets_71 ?_
      refine zr_get hX k_M 20 (by decide) q673 rfl h.m rfl d_M_meets_72 ?_
      refine zr_iload_n hX rfl d_M_meets_75 ?_
      refine zr_iald hX (h.ar 20 rfl) hi d_M_meets_76 ?_
      refine zr_imul hX d_M_meets_77 ?_
      refine zr_iload hX rfl d_M_meets_78 ?_
      refine zr_imul hX d_M_meets_80 ?_
      refine zr_iconst (v := 2) hX rfl d_M_meets_81 ?_
      refine zr_aload_n hX rfl d_M_meets_82 ?_
      refine zr_get hX k_M 20 (by decide) q673 rfl h.m rfl d_M_meets_83 ?_
      refine zr_iload_n hX rfl d_M_meets_86 ?_
      refine zr_iald hX (h.ar 20 rfl) hj d_M_meets_87 ?_
      refine zr_aload_n hX rfl d_M_meets_88 ?_
      refine zr_get hX k_M 20 (by decide) q673 rfl h.m rfl d_M_meets_89 ?_
      refine zr_iload_n hX rfl d_M_meets_92 ?_
      refine zr_iald hX (h.ar 20 rfl) hi d_M_meets_93 ?_
      refine zr_isub hX d_M_meets_94 ?_
      refine zr_imul hX d_M_meets_95 ?_
      refine zr_iload hX rfl d_M_meets_96 ?_
      refine zr_imul hX d_M_meets_98 ?_
      refine zr_iadd hX d_M_meets_99 ?_
      refine zr_iconst (v := 2) hX rfl d_M_meets_100 ?_
      refine zr_iload_n hX rfl d_M_meets_101 ?_
      refine zr_imul hX d_M_meets_102 ?_
      refine zr_iconst (v := 1) hX rfl d_M_meets_103 ?_
      refine zr_iadd hX d_M_meets_104 ?_
      refine zr_iload hX rfl d_M_meets_105 ?_
      refine zr_imul hX d_M_meets_107 ?_
      refine zr_isub hX d_M_meets_108 ?_
      refine zs_istore hX (by decide) rfl d_M_meets_109 ?_
      refine zr_iload hX rfl d_M_meets_111 ?_
      refine zr_if_le hX (tgt := 129) d_M_meets_113 (by decide) (fun h113 => ?_) (fun h113 => ?_)
      · skip
        refine zr_iload hX rfl d_M_meets_129 ?_
        refine zr_if_ge hX (tgt := 138) d_M_meets_131 (by decide) (fun h131 => ?_) (fun h131 => ?_)
        · skip
          refine zr_iconst (v := 0) hX rfl d_M_meets_138 ?_
          exact zr_zret hX rfl d_M_meets_139 ⟨(by unfold s_M_meets; rw [if_neg h40]; rw [if_pos h50]; rw [if_pos h113]; rw [if_pos h131]), rfl⟩
        · skip
          refine zr_iconst (v := 1) hX rfl d_M_meets_134 ?_
          refine zr_goto hX (tgt := 139) (by decide) d_M_meets_135 ?_
          exact zr_zret hX rfl d_M_meets_139 ⟨(by unfold s_M_meets; rw [if_neg h40]; rw [if_pos h50]; rw [if_pos h113]; rw [if_neg h131]), rfl⟩
      · skip
        refine zr_iload hX rfl d_M_meets_116 ?_
        refine zr_if_le hX (tgt := 125) d_M_meets_118 (by decide) (fun h118 => ?_) (fun h118 => ?_)
        · skip
          refine zr_iconst (v := 0) hX rfl d_M_meets_125 ?_
          refine zr_goto hX (tgt := 139) (by decide) d_M_meets_126 ?_
          exact zr_zret hX rfl d_M_meets_139 ⟨(by unfold s_M_meets; rw [if_neg h40]; rw [if_pos h50]; rw [if_neg h113]; rw [if_pos h118]), rfl⟩
        · skip
          refine zr_iconst (v := 1) hX rfl d_M_meets_121 ?_
          refine zr_goto hX (tgt := 139) (by decide) d_M_meets_122 ?_
          exact zr_zret hX rfl d_M_meets_139 ⟨(by unfold s_M_meets; rw [if_neg h40]; rw [if_pos h50]; rw [if_neg h113]; rw [if_neg h118]), rfl⟩
    · skip
      refine zr_iconst (v := 1) hX rfl d_M_meets_53 ?_
      refine zr_goto hX (tgt := 58) (by decide) d_M_meets_54 ?_
      refine zr_icmp_ne hX (tgt := 63) d_M_meets_58 (by decide) (fun h => absurd h (by decide)) (fun _ => ?_)
      refine zr_iconst (v := 0) hX rfl d_M_meets_61 ?_
      exact zr_zret hX rfl d_M_meets_62 ⟨(by unfold s_M_meets; rw [if_neg h40]; rw [if_neg h50]), rfl⟩
