theorem zcl1 {u : zU} {p l x y : Int32} (h1 : ¬ s_M_isPlace u p = 0) (h2 : ¬ s_S_isLayer l = 0) (h3 : ¬ s_S_isCoordinate x = 0) (h4 : ¬ s_S_isCoordinate y = 0) : ¬ s_M_isCell u p l x y = 0 := by
  unfold s_S_isCoordinate at h3 h4
  unfold s_M_isCell
  rw [if_neg h1, if_neg (show ¬ s_M_isLayer l = 0 from h2)]
  by_cases a : x < 0
  · rw [if_pos a] at h3; exact absurd rfl h3
  rw [if_neg a] at h3 ⊢
  by_cases b : 32 ≤ x
  · rw [if_pos b] at h3; exact absurd rfl h3
  rw [if_neg b]
  by_cases c : y < 0
  · rw [if_pos c] at h4; exact absurd rfl h4
  rw [if_neg c] at h4 ⊢
  by_cases e : 32 ≤ y
  · rw [if_pos e] at h4; exact absurd rfl h4
  rw [if_neg e]
  decide
theorem zcl2 {u : zU} {p l x y : Int32} (h : ¬ s_M_isCell u p l x y = 0) : ¬ s_M_isPlace u p = 0 ∧ ¬ s_M_isLayer l = 0 ∧ (∃ a, a < 32 ∧ x = nI a) ∧ ∃ b, b < 32 ∧ y = nI b := by
  unfold s_M_isCell at h
  by_cases h1 : s_M_isPlace u p = 0
  · rw [if_pos h1] at h; exact absurd rfl h
  rw [if_neg h1] at h
  by_cases h2 : s_M_isLayer l = 0
  · rw [if_pos h2] at h; exact absurd rfl h
  rw [if_neg h2] at h
  by_cases a : x < 0
  · rw [if_pos a] at h; exact absurd rfl h
  rw [if_neg a] at h
  by_cases b : 32 ≤ x
  · rw [if_pos b] at h; exact absurd rfl h
  rw [if_neg b] at h
  by_cases c : y < 0
  · rw [if_pos c] at h; exact absurd rfl h
  rw [if_neg c] at h
  by_cases e : 32 ≤ y
  · rw [if_pos e] at h; exact absurd rfl h
  exact ⟨h1, h2, zcoo a b, zcoo c e⟩
theorem zco1 {a : Nat} (h : a < 32) : ¬ s_S_isCoordinate (nI a) = 0 := by
  unfold s_S_isCoordinate
  have e : ¬ (32 : Int32) ≤ nI a := fun q => absurd ((nI_leI (a := 32) (b := a) (by decide) (by omega)).mp q) (by omega)
  rw [if_neg (nI_pos (by omega)), if_neg e]
  decide
theorem c_S_cellAt_0 (g : zGt) (d : Nat) (hdd : 3 ≤ d) (G : zG) (w : zW) (u : zU) (cm : Nat) (hH : zHp w G) (hR : zRl w u cm) (p l x y : Int32)  (h0 : s_M_isCell u p l x y = 0) : zMet g y_S_cellAt b_S_cellAt 6 (some .long) [] d 0 0 [.ref (w.a 0 0), .int p, .int l, .int x, .int y] G (zD1 (.long (-9223372036854775808)) G) := by
  refine zMet.of (by decide) (Nat.le_of_ble_eq_true rfl) rfl (fun X hX => ?_)
  refine zr_aload_n hX rfl d_S_cellAt_0 ?_
  refine zr_iload_n hX rfl d_S_cellAt_1 ?_
  by_cases k2 : s_M_isPlace u p = 0
  · skip
    refine zr_pV hX (c_S_cellsOf_0 g (d - 1) (by omega) _ w u cm hH hR p k2) l_S_248 im_S_cellsOf se_S_cellsOf f_S_cellsOf k_S.1 hH.x rfl (Nat.le_of_ble_eq_true rfl) (by omega) (Nat.zero_le _) (Nat.zero_le _) d_S_cellAt_2 ?_
    refine zs_astoreN hX (by decide) rfl d_S_cellAt_5 ?_
    refine zr_aloadN hX rfl d_S_cellAt_7 ?_
    refine zr_ifnullN hX (tgt := 34) (by decide) d_S_cellAt_9 ?_
    refine zr_ldc2 hX q30 d_S_cellAt_34 ?_
    exact zr_lret hX d_S_cellAt_37 ⟨rfl, rfl⟩
  · skip
    obtain ⟨cqa, qa, fa, hcqa, ecqa, hzqa, hrqa, hgqa⟩ := hR.cel1 k2
    refine zr_pV hX (c_S_cellsOf_1 g (d - 1) (by omega) _ w hH p qa hzqa) l_S_248 im_S_cellsOf se_S_cellsOf f_S_cellsOf k_S.1 hH.x rfl (Nat.le_of_ble_eq_true rfl) (by omega) (Nat.zero_le _) (Nat.zero_le _) d_S_cellAt_2 ?_
    refine zs_astore hX (by decide) rfl d_S_cellAt_5 ?_
    refine zr_aload hX rfl d_S_cellAt_7 ?_
    refine zr_ifnull hX d_S_cellAt_9 ?_
    refine zr_iload_n hX rfl d_S_cellAt_12 ?_
    refine zr_pS hX (c_S_isLayer g (d - 1) _ l) l_S_73 st_S_isLayer f_S_isLayer rfl (Nat.le_of_ble_eq_true rfl) (by omega) (Nat.zero_le _) (Nat.zero_le _) d_S_cellAt_13 ?_
    refine zr_if_eq hX (tgt := 34) d_S_cellAt_16 (by decide) (fun h16 => ?_) (fun h16 => ?_)
    · skip
      refine zr_ldc2 hX q30 d_S_cellAt_34 ?_
      exact zr_lret hX d_S_cellAt_37 ⟨rfl, rfl⟩
    · skip
      refine zr_iload_n hX rfl d_S_cellAt_19 ?_
      refine zr_pS hX (c_S_isCoordinate g (d - 1) _ x) l_S_290 st_S_isCoordinate f_S_isCoordinate rfl (Nat.le_of_ble_eq_true rfl) (by omega) (Nat.zero_le _) (Nat.zero_le _) d_S_cellAt_20 ?_
      refine zr_if_eq hX (tgt := 34) d_S_cellAt_23 (by decide) (fun h23 => ?_) (fun h23 => ?_)
      · skip
        refine zr_ldc2 hX q30 d_S_cellAt_34 ?_
        exact zr_lret hX d_S_cellAt_37 ⟨rfl, rfl⟩
      · skip
        refine zr_iload hX rfl d_S_cellAt_26 ?_
        refine zr_pS hX (c_S_isCoordinate g (d - 1) _ y) l_S_290 st_S_isCoordinate f_S_isCoordinate rfl (Nat.le_of_ble_eq_true rfl) (by omega) (Nat.zero_le _) (Nat.zero_le _) d_S_cellAt_28 ?_
        refine zr_if_ne hX (tgt := 38) d_S_cellAt_31 (by decide) (fun h31 => ?_) (fun h31 => ?_)
        · skip
          exact absurd h0 (zcl1 k2 h16 h23 h31)
        · skip
          refine zr_ldc2 hX q30 d_S_cellAt_34 ?_
          exact zr_lret hX d_S_cellAt_37 ⟨rfl, rfl⟩
theorem c_S_cellAt_1 (g : zGt) (d : Nat) (hdd : 3 ≤ d) (G : zG) (w : zW) (u : zU) (cm : Nat) (hH : zHp w G) (hR : zRl w u cm) (c l x y : Nat)  (hc : c < 28) (hl : l < 4) (hx : x < 32) (hy : y < 32) (ho0 : ¬ s_M_isPlace u (nI c) = 0) (ho1 : ¬ s_M_isLayer (nI l) = 0) : zMet g y_S_cellAt b_S_cellAt 6 (some .long) [] d 0 0 [.ref (w.a 0 0), .int (nI c), .int (nI l), .int (nI x), .int (nI y)] G (zD1 (.long (zcell (u.ar 1 (4096 * c + (1024 * l + 32 * y + x))) (u.ar 2 (4096 * c + (1024 * l + 32 * y + x))))) G) := by
  refine zMet.of (by decide) (Nat.le_of_ble_eq_true rfl) rfl (fun X hX => ?_)
  obtain ⟨qa, fa, hzq, hr9, hg9⟩ := hR.cel hc ho0
  refine zr_aload_n hX rfl d_S_cellAt_0 ?_
  refine zr_iload_n hX rfl d_S_cellAt_1 ?_
  refine zr_pV hX (c_S_cellsOf_1 g (d - 1) (by omega) _ w hH (nI c) qa hzq) l_S_248 im_S_cellsOf se_S_cellsOf f_S_cellsOf k_S.1 hH.x rfl (Nat.le_of_ble_eq_true rfl) (by omega) (Nat.zero_le _) (Nat.zero_le _) d_S_cellAt_2 ?_
  refine zs_astore hX (by decide) rfl d_S_cellAt_5 ?_
  refine zr_aload hX rfl d_S_cellAt_7 ?_
  refine zr_ifnull hX d_S_cellAt_9 ?_
  refine zr_iload_n hX rfl d_S_cellAt_12 ?_
  refine zr_pS hX (c_S_isLayer g (d - 1) _ (nI l)) l_S_73 st_S_isLayer f_S_isLayer rfl (Nat.le_of_ble_eq_true rfl) (by omega) (Nat.zero_le _) (Nat.zero_le _) d_S_cellAt_13 ?_
  refine zr_if_eq hX (tgt := 34) d_S_cellAt_16 (by decide) (fun h9 => absurd h9 ho1) (fun _ => ?_)
  refine zr_iload_n hX rfl d_S_cellAt_19 ?_
  refine zr_pS hX (c_S_isCoordinate g (d - 1) _ (nI x)) l_S_290 st_S_isCoordinate f_S_isCoordinate rfl (Nat.le_of_ble_eq_true rfl) (by omega) (Nat.zero_le _) (Nat.zero_le _) d_S_cellAt_20 ?_
  refine zr_if_eq hX (tgt := 34) d_S_cellAt_23 (by decide) (fun h9 => absurd h9 (zco1 hx)) (fun _ => ?_)
  refine zr_iload hX rfl d_S_cellAt_26 ?_
  refine zr_pS hX (c_S_isCoordinate g (d - 1) _ (nI y)) l_S_290 st_S_isCoordinate f_S_isCoordinate rfl (Nat.le_of_ble_eq_true rfl) (by omega) (Nat.zero_le _) (Nat.zero_le _) d_S_cellAt_28 ?_
  refine zr_if_ne hX (tgt := 38) d_S_cellAt_31 (by decide) (fun _ => ?_) (fun h9 => absurd h9 (zco1 hy))
  refine zr_aload hX rfl d_S_cellAt_38 ?_
  refine zr_iload_n hX rfl d_S_cellAt_40 ?_
  refine zr_iload_n hX rfl d_S_cellAt_41 ?_
  refine zr_iload hX rfl d_S_cellAt_42 ?_
  refine zr_pS hX (c_S_indexOf g (d - 1) _ (nI l) (nI x) (nI y)) l_S_117 st_S_indexOf f_S_indexOf rfl (Nat.le_of_ble_eq_true rfl) (by omega) (Nat.zero_le _) (Nat.zero_le _) d_S_cellAt_44 ?_
  rw [show s_S_indexOf (nI l) (nI x) (nI y) = nI (1024 * l + 32 * y + x) from zixS _ _ _]
  refine zr_laldN hX (hg9 G hH) (1024 * l + 32 * y + x) rfl (by omega) (by decide) d_S_cellAt_47 ?_
  exact zr_lret hX d_S_cellAt_48 ⟨by rw [hr9 _ (by omega)], rfl⟩
theorem zcix {c l a b : Nat} (hc : c < 28) (hl : l < 4) (ha : a < 32) (hb : b < 32) : (4096 * nI c + s_M_cellOf (nI l) (nI a) (nI b)).toNatClampNeg = 4096 * c + (1024 * l + 32 * b + a) := by
  unfold s_M_cellOf
  rw [zl4096, zl1024, zl32, pk_mul, pk_mul, pk_mul, nI_add, nI_add, nI_add, nI_clamp (by omega)]
theorem c_S_value (g : zGt) (d : Nat) (hdd : 4 ≤ d) (G : zG) (w : zW) (u : zU) (cm : Nat) (hH : zHp w G) (hR : zRl w u cm) (p l x y : Int32)   : zMet g y_S_value b_S_value 5 (some .int) [] d 0 0 [.ref (w.a 0 0), .int p, .int l, .int x, .int y] G (zD1 (.int (s_M_value u p l x y)) G) := by
  refine zMet.of (by decide) (Nat.le_of_ble_eq_true rfl) rfl (fun X hX => ?_)
  refine zr_aload_n hX rfl d_S_value_0 ?_
  refine zr_iload_n hX rfl d_S_value_1 ?_
  refine zr_iload_n hX rfl d_S_value_2 ?_
  refine zr_iload_n hX rfl d_S_value_3 ?_
  refine zr_iload hX rfl d_S_value_4 ?_
  by_cases k6 : s_M_isCell u p l x y = 0
  · skip
    refine zr_pV hX (c_S_cellAt_0 g (d - 1) (by omega) _ w u cm hH hR p l x y k6) l_S_229 im_S_cellAt se_S_cellAt f_S_cellAt k_S.1 hH.x rfl (Nat.le_of_ble_eq_true rfl) (by omega) (Nat.zero_le _) (Nat.zero_le _) d_S_value_6 ?_
    refine zr_pS hX (c_S_valueOf g (d - 1) _ (-9223372036854775808)) l_S_142 st_S_valueOf f_S_valueOf rfl (Nat.le_of_ble_eq_true rfl) (by omega) (Nat.zero_le _) (Nat.zero_le _) d_S_value_9 ?_
    exact zr_iret hX d_S_value_12 ⟨by unfold s_M_value; rw [if_pos (show s_M_isCell (zuc u 0 0) p l x y = 0 from k6), zvalE], rfl⟩
  · skip
    obtain ⟨m1, m2, ⟨a, ha, ex⟩, b, hb, ey⟩ := zcl2 k6
    obtain ⟨l9, hl9, el⟩ := zlay m2
    obtain ⟨c9, qa, fa, hc9, ec, -⟩ := hR.cel1 m1
    subst ex ey el ec
    have hix : (4096 * nI c9 + s_M_cellOf (nI l9) (nI a) (nI b)).toNatClampNeg = 4096 * c9 + (1024 * l9 + 32 * b + a) := zcix hc9 hl9 ha hb
    have hvo := hR.iv (4096 * c9 + (1024 * l9 + 32 * b + a)) (by omega)
    refine zr_pV hX (c_S_cellAt_1 g (d - 1) (by omega) _ w u cm hH hR c9 l9 a b hc9 hl9 ha hb m1 m2) l_S_229 im_S_cellAt se_S_cellAt f_S_cellAt k_S.1 hH.x rfl (Nat.le_of_ble_eq_true rfl) (by omega) (Nat.zero_le _) (Nat.zero_le _) d_S_value_6 ?_
    refine zr_pS hX (c_S_valueOf g (d - 1) _ (zcell (u.ar 1 (4096 * c9 + (1024 * l9 + 32 * b + a))) (u.ar 2 (4096 * c9 + (1024 * l9 + 32 * b + a))))) l_S_142 st_S_valueOf f_S_valueOf rfl (Nat.le_of_ble_eq_true rfl) (by omega) (Nat.zero_le _) (Nat.zero_le _) d_S_value_9 ?_
    exact zr_iret hX d_S_value_12 ⟨by unfold s_M_value; rw [if_neg (show ¬ s_M_isCell (zuc u 0 0) _ _ _ _ = 0 from k6), hix, zc_val hvo], rfl⟩
theorem c_S_origin (g : zGt) (d : Nat) (hdd : 4 ≤ d) (G : zG) (w : zW) (u : zU) (cm : Nat) (hH : zHp w G) (hR : zRl w u cm) (p l x y e : Int32)   : zMet g y_S_origin b_S_origin 8 (some .int) [] d 0 0 [.ref (w.a 0 0), .int p, .int l, .int x, .int y, .int e] G (zD1 (.int (s_M_origin u p l x y e)) G) := by
  refine zMet.of (by decide) (Nat.le_of_ble_eq_true rfl) rfl (fun X hX => ?_)
  refine zr_aload_n hX rfl d_S_origin_0 ?_
  refine zr_iload_n hX rfl d_S_origin_1 ?_
  refine zr_iload_n hX rfl d_S_origin_2 ?_
  refine zr_iload_n hX rfl d_S_origin_3 ?_
  refine zr_iload hX rfl d_S_origin_4 ?_
  by_cases k6 : s_M_isCell u p l x y = 0
  · skip
    refine zr_pV hX (c_S_cellAt_0 g (d - 1) (by omega) _ w u cm hH hR p l x y k6) l_S_229 im_S_cellAt se_S_cellAt f_S_cellAt k_S.1 hH.x rfl (Nat.le_of_ble_eq_true rfl) (by omega) (Nat.zero_le _) (Nat.zero_le _) d_S_origin_6 ?_
    refine zs_lstore hX (by decide) rfl d_S_origin_9 ?_
    refine zr_lload hX rfl d_S_origin_11 ?_
    refine zr_pS hX (c_S_valueOf g (d - 1) _ (-9223372036854775808)) l_S_142 st_S_valueOf f_S_valueOf rfl (Nat.le_of_ble_eq_true rfl) (by omega) (Nat.zero_le _) (Nat.zero_le _) d_S_origin_13 ?_
    refine zr_ldc hX q99 d_S_origin_16 ?_
    refine zr_icmp_ne hX (tgt := 24) d_S_origin_18 (by decide) (fun h18 => ?_) (fun h18 => ?_)
    · skip
      refine zr_iload hX rfl d_S_origin_24 ?_
      by_cases h26_0 : e = 0
      · skip
        refine zr_tabN hX (tgt := 56) d_S_origin_26 0 h26_0 (by decide) (by decide) rfl (by decide) ?_
        refine zr_lload hX rfl d_S_origin_56 ?_
        refine zr_pS hX (c_S_originCommitOf g (d - 1) (by omega) _ (-9223372036854775808)) l_S_233 st_S_originCommitOf f_S_originCommitOf rfl (Nat.le_of_ble_eq_true rfl) (by omega) (Nat.zero_le _) (Nat.zero_le _) d_S_origin_58 ?_
        exact absurd zvalE h18
      · skip
        by_cases h26_1 : e = 1
        · skip
          refine zr_tabN hX (tgt := 62) d_S_origin_26 1 h26_1 (by decide) (by decide) rfl (by decide) ?_
          refine zr_lload hX rfl d_S_origin_62 ?_
          refine zr_pS hX (c_S_originIndexOf g (d - 1) _ (-9223372036854775808)) l_S_236 st_S_originIndexOf f_S_originIndexOf rfl (Nat.le_of_ble_eq_true rfl) (by omega) (Nat.zero_le _) (Nat.zero_le _) d_S_origin_64 ?_
          refine zr_pS hX (c_S_layerOf g (d - 1) _ (s_S_originIndexOf (-9223372036854775808))) l_S_239 st_S_layerOf f_S_layerOf rfl (Nat.le_of_ble_eq_true rfl) (by omega) (Nat.zero_le _) (Nat.zero_le _) d_S_origin_67 ?_
          exact absurd zvalE h18
        · skip
          by_cases h26_2 : e = 2
          · skip
            refine zr_tabN hX (tgt := 71) d_S_origin_26 2 h26_2 (by decide) (by decide) rfl (by decide) ?_
            refine zr_lload hX rfl d_S_origin_71 ?_
            refine zr_pS hX (c_S_originIndexOf g (d - 1) _ (-9223372036854775808)) l_S_236 st_S_originIndexOf f_S_originIndexOf rfl (Nat.le_of_ble_eq_true rfl) (by omega) (Nat.zero_le _) (Nat.zero_le _) d_S_origin_73 ?_
            refine zr_pS hX (c_S_xOf g (d - 1) _ (s_S_originIndexOf (-9223372036854775808))) l_S_242 st_S_xOf f_S_xOf rfl (Nat.le_of_ble_eq_true rfl) (by omega) (Nat.zero_le _) (Nat.zero_le _) d_S_origin_76 ?_
            exact absurd zvalE h18
          · skip
            by_cases h26_3 : e = 3
            · skip
              refine zr_tabN hX (tgt := 80) d_S_origin_26 3 h26_3 (by decide) (by decide) rfl (by decide) ?_
              refine zr_lload hX rfl d_S_origin_80 ?_
              refine zr_pS hX (c_S_originIndexOf g (d - 1) _ (-9223372036854775808)) l_S_236 st_S_originIndexOf f_S_originIndexOf rfl (Nat.le_of_ble_eq_true rfl) (by omega) (Nat.zero_le _) (Nat.zero_le _) d_S_origin_82 ?_
              refine zr_pS hX (c_S_yOf g (d - 1) _ (s_S_originIndexOf (-9223372036854775808))) l_S_245 st_S_yOf f_S_yOf rfl (Nat.le_of_ble_eq_true rfl) (by omega) (Nat.zero_le _) (Nat.zero_le _) d_S_origin_85 ?_
              exact absurd zvalE h18
            · skip
              refine zr_tabD hX (tgt := 89) (z := 3) d_S_origin_26 rfl (zsw3 h26_0 h26_1 h26_2 h26_3) (by decide) ?_
              refine zr_ldc hX q99 d_S_origin_89 ?_
              exact absurd zvalE h18
    · skip
      refine zr_ldc hX q99 d_S_origin_21 ?_
      exact zr_iret hX d_S_origin_23 ⟨by unfold s_M_origin; rw [if_pos (show s_M_isCell (zuc u 0 0) p l x y = 0 from k6)], rfl⟩
  · skip
    obtain ⟨m1, m2, ⟨a, ha, ex⟩, b, hb, ey⟩ := zcl2 k6
    obtain ⟨l9, hl9, el⟩ := zlay m2
    obtain ⟨c9, qa, fa, hc9, ec, -⟩ := hR.cel1 m1
    subst ex ey el ec
    have hix : (4096 * nI c9 + s_M_cellOf (nI l9) (nI a) (nI b)).toNatClampNeg = 4096 * c9 + (1024 * l9 + 32 * b + a) := zcix hc9 hl9 ha hb
    have hvo := hR.iv (4096 * c9 + (1024 * l9 + 32 * b + a)) (by omega)
    refine zr_pV hX (c_S_cellAt_1 g (d - 1) (by omega) _ w u cm hH hR c9 l9 a b hc9 hl9 ha hb m1 m2) l_S_229 im_S_cellAt se_S_cellAt f_S_cellAt k_S.1 hH.x rfl (Nat.le_of_ble_eq_true rfl) (by omega) (Nat.zero_le _) (Nat.zero_le _) d_S_origin_6 ?_
    refine zs_lstore hX (by decide) rfl d_S_origin_9 ?_
    refine zr_lload hX rfl d_S_origin_11 ?_
    refine zr_pS hX (c_S_valueOf g (d - 1) _ (zcell (u.ar 1 (4096 * c9 + (1024 * l9 + 32 * b + a))) (u.ar 2 (4096 * c9 + (1024 * l9 + 32 * b + a))))) l_S_142 st_S_valueOf f_S_valueOf rfl (Nat.le_of_ble_eq_true rfl) (by omega) (Nat.zero_le _) (Nat.zero_le _) d_S_origin_13 ?_
    refine zr_ldc hX q99 d_S_origin_16 ?_
    refine zr_icmp_ne hX (tgt := 24) d_S_origin_18 (by decide) (fun h18 => ?_) (fun h18 => ?_)
    · skip
      refine zr_iload hX rfl d_S_origin_24 ?_
      by_cases h26_0 : e = 0
      · skip
        refine zr_tabN hX (tgt := 56) d_S_origin_26 0 h26_0 (by decide) (by decide) rfl (by decide) ?_
        refine zr_lload hX rfl d_S_origin_56 ?_
        refine zr_pS hX (c_S_originCommitOf g (d - 1) (by omega) _ (zcell (u.ar 1 (4096 * c9 + (1024 * l9 + 32 * b + a))) (u.ar 2 (4096 * c9 + (1024 * l9 + 32 * b + a))))) l_S_233 st_S_originCommitOf f_S_originCommitOf rfl (Nat.le_of_ble_eq_true rfl) (by omega) (Nat.zero_le _) (Nat.zero_le _) d_S_origin_58 ?_
        exact zr_iret hX d_S_origin_61 ⟨by unfold s_M_origin; rw [if_neg (show ¬ s_M_isCell (zuc u 0 0) _ _ _ _ = 0 from k6), hix]; rw [zc_val hvo] at h18; rcases hvo with ⟨v1, -⟩ | ⟨v1, k9, v2, v3⟩; exact absurd v1 h18; rw [v2, if_pos (nI_pos' (by omega)), if_pos h26_0]; rw [(zor_N v1 v3).1], rfl⟩
      · skip
        by_cases h26_1 : e = 1
        · skip
          refine zr_tabN hX (tgt := 62) d_S_origin_26 1 h26_1 (by decide) (by decide) rfl (by decide) ?_
          refine zr_lload hX rfl d_S_origin_62 ?_
          refine zr_pS hX (c_S_originIndexOf g (d - 1) _ (zcell (u.ar 1 (4096 * c9 + (1024 * l9 + 32 * b + a))) (u.ar 2 (4096 * c9 + (1024 * l9 + 32 * b + a))))) l_S_236 st_S_originIndexOf f_S_originIndexOf rfl (Nat.le_of_ble_eq_true rfl) (by omega) (Nat.zero_le _) (Nat.zero_le _) d_S_origin_64 ?_
          refine zr_pS hX (c_S_layerOf g (d - 1) _ (s_S_originIndexOf (zcell (u.ar 1 (4096 * c9 + (1024 * l9 + 32 * b + a))) (u.ar 2 (4096 * c9 + (1024 * l9 + 32 * b + a)))))) l_S_239 st_S_layerOf f_S_layerOf rfl (Nat.le_of_ble_eq_true rfl) (by omega) (Nat.zero_le _) (Nat.zero_le _) d_S_origin_67 ?_
          exact zr_iret hX d_S_origin_70 ⟨by unfold s_M_origin; rw [if_neg (show ¬ s_M_isCell (zuc u 0 0) _ _ _ _ = 0 from k6), hix]; rw [zc_val hvo] at h18; rcases hvo with ⟨v1, -⟩ | ⟨v1, k9, v2, v3⟩; exact absurd v1 h18; rw [v2, if_pos (nI_pos' (by omega)), if_neg h26_0, if_pos h26_1]; rw [(zor_N v1 v3).2.1], rfl⟩
        · skip
          by_cases h26_2 : e = 2
          · skip
            refine zr_tabN hX (tgt := 71) d_S_origin_26 2 h26_2 (by decide) (by decide) rfl (by decide) ?_
            refine zr_lload hX rfl d_S_origin_71 ?_
            refine zr_pS hX (c_S_originIndexOf g (d - 1) _ (zcell (u.ar 1 (4096 * c9 + (1024 * l9 + 32 * b + a))) (u.ar 2 (4096 * c9 + (1024 * l9 + 32 * b + a))))) l_S_236 st_S_originIndexOf f_S_originIndexOf rfl (Nat.le_of_ble_eq_true rfl) (by omega) (Nat.zero_le _) (Nat.zero_le _) d_S_origin_73 ?_
            refine zr_pS hX (c_S_xOf g (d - 1) _ (s_S_originIndexOf (zcell (u.ar 1 (4096 * c9 + (1024 * l9 + 32 * b + a))) (u.ar 2 (4096 * c9 + (1024 * l9 + 32 * b + a)))))) l_S_242 st_S_xOf f_S_xOf rfl (Nat.le_of_ble_eq_true rfl) (by omega) (Nat.zero_le _) (Nat.zero_le _) d_S_origin_76 ?_
            exact zr_iret hX d_S_origin_79 ⟨by unfold s_M_origin; rw [if_neg (show ¬ s_M_isCell (zuc u 0 0) _ _ _ _ = 0 from k6), hix]; rw [zc_val hvo] at h18; rcases hvo with ⟨v1, -⟩ | ⟨v1, k9, v2, v3⟩; exact absurd v1 h18; rw [v2, if_pos (nI_pos' (by omega)), if_neg h26_0, if_neg h26_1, if_pos h26_2]; rw [(zor_N v1 v3).2.2.1], rfl⟩
          · skip
            by_cases h26_3 : e = 3
            · skip
              refine zr_tabN hX (tgt := 80) d_S_origin_26 3 h26_3 (by decide) (by decide) rfl (by decide) ?_
              refine zr_lload hX rfl d_S_origin_80 ?_
              refine zr_pS hX (c_S_originIndexOf g (d - 1) _ (zcell (u.ar 1 (4096 * c9 + (1024 * l9 + 32 * b + a))) (u.ar 2 (4096 * c9 + (1024 * l9 + 32 * b + a))))) l_S_236 st_S_originIndexOf f_S_originIndexOf rfl (Nat.le_of_ble_eq_true rfl) (by omega) (Nat.zero_le _) (Nat.zero_le _) d_S_origin_82 ?_
              refine zr_pS hX (c_S_yOf g (d - 1) _ (s_S_originIndexOf (zcell (u.ar 1 (4096 * c9 + (1024 * l9 + 32 * b + a))) (u.ar 2 (4096 * c9 + (1024 * l9 + 32 * b + a)))))) l_S_245 st_S_yOf f_S_yOf rfl (Nat.le_of_ble_eq_true rfl) (by omega) (Nat.zero_le _) (Nat.zero_le _) d_S_origin_85 ?_
              exact zr_iret hX d_S_origin_88 ⟨by unfold s_M_origin; rw [if_neg (show ¬ s_M_isCell (zuc u 0 0) _ _ _ _ = 0 from k6), hix]; rw [zc_val hvo] at h18; rcases hvo with ⟨v1, -⟩ | ⟨v1, k9, v2, v3⟩; exact absurd v1 h18; rw [v2, if_pos (nI_pos' (by omega)), if_neg h26_0, if_neg h26_1, if_neg h26_2, if_pos h26_3]; rw [(zor_N v1 v3).2.2.2], rfl⟩
            · skip
              refine zr_tabD hX (tgt := 89) (z := 3) d_S_origin_26 rfl (zsw3 h26_0 h26_1 h26_2 h26_3) (by decide) ?_
              refine zr_ldc hX q99 d_S_origin_89 ?_
              exact zr_iret hX d_S_origin_91 ⟨by unfold s_M_origin; rw [if_neg (show ¬ s_M_isCell (zuc u 0 0) _ _ _ _ = 0 from k6), hix]; rw [zc_val hvo] at h18; rcases hvo with ⟨v1, -⟩ | ⟨v1, k9, v2, v3⟩; exact absurd v1 h18; rw [v2, if_pos (nI_pos' (by omega)), if_neg h26_0, if_neg h26_1, if_neg h26_2, if_neg h26_3], rfl⟩
    · skip
      refine zr_ldc hX q99 d_S_origin_21 ?_
      exact zr_iret hX d_S_origin_23 ⟨by unfold s_M_origin; rw [if_neg (show ¬ s_M_isCell (zuc u 0 0) _ _ _ _ = 0 from k6), hix]; rw [zc_val hvo] at h18; rcases hvo with ⟨v1, v2⟩ | ⟨v1, -⟩; rw [v2]; rfl; exact absurd h18 v1, rfl⟩
theorem zRl.cmn {w : zW} {u : zU} {cm : Nat} (h : zRl w u cm) {c : Nat} (hc : c < cm) : ∃ q, w.o 1 c = some q ∧ zcmt (zWv w) (nI c) = some q := by
  have hm := h.hm
  have ho : ¬ s_M_isCommit u (nI c) = 0 := by
    unfold s_M_isCommit
    rw [if_neg (nI_pos (by omega)), h.i6, if_neg (fun q => absurd ((nI_leI (by omega) (by omega)).mp q) (by omega))]
    decide
  obtain ⟨q, -, h1, h2, -⟩ := h.cmt (by omega) ho
  exact ⟨q, h1, h2⟩
theorem zcon1 {S n : Int32} (h : ¬ s_S_contains S n = 0) : (S >>> (n &&& 31)) &&& 1 = 1 := by
  unfold s_S_contains at h
  by_cases c : (S >>> (n &&& 31)) &&& 1 = 1
  · exact c
  · rw [if_neg c] at h; exact absurd rfl h
theorem zcon0 {S n : Int32} (h : s_S_contains S n = 0) : ¬ (S >>> (n &&& 31)) &&& 1 = 1 := fun c => by
  unfold s_S_contains at h
  rw [if_pos c] at h
  exact absurd h (by decide)
theorem c_S_ancestorsOf_1 (g : zGt) (d : Nat) (hdd : 1 ≤ d) (G : zG) (w : zW) (u : zU) (cm : Nat) (hH : zHp w G) (hR : zRl w u cm) (c : Nat)  (hc : c < cm) : zMet g y_S_ancestorsOf b_S_ancestorsOf 3 (some .int) [] d 0 0 [.ref (w.a 0 0), .int (nI c)] G (zD1 (.int (w.i 3 c)) G) := by
  refine zMet.of (by decide) (Nat.le_of_ble_eq_true rfl) rfl (fun X hX => ?_)
  obtain ⟨qc, hqc, hzc⟩ := hR.cmn hc
  refine zr_aload_n hX rfl d_S_ancestorsOf_0 ?_
  refine zr_iload_n hX rfl d_S_ancestorsOf_1 ?_
  refine zr_pV hX (c_S_commitAt_1 g (d - 1) _ w hH (nI c) qc hzc) l_S_77 im_S_commitAt se_S_commitAt f_S_commitAt k_S.1 hH.x rfl (Nat.le_of_ble_eq_true rfl) (by omega) (Nat.zero_le _) (Nat.zero_le _) d_S_ancestorsOf_2 ?_
  refine zs_astore_n hX (by decide) rfl d_S_ancestorsOf_5 ?_
  refine zr_aload_n hX rfl d_S_ancestorsOf_6 ?_
  refine zr_ifnonnull hX (tgt := 14) (by decide) d_S_ancestorsOf_7 ?_
  refine zr_aload_n hX rfl d_S_ancestorsOf_14 ?_
  refine zr_get hX k_C 2 (by decide) q44 rfl (hH.cmo hqc) rfl d_S_ancestorsOf_15 ?_
  exact zr_iret hX d_S_ancestorsOf_18 ⟨rfl, rfl⟩
theorem c_S_ancestorsOf_0 (g : zGt) (d : Nat) (hdd : 1 ≤ d) (G : zG) (w : zW) (u : zU) (cm : Nat) (hH : zHp w G) (hR : zRl w u cm) (p : Int32)  (h0 : s_M_isCommit u p = 0) : zMet g y_S_ancestorsOf b_S_ancestorsOf 3 (some .int) [] d 0 0 [.ref (w.a 0 0), .int p] G (zD1 (.int 0) G) := by
  refine zMet.of (by decide) (Nat.le_of_ble_eq_true rfl) rfl (fun X hX => ?_)
  refine zr_aload_n hX rfl d_S_ancestorsOf_0 ?_
  refine zr_iload_n hX rfl d_S_ancestorsOf_1 ?_
  refine zr_pV hX (c_S_commitAt_0 g (d - 1) _ w u cm hH hR p h0) l_S_77 im_S_commitAt se_S_commitAt f_S_commitAt k_S.1 hH.x rfl (Nat.le_of_ble_eq_true rfl) (by omega) (Nat.zero_le _) (Nat.zero_le _) d_S_ancestorsOf_2 ?_
  refine zs_astore_nN hX (by decide) rfl d_S_ancestorsOf_5 ?_
  refine zr_aload_nN hX rfl d_S_ancestorsOf_6 ?_
  refine zr_ifnonnullN hX d_S_ancestorsOf_7 ?_
  refine zr_iconst (v := 0) hX rfl d_S_ancestorsOf_10 ?_
  refine zr_goto hX (tgt := 18) (by decide) d_S_ancestorsOf_11 ?_
  exact zr_iret hX d_S_ancestorsOf_18 ⟨rfl, rfl⟩
theorem c_S_nearestOf (g : zGt) (d : Nat) (hdd : 2 ≤ d) (G : zG) (w : zW) (u : zU) (cm : Nat) (hH : zHp w G) (hR : zRl w u cm) (S : Int32) (c : Nat)  (hc : c < cm) : zMet g y_S_nearestOf b_S_nearestOf 7 (some .int) [] d 0 0 [.ref (w.a 0 0), .int S, .int (nI c)] G (zD1 (.int (znrS (w.i 3) S c cm)) G) := by
  refine zMet.of (by decide) (Nat.le_of_ble_eq_true rfl) rfl (fun X hX => ?_)
  have a2 : w.i 0 2 = nI cm := hR.1.2.1
  have hm := hR.hm
  refine zr_iconst (v := 0) hX rfl d_S_nearestOf_0 ?_
  refine zs_istore_n hX (by decide) rfl d_S_nearestOf_1 ?_
  refine zr_iconst (v := 0) hX rfl d_S_nearestOf_2 ?_
  refine zs_istore hX (by decide) rfl d_S_nearestOf_3 ?_
  have L5 : ∀ j, j ≤ cm → ∀ (s : Int32), s = zfor j (zofS (w.i 3) S) 0 → zw g X (zD1 (.int (znrS (w.i 3) S c cm)) G) 5 [some (.ref (w.a 0 0)), some (.int S), some (.int (nI c)), some (.int s), some (.int (nI j)), none, none] [] G 0 0 := by
    refine zup cm (fun j hj_s ih_s => ?_)
    intro s  hs
    by_cases hlt_s : j < cm
    · skip
      refine zr_iload hX rfl d_S_nearestOf_5 ?_
      refine zr_aload_n hX rfl d_S_nearestOf_7 ?_
      refine zr_get hX k_S 2 (by decide) q105 rfl hH.x (zsf2 a2) d_S_nearestOf_8 ?_
      refine zr_icmp_ge hX (tgt := 38) d_S_nearestOf_11 (by decide) (fun h9 => absurd h9 (nI_ge (a := j) (b := cm) (by omega) (by omega))) (fun _ => ?_)
      refine zr_iload_n hX rfl d_S_nearestOf_14 ?_
      refine zr_iload hX rfl d_S_nearestOf_15 ?_
      refine zr_pS hX (c_S_contains g (d - 1) _ S (nI j)) l_S_186 st_S_contains f_S_contains rfl (Nat.le_of_ble_eq_true rfl) (by omega) (Nat.zero_le _) (Nat.zero_le _) d_S_nearestOf_17 ?_
      refine zr_if_eq hX (tgt := 32) d_S_nearestOf_20 (by decide) (fun h20 => ?_) (fun h20 => ?_)
      · skip
        refine zs_iinc (v := nI (j + 1)) hX rfl (nI_add _ 1) (by decide) rfl d_S_nearestOf_32 ?_
        refine zr_goto hX (tgt := 5) (by decide) d_S_nearestOf_35 ?_
        exact ih_s hlt_s _ (by rw [zfor_s, ← hs]; unfold zofS; rw [if_neg (zcon0 h20)])
      · skip
        refine zr_iload_n hX rfl d_S_nearestOf_23 ?_
        refine zr_aload_n hX rfl d_S_nearestOf_24 ?_
        refine zr_iload hX rfl d_S_nearestOf_25 ?_
        refine zr_pV hX (c_S_ancestorsOf_1 g (d - 1) (by omega) _ w u cm hH hR j (by omega)) l_S_172 im_S_ancestorsOf se_S_ancestorsOf f_S_ancestorsOf k_S.1 hH.x rfl (Nat.le_of_ble_eq_true rfl) (by omega) (Nat.zero_le _) (Nat.zero_le _) d_S_nearestOf_27 ?_
        refine zr_ior hX d_S_nearestOf_30 ?_
        refine zs_istore_n hX (by decide) rfl d_S_nearestOf_31 ?_
        refine zs_iinc (v := nI (j + 1)) hX rfl (nI_add _ 1) (by decide) rfl d_S_nearestOf_32 ?_
        refine zr_goto hX (tgt := 5) (by decide) d_S_nearestOf_35 ?_
        exact ih_s hlt_s _ (by rw [zfor_s, ← hs]; unfold zofS; rw [if_pos (zcon1 h20)])
    · skip
      have ej_s : cm = j := by omega
      subst ej_s
      refine zr_iload hX rfl d_S_nearestOf_5 ?_
      refine zr_aload_n hX rfl d_S_nearestOf_7 ?_
      refine zr_get hX k_S 2 (by decide) q105 rfl hH.x (zsf2 a2) d_S_nearestOf_8 ?_
      refine zr_icmp_ge hX (tgt := 38) d_S_nearestOf_11 (by decide) (fun _ => ?_) (fun h9 => absurd h9 (zq_leT (a := cm) (b := cm) (by omega) (by omega)))
      refine zr_iload_n hX rfl d_S_nearestOf_38 ?_
      refine zr_aload_n hX rfl d_S_nearestOf_39 ?_
      refine zr_iload_n hX rfl d_S_nearestOf_40 ?_
      refine zr_pV hX (c_S_ancestorsOf_1 g (d - 1) (by omega) _ w u cm hH hR c (by omega)) l_S_172 im_S_ancestorsOf se_S_ancestorsOf f_S_ancestorsOf k_S.1 hH.x rfl (Nat.le_of_ble_eq_true rfl) (by omega) (Nat.zero_le _) (Nat.zero_le _) d_S_nearestOf_41 ?_
      refine zr_iand hX d_S_nearestOf_44 ?_
      refine zs_istore hX (by decide) rfl d_S_nearestOf_45 ?_
      refine zr_iconst (v := 0) hX rfl d_S_nearestOf_47 ?_
      refine zs_istore hX (by decide) rfl d_S_nearestOf_48 ?_
      refine zr_iconst (v := 0) hX rfl d_S_nearestOf_50 ?_
      refine zs_istore hX (by decide) rfl d_S_nearestOf_51 ?_
      have L53 : ∀ i, i ≤ cm → ∀ (r : Int32), r = zfor i (zfaS (w.i 3) (s &&& w.i 3 c)) 0 → zw g X (zD1 (.int (znrS (w.i 3) S c cm)) G) 53 [some (.ref (w.a 0 0)), some (.int S), some (.int (nI c)), some (.int s), some (.int (s &&& (w.i 3 c))), some (.int r), some (.int (nI i))] [] G 0 0 := by
        refine zup cm (fun i hj_t ih_t => ?_)
        intro r  ht
        by_cases hlt_t : i < cm
        · skip
          refine zr_iload hX rfl d_S_nearestOf_53 ?_
          refine zr_aload_n hX rfl d_S_nearestOf_55 ?_
          refine zr_get hX k_S 2 (by decide) q105 rfl hH.x (zsf2 a2) d_S_nearestOf_56 ?_
          refine zr_icmp_ge hX (tgt := 96) d_S_nearestOf_59 (by decide) (fun h9 => absurd h9 (nI_ge (a := i) (b := cm) (by omega) (by omega))) (fun _ => ?_)
          refine zr_iload hX rfl d_S_nearestOf_62 ?_
          refine zr_iload hX rfl d_S_nearestOf_64 ?_
          refine zr_pS hX (c_S_contains g (d - 1) _ (s &&& (w.i 3 c)) (nI i)) l_S_186 st_S_contains f_S_contains rfl (Nat.le_of_ble_eq_true rfl) (by omega) (Nat.zero_le _) (Nat.zero_le _) d_S_nearestOf_66 ?_
          refine zr_if_eq hX (tgt := 90) d_S_nearestOf_69 (by decide) (fun h69 => ?_) (fun h69 => ?_)
          · skip
            refine zs_iinc (v := nI (i + 1)) hX rfl (nI_add _ 1) (by decide) rfl d_S_nearestOf_90 ?_
            refine zr_goto hX (tgt := 53) (by decide) d_S_nearestOf_93 ?_
            exact ih_t hlt_t _ (by rw [zfor_s, ← ht]; unfold zfaS; rw [if_neg (zcon0 h69)])
          · skip
            refine zr_iload hX rfl d_S_nearestOf_72 ?_
            refine zr_aload_n hX rfl d_S_nearestOf_74 ?_
            refine zr_iload hX rfl d_S_nearestOf_75 ?_
            refine zr_pV hX (c_S_ancestorsOf_1 g (d - 1) (by omega) _ w u cm hH hR i (by omega)) l_S_172 im_S_ancestorsOf se_S_ancestorsOf f_S_ancestorsOf k_S.1 hH.x rfl (Nat.le_of_ble_eq_true rfl) (by omega) (Nat.zero_le _) (Nat.zero_le _) d_S_nearestOf_77 ?_
            refine zr_iconst (v := 1) hX rfl d_S_nearestOf_80 ?_
            refine zr_iload hX rfl d_S_nearestOf_81 ?_
            refine zr_ishl hX d_S_nearestOf_83 ?_
            refine zr_iconst (v := (-1)) hX rfl d_S_nearestOf_84 ?_
            refine zr_ixor hX d_S_nearestOf_85 ?_
            refine zr_iand hX d_S_nearestOf_86 ?_
            refine zr_ior hX d_S_nearestOf_87 ?_
            refine zs_istore hX (by decide) rfl d_S_nearestOf_88 ?_
            refine zs_iinc (v := nI (i + 1)) hX rfl (nI_add _ 1) (by decide) rfl d_S_nearestOf_90 ?_
            refine zr_goto hX (tgt := 53) (by decide) d_S_nearestOf_93 ?_
            exact ih_t hlt_t _ (by rw [zfor_s, ← ht]; unfold zfaS; rw [if_pos (zcon1 h69)])
        · skip
          have ej_t : cm = i := by omega
          subst ej_t
          refine zr_iload hX rfl d_S_nearestOf_53 ?_
          refine zr_aload_n hX rfl d_S_nearestOf_55 ?_
          refine zr_get hX k_S 2 (by decide) q105 rfl hH.x (zsf2 a2) d_S_nearestOf_56 ?_
          refine zr_icmp_ge hX (tgt := 96) d_S_nearestOf_59 (by decide) (fun _ => ?_) (fun h9 => absurd h9 (zq_leT (a := cm) (b := cm) (by omega) (by omega)))
          refine zr_iload hX rfl d_S_nearestOf_96 ?_
          refine zr_iload hX rfl d_S_nearestOf_98 ?_
          refine zr_iconst (v := (-1)) hX rfl d_S_nearestOf_100 ?_
          refine zr_ixor hX d_S_nearestOf_101 ?_
          refine zr_iand hX d_S_nearestOf_102 ?_
          exact zr_iret hX d_S_nearestOf_103 ⟨by unfold znrS; rw [← hs, ← ht], rfl⟩
      exact L53 0 (Nat.zero_le _) _ rfl
  exact L5 0 (Nat.zero_le _) _ rfl
theorem c_S_nearest_bad (g : zGt) (d : Nat) (hdd : 1 ≤ d) (G : zG) (w : zW) (u : zU) (cm : Nat) (hH : zHp w G) (hR : zRl w u cm) (p q e : Int32)  (hbad : s_M_isCommit u p = 0 ∨ s_M_isCommit u q = 0) : zMet g y_S_nearest b_S_nearest 7 (some .int) [] d 0 0 [.ref (w.a 0 0), .int p, .int q, .int e] G (zD1 (.int (-1)) G) := by
  refine zMet.of (by decide) (Nat.le_of_ble_eq_true rfl) rfl (fun X hX => ?_)
  refine zr_aload_n hX rfl d_S_nearest_0 ?_
  refine zr_iload_n hX rfl d_S_nearest_1 ?_
  by_cases c2 : s_M_isCommit u p = 0
  · skip
    refine zr_pV hX (c_S_commitAt_0 g (d - 1) _ w u cm hH hR p c2) l_S_77 im_S_commitAt se_S_commitAt f_S_commitAt k_S.1 hH.x rfl (Nat.le_of_ble_eq_true rfl) (by omega) (Nat.zero_le _) (Nat.zero_le _) d_S_nearest_2 ?_
    refine zr_ifnullN hX (tgt := 16) (by decide) d_S_nearest_5 ?_
    refine zr_iconst (v := (-1)) hX rfl d_S_nearest_16 ?_
    exact zr_iret hX d_S_nearest_17 ⟨rfl, rfl⟩
  · skip
    obtain ⟨c9, qc, hc9, ec9, hqc, hzc⟩ := hR.cmt1 c2
    refine zr_pV hX (c_S_commitAt_1 g (d - 1) _ w hH p qc hzc) l_S_77 im_S_commitAt se_S_commitAt f_S_commitAt k_S.1 hH.x rfl (Nat.le_of_ble_eq_true rfl) (by omega) (Nat.zero_le _) (Nat.zero_le _) d_S_nearest_2 ?_
    refine zr_ifnull hX d_S_nearest_5 ?_
    refine zr_aload_n hX rfl d_S_nearest_8 ?_
    refine zr_iload_n hX rfl d_S_nearest_9 ?_
    by_cases c10 : s_M_isCommit u q = 0
    · skip
      refine zr_pV hX (c_S_commitAt_0 g (d - 1) _ w u cm hH hR q c10) l_S_77 im_S_commitAt se_S_commitAt f_S_commitAt k_S.1 hH.x rfl (Nat.le_of_ble_eq_true rfl) (by omega) (Nat.zero_le _) (Nat.zero_le _) d_S_nearest_10 ?_
      refine zr_ifnonnullN hX d_S_nearest_13 ?_
      refine zr_iconst (v := (-1)) hX rfl d_S_nearest_16 ?_
      exact zr_iret hX d_S_nearest_17 ⟨rfl, rfl⟩
    · skip
      obtain ⟨c9, qc, hc9, ec9, hqc, hzc⟩ := hR.cmt1 c10
      refine zr_pV hX (c_S_commitAt_1 g (d - 1) _ w hH q qc hzc) l_S_77 im_S_commitAt se_S_commitAt f_S_commitAt k_S.1 hH.x rfl (Nat.le_of_ble_eq_true rfl) (by omega) (Nat.zero_le _) (Nat.zero_le _) d_S_nearest_10 ?_
      refine zr_ifnonnull hX (tgt := 18) (by decide) d_S_nearest_13 ?_
      rcases hbad with e | e
      · exact absurd e c2
      · exact absurd e c10
theorem c_S_nearest_in (g : zGt) (d : Nat) (hdd : 4 ≤ d) (G : zG) (w : zW) (u : zU) (cm : Nat) (hH : zHp w G) (hR : zRl w u cm) (p q : Nat) (e : Int32)  (hcp : p < cm) (hcq : q < cm) : zMet g y_S_nearest b_S_nearest 7 (some .int) [] d 0 0 [.ref (w.a 0 0), .int (nI p), .int (nI q), .int e] G (zD1 (.int (zsel (zfor cm (zstp (zpkS (fun j => zbt (znrS (w.i 3) (1 <<< (nI p &&& 31)) q cm) j) e)) (.inl 0)) (fun _ => (-1)))) G) := by
  refine zMet.of (by decide) (Nat.le_of_ble_eq_true rfl) rfl (fun X hX => ?_)
  have a2 : w.i 0 2 = nI cm := hR.1.2.1
  have hm := hR.hm
  obtain ⟨qp, hqp, hzp⟩ := hR.cmn hcp
  obtain ⟨qq, hqq, hzq⟩ := hR.cmn hcq
  refine zr_aload_n hX rfl d_S_nearest_0 ?_
  refine zr_iload_n hX rfl d_S_nearest_1 ?_
  refine zr_pV hX (c_S_commitAt_1 g (d - 1) _ w hH (nI p) qp hzp) l_S_77 im_S_commitAt se_S_commitAt f_S_commitAt k_S.1 hH.x rfl (Nat.le_of_ble_eq_true rfl) (by omega) (Nat.zero_le _) (Nat.zero_le _) d_S_nearest_2 ?_
  refine zr_ifnull hX d_S_nearest_5 ?_
  refine zr_aload_n hX rfl d_S_nearest_8 ?_
  refine zr_iload_n hX rfl d_S_nearest_9 ?_
  refine zr_pV hX (c_S_commitAt_1 g (d - 1) _ w hH (nI q) qq hzq) l_S_77 im_S_commitAt se_S_commitAt f_S_commitAt k_S.1 hH.x rfl (Nat.le_of_ble_eq_true rfl) (by omega) (Nat.zero_le _) (Nat.zero_le _) d_S_nearest_10 ?_
  refine zr_ifnonnull hX (tgt := 18) (by decide) d_S_nearest_13 ?_
  refine zr_aload_n hX rfl d_S_nearest_18 ?_
  refine zr_iconst (v := 1) hX rfl d_S_nearest_19 ?_
  refine zr_iload_n hX rfl d_S_nearest_20 ?_
  refine zr_ishl hX d_S_nearest_21 ?_
  refine zr_iload_n hX rfl d_S_nearest_22 ?_
  refine zr_pV hX (c_S_nearestOf g (d - 1) (by omega) _ w u cm hH hR (1 <<< ((nI p) &&& 31)) q hcq) l_S_260 im_S_nearestOf se_S_nearestOf f_S_nearestOf k_S.1 hH.x rfl (Nat.le_of_ble_eq_true rfl) (by omega) (Nat.zero_le _) (Nat.zero_le _) d_S_nearest_23 ?_
  refine zs_istore hX (by decide) rfl d_S_nearest_26 ?_
  refine zr_iconst (v := 0) hX rfl d_S_nearest_28 ?_
  refine zs_istore hX (by decide) rfl d_S_nearest_29 ?_
  refine zr_iconst (v := 0) hX rfl d_S_nearest_31 ?_
  refine zs_istore hX (by decide) rfl d_S_nearest_32 ?_
  have L34 : ∀ j, j ≤ cm → ∀ (s : Int32), (.inl s : Int32 ⊕ Int32) = zfor j (zstp (zpkS (fun j => zbt (znrS (w.i 3) (1 <<< (nI p &&& 31)) q cm) j) e)) (.inl 0) → zw g X (zD1 (.int (zsel (zfor cm (zstp (zpkS (fun j => zbt (znrS (w.i 3) (1 <<< (nI p &&& 31)) q cm) j) e)) (.inl 0)) (fun _ => (-1)))) G) 34 [some (.ref (w.a 0 0)), some (.int (nI p)), some (.int (nI q)), some (.int e), some (.int (znrS (w.i 3) (1 <<< ((nI p) &&& 31)) q cm)), some (.int s), some (.int (nI j))] [] G 0 0 := by
    refine zup cm (fun j hj_s ih_s => ?_)
    intro s  hs
    by_cases hlt_s : j < cm
    · skip
      refine zr_iload hX rfl d_S_nearest_34 ?_
      refine zr_aload_n hX rfl d_S_nearest_36 ?_
      refine zr_get hX k_S 2 (by decide) q105 rfl hH.x (zsf2 a2) d_S_nearest_37 ?_
      refine zr_icmp_ge hX (tgt := 71) d_S_nearest_40 (by decide) (fun h9 => absurd h9 (nI_ge (a := j) (b := cm) (by omega) (by omega))) (fun _ => ?_)
      refine zr_iload hX rfl d_S_nearest_43 ?_
      refine zr_iload hX rfl d_S_nearest_45 ?_
      refine zr_pS hX (c_S_contains g (d - 1) _ (znrS (w.i 3) (1 <<< ((nI p) &&& 31)) q cm) (nI j)) l_S_186 st_S_contains f_S_contains rfl (Nat.le_of_ble_eq_true rfl) (by omega) (Nat.zero_le _) (Nat.zero_le _) d_S_nearest_47 ?_
      refine zr_if_eq hX (tgt := 65) d_S_nearest_50 (by decide) (fun h50 => ?_) (fun h50 => ?_)
      · skip
        refine zs_iinc (v := nI (j + 1)) hX rfl (nI_add _ 1) (by decide) rfl d_S_nearest_65 ?_
        refine zr_goto hX (tgt := 34) (by decide) d_S_nearest_68 ?_
        exact ih_s hlt_s _ (zstp_s hs (by unfold zpkS; rw [if_neg (fun z => zcon0 h50 ((zbt_t (by omega)).mpr z))]))
      · skip
        refine zr_iload hX rfl d_S_nearest_53 ?_
        refine zr_iload_n hX rfl d_S_nearest_55 ?_
        refine zr_icmp_ne hX (tgt := 62) d_S_nearest_56 (by decide) (fun h56 => ?_) (fun h56 => ?_)
        · skip
          refine zs_iinc hX rfl rfl (by decide) rfl d_S_nearest_62 ?_
          refine zs_iinc (v := nI (j + 1)) hX rfl (nI_add _ 1) (by decide) rfl d_S_nearest_65 ?_
          refine zr_goto hX (tgt := 34) (by decide) d_S_nearest_68 ?_
          exact ih_s hlt_s _ (zstp_s hs (by unfold zpkS; rw [if_pos ((zbt_t (by omega)).mp (zcon1 h50)), if_neg h56]; rfl))
        · skip
          refine zr_iload hX rfl d_S_nearest_59 ?_
          exact zr_iret hX d_S_nearest_61 ⟨by rw [zstp_r (Nat.succ_le_of_lt hlt_s) (zstp_s (t := .inr (nI j)) hs (by unfold zpkS; rw [if_pos ((zbt_t (by omega)).mp (zcon1 h50)), if_pos h56]))]; rfl, rfl⟩
    · skip
      have ej_s : cm = j := by omega
      subst ej_s
      refine zr_iload hX rfl d_S_nearest_34 ?_
      refine zr_aload_n hX rfl d_S_nearest_36 ?_
      refine zr_get hX k_S 2 (by decide) q105 rfl hH.x (zsf2 a2) d_S_nearest_37 ?_
      refine zr_icmp_ge hX (tgt := 71) d_S_nearest_40 (by decide) (fun _ => ?_) (fun h9 => absurd h9 (zq_leT (a := cm) (b := cm) (by omega) (by omega)))
      refine zr_iconst (v := (-1)) hX rfl d_S_nearest_71 ?_
      exact zr_iret hX d_S_nearest_72 ⟨by rw [← hs]; rfl, rfl⟩
  exact L34 0 (Nat.zero_le _) _ rfl
theorem c_S_nearest_ok (g : zGt) (d : Nat) (hdd : 4 ≤ d) (G : zG) (w : zW) (u : zU) (cm : Nat) (hH : zHp w G) (hR : zRl w u cm) (p q : Nat) (e : Int32) (hcp : p < cm) (hcq : q < cm) (he : ¬ ¬ 0 ≤ e) : zMet g y_S_nearest b_S_nearest 7 (some .int) [] d 0 0 [.ref (w.a 0 0), .int (nI p), .int (nI q), .int e] G (zD1 (.int (s_M_nearest u p q e cm)) G) := by
  have hm := hR.hm
  have h := c_S_nearest_in g d hdd G w u cm hH hR p q e hcp hcq
  have hb : ∀ k, k < 32 → zbt (1 <<< (nI p &&& 31)) k = true → k < cm := fun k hk hz => by
    rw [zbt_1 (by omega) hk] at hz
    have := of_decide_eq_true hz
    omega
  rw [zpk_eq _ (Classical.not_not.mp he) (by omega), znr_eq hR.hi hb hcq] at h
  rw [znr_pk u p q e hm]
  exact h
theorem c_S_nearest_neg (g : zGt) (d : Nat) (hdd : 4 ≤ d) (G : zG) (w : zW) (u : zU) (cm : Nat) (hH : zHp w G) (hR : zRl w u cm) (p q : Nat) (e : Int32) (hcp : p < cm) (hcq : q < cm) (he : ¬ 0 ≤ e) : zMet g y_S_nearest b_S_nearest 7 (some .int) [] d 0 0 [.ref (w.a 0 0), .int (nI p), .int (nI q), .int e] G (zD1 (.int (-1)) G) := by
  have hm := hR.hm
  have h := c_S_nearest_in g d hdd G w u cm hH hR p q e hcp hcq
  rw [zpk_neg _ he (by omega)] at h
  exact h
