theorem c_S_differing_bad (g : zGt) (d : Nat) (hdd : 3 ≤ d) (G : zG) (w : zW) (u : zU) (cm : Nat) (hH : zHp w G) (hR : zRl w u cm) (p q l : Int32)  (hbad : s_M_isPlace u p = 0 ∨ s_M_isPlace u q = 0 ∨ s_M_isLayer l = 0) : zMet g y_S_differing b_S_differing 8 (some .int) [] d 0 0 [.ref (w.a 0 0), .int p, .int q, .int l] G (zD1 (.int (-1)) G) := by
  refine zMet.of (by decide) (Nat.le_of_ble_eq_true rfl) rfl (fun X hX => ?_)
  refine zr_aload_n hX rfl d_S_differing_0 ?_
  refine zr_iload_n hX rfl d_S_differing_1 ?_
  by_cases k2 : s_M_isPlace u p = 0
  · skip
    refine zr_pV hX (c_S_cellsOf_0 g (d - 1) (by omega) _ w u cm hH hR p k2) l_S_248 im_S_cellsOf se_S_cellsOf f_S_cellsOf k_S.1 hH.x rfl (Nat.le_of_ble_eq_true rfl) (by omega) (Nat.zero_le _) (Nat.zero_le _) d_S_differing_2 ?_
    refine zs_astoreN hX (by decide) rfl d_S_differing_5 ?_
    refine zr_aload_n hX rfl d_S_differing_7 ?_
    refine zr_iload_n hX rfl d_S_differing_8 ?_
    by_cases k9 : s_M_isPlace u q = 0
    · skip
      refine zr_pV hX (c_S_cellsOf_0 g (d - 1) (by omega) _ w u cm hH hR q k9) l_S_248 im_S_cellsOf se_S_cellsOf f_S_cellsOf k_S.1 hH.x rfl (Nat.le_of_ble_eq_true rfl) (by omega) (Nat.zero_le _) (Nat.zero_le _) d_S_differing_9 ?_
      refine zs_astoreN hX (by decide) rfl d_S_differing_12 ?_
      refine zr_aloadN hX rfl d_S_differing_14 ?_
      refine zr_ifnullN hX (tgt := 31) (by decide) d_S_differing_16 ?_
      refine zr_iconst (v := (-1)) hX rfl d_S_differing_31 ?_
      exact zr_iret hX d_S_differing_32 ⟨rfl, rfl⟩
    · skip
      obtain ⟨cqz, qz, fz, hcqz, ecqz, hzqz, hrqz, hgqz⟩ := hR.cel1 k9
      refine zr_pV hX (c_S_cellsOf_1 g (d - 1) (by omega) _ w hH q qz hzqz) l_S_248 im_S_cellsOf se_S_cellsOf f_S_cellsOf k_S.1 hH.x rfl (Nat.le_of_ble_eq_true rfl) (by omega) (Nat.zero_le _) (Nat.zero_le _) d_S_differing_9 ?_
      refine zs_astore hX (by decide) rfl d_S_differing_12 ?_
      refine zr_aloadN hX rfl d_S_differing_14 ?_
      refine zr_ifnullN hX (tgt := 31) (by decide) d_S_differing_16 ?_
      refine zr_iconst (v := (-1)) hX rfl d_S_differing_31 ?_
      exact zr_iret hX d_S_differing_32 ⟨rfl, rfl⟩
  · skip
    obtain ⟨cqa, qa, fa, hcqa, ecqa, hzqa, hrqa, hgqa⟩ := hR.cel1 k2
    refine zr_pV hX (c_S_cellsOf_1 g (d - 1) (by omega) _ w hH p qa hzqa) l_S_248 im_S_cellsOf se_S_cellsOf f_S_cellsOf k_S.1 hH.x rfl (Nat.le_of_ble_eq_true rfl) (by omega) (Nat.zero_le _) (Nat.zero_le _) d_S_differing_2 ?_
    refine zs_astore hX (by decide) rfl d_S_differing_5 ?_
    refine zr_aload_n hX rfl d_S_differing_7 ?_
    refine zr_iload_n hX rfl d_S_differing_8 ?_
    by_cases k9 : s_M_isPlace u q = 0
    · skip
      refine zr_pV hX (c_S_cellsOf_0 g (d - 1) (by omega) _ w u cm hH hR q k9) l_S_248 im_S_cellsOf se_S_cellsOf f_S_cellsOf k_S.1 hH.x rfl (Nat.le_of_ble_eq_true rfl) (by omega) (Nat.zero_le _) (Nat.zero_le _) d_S_differing_9 ?_
      refine zs_astoreN hX (by decide) rfl d_S_differing_12 ?_
      refine zr_aload hX rfl d_S_differing_14 ?_
      refine zr_ifnull hX d_S_differing_16 ?_
      refine zr_aloadN hX rfl d_S_differing_19 ?_
      refine zr_ifnullN hX (tgt := 31) (by decide) d_S_differing_21 ?_
      refine zr_iconst (v := (-1)) hX rfl d_S_differing_31 ?_
      exact zr_iret hX d_S_differing_32 ⟨rfl, rfl⟩
    · skip
      obtain ⟨cqz, qz, fz, hcqz, ecqz, hzqz, hrqz, hgqz⟩ := hR.cel1 k9
      refine zr_pV hX (c_S_cellsOf_1 g (d - 1) (by omega) _ w hH q qz hzqz) l_S_248 im_S_cellsOf se_S_cellsOf f_S_cellsOf k_S.1 hH.x rfl (Nat.le_of_ble_eq_true rfl) (by omega) (Nat.zero_le _) (Nat.zero_le _) d_S_differing_9 ?_
      refine zs_astore hX (by decide) rfl d_S_differing_12 ?_
      refine zr_aload hX rfl d_S_differing_14 ?_
      refine zr_ifnull hX d_S_differing_16 ?_
      refine zr_aload hX rfl d_S_differing_19 ?_
      refine zr_ifnull hX d_S_differing_21 ?_
      refine zr_iload_n hX rfl d_S_differing_24 ?_
      refine zr_pS hX (c_S_isLayer g (d - 1) _ l) l_S_73 st_S_isLayer f_S_isLayer rfl (Nat.le_of_ble_eq_true rfl) (by omega) (Nat.zero_le _) (Nat.zero_le _) d_S_differing_25 ?_
      refine zr_if_ne hX (tgt := 33) d_S_differing_28 (by decide) (fun h28 => ?_) (fun h28 => ?_)
      · skip
        rcases hbad with e | e | e
        · exact absurd e k2
        · exact absurd e k9
        · exact absurd e h28
      · skip
        refine zr_iconst (v := (-1)) hX rfl d_S_differing_31 ?_
        exact zr_iret hX d_S_differing_32 ⟨rfl, rfl⟩
theorem c_S_differs_bad (g : zGt) (d : Nat) (hdd : 3 ≤ d) (G : zG) (w : zW) (u : zU) (cm : Nat) (hH : zHp w G) (hR : zRl w u cm) (p q l e : Int32)  (hbad : s_M_isPlace u p = 0 ∨ s_M_isPlace u q = 0 ∨ s_M_isLayer l = 0) : zMet g y_S_differs b_S_differs 10 (some .int) [] d 0 0 [.ref (w.a 0 0), .int p, .int q, .int l, .int e] G (zD1 (.int (-1)) G) := by
  refine zMet.of (by decide) (Nat.le_of_ble_eq_true rfl) rfl (fun X hX => ?_)
  refine zr_aload_n hX rfl d_S_differs_0 ?_
  refine zr_iload_n hX rfl d_S_differs_1 ?_
  by_cases k2 : s_M_isPlace u p = 0
  · skip
    refine zr_pV hX (c_S_cellsOf_0 g (d - 1) (by omega) _ w u cm hH hR p k2) l_S_248 im_S_cellsOf se_S_cellsOf f_S_cellsOf k_S.1 hH.x rfl (Nat.le_of_ble_eq_true rfl) (by omega) (Nat.zero_le _) (Nat.zero_le _) d_S_differs_2 ?_
    refine zs_astoreN hX (by decide) rfl d_S_differs_5 ?_
    refine zr_aload_n hX rfl d_S_differs_7 ?_
    refine zr_iload_n hX rfl d_S_differs_8 ?_
    by_cases k9 : s_M_isPlace u q = 0
    · skip
      refine zr_pV hX (c_S_cellsOf_0 g (d - 1) (by omega) _ w u cm hH hR q k9) l_S_248 im_S_cellsOf se_S_cellsOf f_S_cellsOf k_S.1 hH.x rfl (Nat.le_of_ble_eq_true rfl) (by omega) (Nat.zero_le _) (Nat.zero_le _) d_S_differs_9 ?_
      refine zs_astoreN hX (by decide) rfl d_S_differs_12 ?_
      refine zr_aloadN hX rfl d_S_differs_14 ?_
      refine zr_ifnullN hX (tgt := 31) (by decide) d_S_differs_16 ?_
      refine zr_iconst (v := (-1)) hX rfl d_S_differs_31 ?_
      exact zr_iret hX d_S_differs_32 ⟨rfl, rfl⟩
    · skip
      obtain ⟨cqz, qz, fz, hcqz, ecqz, hzqz, hrqz, hgqz⟩ := hR.cel1 k9
      refine zr_pV hX (c_S_cellsOf_1 g (d - 1) (by omega) _ w hH q qz hzqz) l_S_248 im_S_cellsOf se_S_cellsOf f_S_cellsOf k_S.1 hH.x rfl (Nat.le_of_ble_eq_true rfl) (by omega) (Nat.zero_le _) (Nat.zero_le _) d_S_differs_9 ?_
      refine zs_astore hX (by decide) rfl d_S_differs_12 ?_
      refine zr_aloadN hX rfl d_S_differs_14 ?_
      refine zr_ifnullN hX (tgt := 31) (by decide) d_S_differs_16 ?_
      refine zr_iconst (v := (-1)) hX rfl d_S_differs_31 ?_
      exact zr_iret hX d_S_differs_32 ⟨rfl, rfl⟩
  · skip
    obtain ⟨cqa, qa, fa, hcqa, ecqa, hzqa, hrqa, hgqa⟩ := hR.cel1 k2
    refine zr_pV hX (c_S_cellsOf_1 g (d - 1) (by omega) _ w hH p qa hzqa) l_S_248 im_S_cellsOf se_S_cellsOf f_S_cellsOf k_S.1 hH.x rfl (Nat.le_of_ble_eq_true rfl) (by omega) (Nat.zero_le _) (Nat.zero_le _) d_S_differs_2 ?_
    refine zs_astore hX (by decide) rfl d_S_differs_5 ?_
    refine zr_aload_n hX rfl d_S_differs_7 ?_
    refine zr_iload_n hX rfl d_S_differs_8 ?_
    by_cases k9 : s_M_isPlace u q = 0
    · skip
      refine zr_pV hX (c_S_cellsOf_0 g (d - 1) (by omega) _ w u cm hH hR q k9) l_S_248 im_S_cellsOf se_S_cellsOf f_S_cellsOf k_S.1 hH.x rfl (Nat.le_of_ble_eq_true rfl) (by omega) (Nat.zero_le _) (Nat.zero_le _) d_S_differs_9 ?_
      refine zs_astoreN hX (by decide) rfl d_S_differs_12 ?_
      refine zr_aload hX rfl d_S_differs_14 ?_
      refine zr_ifnull hX d_S_differs_16 ?_
      refine zr_aloadN hX rfl d_S_differs_19 ?_
      refine zr_ifnullN hX (tgt := 31) (by decide) d_S_differs_21 ?_
      refine zr_iconst (v := (-1)) hX rfl d_S_differs_31 ?_
      exact zr_iret hX d_S_differs_32 ⟨rfl, rfl⟩
    · skip
      obtain ⟨cqz, qz, fz, hcqz, ecqz, hzqz, hrqz, hgqz⟩ := hR.cel1 k9
      refine zr_pV hX (c_S_cellsOf_1 g (d - 1) (by omega) _ w hH q qz hzqz) l_S_248 im_S_cellsOf se_S_cellsOf f_S_cellsOf k_S.1 hH.x rfl (Nat.le_of_ble_eq_true rfl) (by omega) (Nat.zero_le _) (Nat.zero_le _) d_S_differs_9 ?_
      refine zs_astore hX (by decide) rfl d_S_differs_12 ?_
      refine zr_aload hX rfl d_S_differs_14 ?_
      refine zr_ifnull hX d_S_differs_16 ?_
      refine zr_aload hX rfl d_S_differs_19 ?_
      refine zr_ifnull hX d_S_differs_21 ?_
      refine zr_iload_n hX rfl d_S_differs_24 ?_
      refine zr_pS hX (c_S_isLayer g (d - 1) _ l) l_S_73 st_S_isLayer f_S_isLayer rfl (Nat.le_of_ble_eq_true rfl) (by omega) (Nat.zero_le _) (Nat.zero_le _) d_S_differs_25 ?_
      refine zr_if_ne hX (tgt := 33) d_S_differs_28 (by decide) (fun h28 => ?_) (fun h28 => ?_)
      · skip
        rcases hbad with e | e | e
        · exact absurd e k2
        · exact absurd e k9
        · exact absurd e h28
      · skip
        refine zr_iconst (v := (-1)) hX rfl d_S_differs_31 ?_
        exact zr_iret hX d_S_differs_32 ⟨rfl, rfl⟩
theorem zdi0 {u : zU} {p q l j : Nat} {a b s : Int32} (ha : a = u.ar 1 (4096 * p + (l * 1024 + j))) (hb : b = u.ar 1 (4096 * q + (l * 1024 + j))) (h : a = b) : s = st_M_differing u p q l j s := by
  unfold st_M_differing
  rw [ha, hb] at h
  rw [Nat.mul_comm 1024 l, if_pos (show (zuc u 0 0).ar 1 (4096 * p + (l * 1024 + j)) = (zuc u 0 0).ar 1 (4096 * q + (l * 1024 + j)) from h)]
  exact (Int32.add_zero s).symm
theorem zdi1 {u : zU} {p q l j : Nat} {a b s : Int32} (ha : a = u.ar 1 (4096 * p + (l * 1024 + j))) (hb : b = u.ar 1 (4096 * q + (l * 1024 + j))) (h : ¬ a = b) : s + Int32.ofInt 1 = st_M_differing u p q l j s := by
  unfold st_M_differing
  rw [ha, hb] at h
  rw [Nat.mul_comm 1024 l, if_neg (show ¬ (zuc u 0 0).ar 1 (4096 * p + (l * 1024 + j)) = (zuc u 0 0).ar 1 (4096 * q + (l * 1024 + j)) from h)]
  rfl
theorem c_S_differing_ok (g : zGt) (d : Nat) (hdd : 3 ≤ d) (G : zG) (w : zW) (u : zU) (cm : Nat) (hH : zHp w G) (hR : zRl w u cm) (p q l : Nat)  (hp : p < 28) (hq : q < 28) (hl : l < 4) (ho0 : ¬ s_M_isPlace u (nI p) = 0) (ho1 : ¬ s_M_isPlace u (nI q) = 0) (ho2 : ¬ s_M_isLayer (nI l) = 0) : zMet g y_S_differing b_S_differing 8 (some .int) [] d 0 0 [.ref (w.a 0 0), .int (nI p), .int (nI q), .int (nI l)] G (zD1 (.int (s_M_differing u p q l)) G) := by
  refine zMet.of (by decide) (Nat.le_of_ble_eq_true rfl) rfl (fun X hX => ?_)
  obtain ⟨qa, fa, hz1, hr1, hg1⟩ := hR.cel hp ho0
  obtain ⟨qz, fz, hz2, hr2, hg2⟩ := hR.cel hq ho1
  refine zr_aload_n hX rfl d_S_differing_0 ?_
  refine zr_iload_n hX rfl d_S_differing_1 ?_
  refine zr_pV hX (c_S_cellsOf_1 g (d - 1) (by omega) _ w hH (nI p) qa hz1) l_S_248 im_S_cellsOf se_S_cellsOf f_S_cellsOf k_S.1 hH.x rfl (Nat.le_of_ble_eq_true rfl) (by omega) (Nat.zero_le _) (Nat.zero_le _) d_S_differing_2 ?_
  refine zs_astore hX (by decide) rfl d_S_differing_5 ?_
  refine zr_aload_n hX rfl d_S_differing_7 ?_
  refine zr_iload_n hX rfl d_S_differing_8 ?_
  refine zr_pV hX (c_S_cellsOf_1 g (d - 1) (by omega) _ w hH (nI q) qz hz2) l_S_248 im_S_cellsOf se_S_cellsOf f_S_cellsOf k_S.1 hH.x rfl (Nat.le_of_ble_eq_true rfl) (by omega) (Nat.zero_le _) (Nat.zero_le _) d_S_differing_9 ?_
  refine zs_astore hX (by decide) rfl d_S_differing_12 ?_
  refine zr_aload hX rfl d_S_differing_14 ?_
  refine zr_ifnull hX d_S_differing_16 ?_
  refine zr_aload hX rfl d_S_differing_19 ?_
  refine zr_ifnull hX d_S_differing_21 ?_
  refine zr_iload_n hX rfl d_S_differing_24 ?_
  refine zr_pS hX (c_S_isLayer g (d - 1) _ (nI l)) l_S_73 st_S_isLayer f_S_isLayer rfl (Nat.le_of_ble_eq_true rfl) (by omega) (Nat.zero_le _) (Nat.zero_le _) d_S_differing_25 ?_
  refine zr_if_ne hX (tgt := 33) d_S_differing_28 (by decide) (fun _ => ?_) (fun h9 => absurd h9 ho2)
  refine zr_iconst (v := 0) hX rfl d_S_differing_33 ?_
  refine zs_istore hX (by decide) rfl d_S_differing_34 ?_
  refine zr_iload_n hX rfl d_S_differing_36 ?_
  refine zr_sipush (v := 1024) hX rfl d_S_differing_37 ?_
  refine zn_imul (a := l) (b := 1024) hX d_S_differing_40 ?_
  rw [show nI (l * 1024) = nI (l * 1024 + 0) from congrArg nI (Nat.add_zero _).symm]
  refine zs_istore hX (by decide) rfl d_S_differing_41 ?_
  have L43 : ∀ j, j ≤ 1024 → ∀ (s : Int32), s = zfor j (st_M_differing u p q l) 0 → zw g X (zD1 (.int (s_M_differing u p q l)) G) 43 [some (.ref (w.a 0 0)), some (.int (nI p)), some (.int (nI q)), some (.int (nI l)), some (.ref qa), some (.ref qz), some (.int s), some (.int (nI (l * 1024 + j)))] [] G 0 0 := by
    refine zup 1024 (fun j hj_s ih_s => ?_)
    intro s  hs
    by_cases hlt_s : j < 1024
    · skip
      refine zr_iload hX rfl d_S_differing_43 ?_
      refine zr_iload_n hX rfl d_S_differing_45 ?_
      refine zr_iconst (v := 1) hX rfl d_S_differing_46 ?_
      refine zn_iadd (a := l) (b := 1) hX d_S_differing_47 ?_
      refine zr_sipush (v := 1024) hX rfl d_S_differing_48 ?_
      refine zn_imul (a := (l + 1)) (b := 1024) hX d_S_differing_51 ?_
      refine zr_icmp_ge hX (tgt := 83) d_S_differing_52 (by decide) (fun h9 => absurd h9 (nI_ge (a := (l * 1024 + j)) (b := ((l + 1) * 1024)) (by omega) (by omega))) (fun _ => ?_)
      refine zr_aload hX rfl d_S_differing_55 ?_
      refine zr_iload hX rfl d_S_differing_57 ?_
      refine zr_laldN hX (hg1 G hH) (l * 1024 + j) rfl (by omega) (by decide) d_S_differing_59 ?_
      refine zr_pS hX (c_S_valueOf g (d - 1) _ (fa (l * 1024 + j))) l_S_142 st_S_valueOf f_S_valueOf rfl (Nat.le_of_ble_eq_true rfl) (by omega) (Nat.zero_le _) (Nat.zero_le _) d_S_differing_60 ?_
      refine zr_aload hX rfl d_S_differing_63 ?_
      refine zr_iload hX rfl d_S_differing_65 ?_
      refine zr_laldN hX (hg2 G hH) (l * 1024 + j) rfl (by omega) (by decide) d_S_differing_67 ?_
      refine zr_pS hX (c_S_valueOf g (d - 1) _ (fz (l * 1024 + j))) l_S_142 st_S_valueOf f_S_valueOf rfl (Nat.le_of_ble_eq_true rfl) (by omega) (Nat.zero_le _) (Nat.zero_le _) d_S_differing_68 ?_
      refine zr_icmp_eq hX (tgt := 77) d_S_differing_71 (by decide) (fun h71 => ?_) (fun h71 => ?_)
      · skip
        refine zs_iinc (v := nI (l * 1024 + (j + 1))) hX rfl ((nI_add _ 1).trans (congrArg nI (Nat.add_assoc _ _ _))) (by decide) rfl d_S_differing_77 ?_
        refine zr_goto hX (tgt := 43) (by decide) d_S_differing_80 ?_
        exact ih_s hlt_s _ (by rw [zfor_s, ← hs]; exact zdi0 (hr1.val hR.iv hp (by omega)) (hr2.val hR.iv hq (by omega)) h71)
      · skip
        refine zs_iinc hX rfl rfl (by decide) rfl d_S_differing_74 ?_
        refine zs_iinc (v := nI (l * 1024 + (j + 1))) hX rfl ((nI_add _ 1).trans (congrArg nI (Nat.add_assoc _ _ _))) (by decide) rfl d_S_differing_77 ?_
        refine zr_goto hX (tgt := 43) (by decide) d_S_differing_80 ?_
        exact ih_s hlt_s _ (by rw [zfor_s, ← hs]; exact zdi1 (hr1.val hR.iv hp (by omega)) (hr2.val hR.iv hq (by omega)) h71)
    · skip
      have ej_s : 1024 = j := by omega
      subst ej_s
      refine zr_iload hX rfl d_S_differing_43 ?_
      refine zr_iload_n hX rfl d_S_differing_45 ?_
      refine zr_iconst (v := 1) hX rfl d_S_differing_46 ?_
      refine zn_iadd (a := l) (b := 1) hX d_S_differing_47 ?_
      refine zr_sipush (v := 1024) hX rfl d_S_differing_48 ?_
      refine zn_imul (a := (l + 1)) (b := 1024) hX d_S_differing_51 ?_
      refine zr_icmp_ge hX (tgt := 83) d_S_differing_52 (by decide) (fun _ => ?_) (fun h9 => absurd h9 (zq_leT (a := ((l + 1) * 1024)) (b := (l * 1024 + 1024)) (by omega) (by omega)))
      refine zr_iload hX rfl d_S_differing_83 ?_
      exact zr_iret hX d_S_differing_85 ⟨by unfold s_M_differing; rw [hs], rfl⟩
  exact L43 0 (Nat.zero_le _) _ rfl
theorem zdfe {u : zU} {p q l j : Nat} {a b : Int32} (ha : a = u.ar 1 (4096 * p + (l * 1024 + j))) (hb : b = u.ar 1 (4096 * q + (l * 1024 + j))) : (a = b) ↔ (u.ar 1 (4096 * p + 1024 * l + j) = u.ar 1 (4096 * q + 1024 * l + j)) := by
  rw [ha, hb, show 4096 * p + (l * 1024 + j) = 4096 * p + 1024 * l + j by omega, show 4096 * q + (l * 1024 + j) = 4096 * q + 1024 * l + j by omega]
theorem zdf0 {u : zU} {p q l j : Nat} {a b s e : Int32} (h : (a = b) ↔ (u.ar 1 (4096 * p + 1024 * l + j) = u.ar 1 (4096 * q + 1024 * l + j))) (h1 : a = b) : zpkS (fun j => decide (¬ u.ar 1 (4096 * p + 1024 * l + j) = u.ar 1 (4096 * q + 1024 * l + j))) e j s = .inl s := by
  unfold zpkS
  rw [if_neg (show ¬ decide (¬ u.ar 1 (4096 * p + 1024 * l + j) = u.ar 1 (4096 * q + 1024 * l + j)) = true from fun z => of_decide_eq_true z (h.mp h1))]
theorem zdf1 {u : zU} {p q l j : Nat} {a b s e : Int32} (h : (a = b) ↔ (u.ar 1 (4096 * p + 1024 * l + j) = u.ar 1 (4096 * q + 1024 * l + j))) (h1 : ¬ a = b) (h2 : ¬ s = e) : zpkS (fun j => decide (¬ u.ar 1 (4096 * p + 1024 * l + j) = u.ar 1 (4096 * q + 1024 * l + j))) e j s = .inl (s + Int32.ofInt 1) := by
  unfold zpkS
  rw [if_pos (show decide (¬ u.ar 1 (4096 * p + 1024 * l + j) = u.ar 1 (4096 * q + 1024 * l + j)) = true from decide_eq_true (fun z => h1 (h.mpr z))), if_neg h2]
  rfl
theorem zdf2 {u : zU} {p q l j : Nat} {a b s e : Int32} (h : (a = b) ↔ (u.ar 1 (4096 * p + 1024 * l + j) = u.ar 1 (4096 * q + 1024 * l + j))) (h1 : ¬ a = b) (h2 : s = e) : zpkS (fun j => decide (¬ u.ar 1 (4096 * p + 1024 * l + j) = u.ar 1 (4096 * q + 1024 * l + j))) e j s = .inr (nI j) := by
  unfold zpkS
  rw [if_pos (show decide (¬ u.ar 1 (4096 * p + 1024 * l + j) = u.ar 1 (4096 * q + 1024 * l + j)) = true from decide_eq_true (fun z => h1 (h.mpr z))), if_pos h2]
theorem c_S_differs_in (g : zGt) (d : Nat) (hdd : 3 ≤ d) (G : zG) (w : zW) (u : zU) (cm : Nat) (hH : zHp w G) (hR : zRl w u cm) (p q l : Nat) (e : Int32)  (hp : p < 28) (hq : q < 28) (hl : l < 4) (ho0 : ¬ s_M_isPlace u (nI p) = 0) (ho1 : ¬ s_M_isPlace u (nI q) = 0) (ho2 : ¬ s_M_isLayer (nI l) = 0) : zMet g y_S_differs b_S_differs 10 (some .int) [] d 0 0 [.ref (w.a 0 0), .int (nI p), .int (nI q), .int (nI l), .int e] G (zD1 (.int (zsel (zfor 1024 (zstp (zpkS (fun j => decide (¬ u.ar 1 (4096 * p + 1024 * l + j) = u.ar 1 (4096 * q + 1024 * l + j))) e)) (.inl 0)) (fun _ => (-1)))) G) := by
  refine zMet.of (by decide) (Nat.le_of_ble_eq_true rfl) rfl (fun X hX => ?_)
  obtain ⟨qa, fa, hz1, hr1, hg1⟩ := hR.cel hp ho0
  obtain ⟨qz, fz, hz2, hr2, hg2⟩ := hR.cel hq ho1
  refine zr_aload_n hX rfl d_S_differs_0 ?_
  refine zr_iload_n hX rfl d_S_differs_1 ?_
  refine zr_pV hX (c_S_cellsOf_1 g (d - 1) (by omega) _ w hH (nI p) qa hz1) l_S_248 im_S_cellsOf se_S_cellsOf f_S_cellsOf k_S.1 hH.x rfl (Nat.le_of_ble_eq_true rfl) (by omega) (Nat.zero_le _) (Nat.zero_le _) d_S_differs_2 ?_
  refine zs_astore hX (by decide) rfl d_S_differs_5 ?_
  refine zr_aload_n hX rfl d_S_differs_7 ?_
  refine zr_iload_n hX rfl d_S_differs_8 ?_
  refine zr_pV hX (c_S_cellsOf_1 g (d - 1) (by omega) _ w hH (nI q) qz hz2) l_S_248 im_S_cellsOf se_S_cellsOf f_S_cellsOf k_S.1 hH.x rfl (Nat.le_of_ble_eq_true rfl) (by omega) (Nat.zero_le _) (Nat.zero_le _) d_S_differs_9 ?_
  refine zs_astore hX (by decide) rfl d_S_differs_12 ?_
  refine zr_aload hX rfl d_S_differs_14 ?_
  refine zr_ifnull hX d_S_differs_16 ?_
  refine zr_aload hX rfl d_S_differs_19 ?_
  refine zr_ifnull hX d_S_differs_21 ?_
  refine zr_iload_n hX rfl d_S_differs_24 ?_
  refine zr_pS hX (c_S_isLayer g (d - 1) _ (nI l)) l_S_73 st_S_isLayer f_S_isLayer rfl (Nat.le_of_ble_eq_true rfl) (by omega) (Nat.zero_le _) (Nat.zero_le _) d_S_differs_25 ?_
  refine zr_if_ne hX (tgt := 33) d_S_differs_28 (by decide) (fun _ => ?_) (fun h9 => absurd h9 ho2)
  refine zr_iconst (v := 0) hX rfl d_S_differs_33 ?_
  refine zs_istore hX (by decide) rfl d_S_differs_34 ?_
  refine zr_iload_n hX rfl d_S_differs_36 ?_
  refine zr_sipush (v := 1024) hX rfl d_S_differs_37 ?_
  refine zn_imul (a := l) (b := 1024) hX d_S_differs_40 ?_
  refine zs_istore hX (by decide) rfl d_S_differs_41 ?_
  refine zr_iconst (v := 0) hX rfl d_S_differs_43 ?_
  refine zs_istore hX (by decide) rfl d_S_differs_44 ?_
  have L46 : ∀ j, j ≤ 1024 → ∀ (s : Int32), (.inl s : Int32 ⊕ Int32) = zfor j (zstp (zpkS (fun j => decide (¬ u.ar 1 (4096 * p + 1024 * l + j) = u.ar 1 (4096 * q + 1024 * l + j))) e)) (.inl 0) → zw g X (zD1 (.int (zsel (zfor 1024 (zstp (zpkS (fun j => decide (¬ u.ar 1 (4096 * p + 1024 * l + j) = u.ar 1 (4096 * q + 1024 * l + j))) e)) (.inl 0)) (fun _ => (-1)))) G) 46 [some (.ref (w.a 0 0)), some (.int (nI p)), some (.int (nI q)), some (.int (nI l)), some (.int e), some (.ref qa), some (.ref qz), some (.int s), some (.int (nI (l * 1024))), some (.int (nI j))] [] G 0 0 := by
    refine zup 1024 (fun j hj_s ih_s => ?_)
    intro s  hs
    by_cases hlt_s : j < 1024
    · skip
      refine zr_iload hX rfl d_S_differs_46 ?_
      refine zr_sipush (v := 1024) hX rfl d_S_differs_48 ?_
      refine zr_icmp_ge hX (tgt := 98) d_S_differs_51 (by decide) (fun h9 => absurd h9 (nI_ge (a := j) (b := 1024) (by omega) (by decide))) (fun _ => ?_)
      refine zr_aload hX rfl d_S_differs_54 ?_
      refine zr_iload hX rfl d_S_differs_56 ?_
      refine zr_iload hX rfl d_S_differs_58 ?_
      refine zn_iadd (a := (l * 1024)) (b := j) hX d_S_differs_60 ?_
      refine zr_laldN hX (hg1 G hH) ((l * 1024) + j) rfl (by omega) (by decide) d_S_differs_61 ?_
      refine zr_pS hX (c_S_valueOf g (d - 1) _ (fa ((l * 1024) + j))) l_S_142 st_S_valueOf f_S_valueOf rfl (Nat.le_of_ble_eq_true rfl) (by omega) (Nat.zero_le _) (Nat.zero_le _) d_S_differs_62 ?_
      refine zr_aload hX rfl d_S_differs_65 ?_
      refine zr_iload hX rfl d_S_differs_67 ?_
      refine zr_iload hX rfl d_S_differs_69 ?_
      refine zn_iadd (a := (l * 1024)) (b := j) hX d_S_differs_71 ?_
      refine zr_laldN hX (hg2 G hH) ((l * 1024) + j) rfl (by omega) (by decide) d_S_differs_72 ?_
      refine zr_pS hX (c_S_valueOf g (d - 1) _ (fz ((l * 1024) + j))) l_S_142 st_S_valueOf f_S_valueOf rfl (Nat.le_of_ble_eq_true rfl) (by omega) (Nat.zero_le _) (Nat.zero_le _) d_S_differs_73 ?_
      refine zr_icmp_eq hX (tgt := 92) d_S_differs_76 (by decide) (fun h76 => ?_) (fun h76 => ?_)
      · skip
        refine zs_iinc (v := nI (j + 1)) hX rfl (nI_add _ 1) (by decide) rfl d_S_differs_92 ?_
        refine zr_goto hX (tgt := 46) (by decide) d_S_differs_95 ?_
        exact ih_s hlt_s _ (zstp_s hs (zdf0 (zdfe (hr1.val hR.iv hp (by omega)) (hr2.val hR.iv hq (by omega))) h76))
      · skip
        refine zr_iload hX rfl d_S_differs_79 ?_
        refine zr_iload hX rfl d_S_differs_81 ?_
        refine zr_icmp_ne hX (tgt := 89) d_S_differs_83 (by decide) (fun h83 => ?_) (fun h83 => ?_)
        · skip
          refine zs_iinc hX rfl rfl (by decide) rfl d_S_differs_89 ?_
          refine zs_iinc (v := nI (j + 1)) hX rfl (nI_add _ 1) (by decide) rfl d_S_differs_92 ?_
          refine zr_goto hX (tgt := 46) (by decide) d_S_differs_95 ?_
          exact ih_s hlt_s _ (zstp_s hs (zdf1 (zdfe (hr1.val hR.iv hp (by omega)) (hr2.val hR.iv hq (by omega))) h76 h83))
        · skip
          refine zr_iload hX rfl d_S_differs_86 ?_
          exact zr_iret hX d_S_differs_88 ⟨by rw [zstp_r (Nat.succ_le_of_lt hlt_s) (zstp_s (t := .inr (nI j)) hs (zdf2 (zdfe (hr1.val hR.iv hp (by omega)) (hr2.val hR.iv hq (by omega))) h76 h83))]; rfl, rfl⟩
    · skip
      have ej_s : 1024 = j := by omega
      subst ej_s
      refine zr_iload hX rfl d_S_differs_46 ?_
      refine zr_sipush (v := 1024) hX rfl d_S_differs_48 ?_
      refine zr_icmp_ge hX (tgt := 98) d_S_differs_51 (by decide) (fun _ => ?_) (fun h9 => absurd h9 (zq_leT (a := 1024) (b := 1024) (by omega) (by decide)))
      refine zr_iconst (v := (-1)) hX rfl d_S_differs_98 ?_
      exact zr_iret hX d_S_differs_99 ⟨by rw [← hs]; rfl, rfl⟩
  exact L46 0 (Nat.zero_le _) _ rfl
theorem c_S_differs_ok (g : zGt) (d : Nat) (hdd : 3 ≤ d) (G : zG) (w : zW) (u : zU) (cm : Nat) (hH : zHp w G) (hR : zRl w u cm) (p q l : Nat) (e : Int32) (hp : p < 28) (hq : q < 28) (hl : l < 4) (ho0 : ¬ s_M_isPlace u (nI p) = 0) (ho1 : ¬ s_M_isPlace u (nI q) = 0) (ho2 : ¬ s_M_isLayer (nI l) = 0) (he : ¬ ¬ 0 ≤ e) : zMet g y_S_differs b_S_differs 10 (some .int) [] d 0 0 [.ref (w.a 0 0), .int (nI p), .int (nI q), .int (nI l), .int e] G (zD1 (.int (s_M_differs u p q l e)) G) := by
  have h := c_S_differs_in g d hdd G w u cm hH hR p q l e hp hq hl ho0 ho1 ho2
  rw [zpk_eq _ (Classical.not_not.mp he) (by decide)] at h
  rw [zdf_eq]
  exact h
theorem c_S_differs_neg (g : zGt) (d : Nat) (hdd : 3 ≤ d) (G : zG) (w : zW) (u : zU) (cm : Nat) (hH : zHp w G) (hR : zRl w u cm) (p q l : Nat) (e : Int32) (hp : p < 28) (hq : q < 28) (hl : l < 4) (ho0 : ¬ s_M_isPlace u (nI p) = 0) (ho1 : ¬ s_M_isPlace u (nI q) = 0) (ho2 : ¬ s_M_isLayer (nI l) = 0) (he : ¬ 0 ≤ e) : zMet g y_S_differs b_S_differs 10 (some .int) [] d 0 0 [.ref (w.a 0 0), .int (nI p), .int (nI q), .int (nI l), .int e] G (zD1 (.int (-1)) G) := by
  have h := c_S_differs_in g d hdd G w u cm hH hR p q l e hp hq hl ho0 ho1 ho2
  rw [zpk_neg _ he (by decide)] at h
  exact h
theorem zlt4 {v : Int32} (h : v < 4) : v ≤ 3 := by
  rw [Int32.lt_iff_toInt_lt, show (4 : Int32).toInt = 4 from rfl] at h
  rw [Int32.le_iff_toInt_le, show (3 : Int32).toInt = 3 from rfl]
  omega
theorem zle3 {v : Int32} (h : v ≤ 3) : v < 4 := by
  rw [Int32.le_iff_toInt_le, show (3 : Int32).toInt = 3 from rfl] at h
  rw [Int32.lt_iff_toInt_lt, show (4 : Int32).toInt = 4 from rfl]
  omega
theorem c_S_total_bad (g : zGt) (d : Nat) (hdd : 6 ≤ d) (G : zG) (w : zW) (u : zU) (cm : Nat) (hH : zHp w G) (hR : zRl w u cm) (p q e : Int32)  (hbad : s_M_isPlace u p = 0 ∨ s_M_isLayer q = 0 ∨ e < 0 ∨ ¬ e ≤ 3) : zMet g y_S_total b_S_total 12 (some .int) [] d 1 6 [.ref (w.a 0 0), .int p, .int q, .int e] G (zDx "java/lang/IllegalArgumentException" G) := by
  refine zMet.of (by decide) (Nat.le_of_ble_eq_true rfl) rfl (fun X hX => ?_)
  refine zr_aload_n hX rfl d_S_total_0 ?_
  refine zr_iload_n hX rfl d_S_total_1 ?_
  by_cases k2 : s_M_isPlace u p = 0
  · skip
    refine zr_pV hX (c_S_cellsOf_0 g (d - 1) (by omega) _ w u cm hH hR p k2) l_S_248 im_S_cellsOf se_S_cellsOf f_S_cellsOf k_S.1 hH.x rfl (Nat.le_of_ble_eq_true rfl) (by omega) (Nat.zero_le _) (Nat.zero_le _) d_S_total_2 ?_
    refine zs_astoreN hX (by decide) rfl d_S_total_5 ?_
    refine zr_aloadN hX rfl d_S_total_7 ?_
    refine zr_ifnullN hX (tgt := 28) (by decide) d_S_total_9 ?_
    exact zr_iae hX rfl d_S_total_28 d_S_total_31 d_S_total_32 d_S_total_35 (by omega) (Nat.le_of_ble_eq_true rfl) (Nat.le_refl _) (Nat.le_refl _) ⟨rfl, rfl⟩
  · skip
    obtain ⟨cqa, qa, fa, hcqa, ecqa, hzqa, hrqa, hgqa⟩ := hR.cel1 k2
    refine zr_pV hX (c_S_cellsOf_1 g (d - 1) (by omega) _ w hH p qa hzqa) l_S_248 im_S_cellsOf se_S_cellsOf f_S_cellsOf k_S.1 hH.x rfl (Nat.le_of_ble_eq_true rfl) (by omega) (Nat.zero_le _) (Nat.zero_le _) d_S_total_2 ?_
    refine zs_astore hX (by decide) rfl d_S_total_5 ?_
    refine zr_aload hX rfl d_S_total_7 ?_
    refine zr_ifnull hX d_S_total_9 ?_
    refine zr_iload_n hX rfl d_S_total_12 ?_
    refine zr_pS hX (c_S_isLayer g (d - 1) _ q) l_S_73 st_S_isLayer f_S_isLayer rfl (Nat.le_of_ble_eq_true rfl) (by omega) (Nat.zero_le _) (Nat.zero_le _) d_S_total_13 ?_
    refine zr_if_eq hX (tgt := 28) d_S_total_16 (by decide) (fun h16 => ?_) (fun h16 => ?_)
    · skip
      exact zr_iae hX rfl d_S_total_28 d_S_total_31 d_S_total_32 d_S_total_35 (by omega) (Nat.le_of_ble_eq_true rfl) (Nat.le_refl _) (Nat.le_refl _) ⟨rfl, rfl⟩
    · skip
      refine zr_iload_n hX rfl d_S_total_19 ?_
      refine zr_if_lt hX (tgt := 28) d_S_total_20 (by decide) (fun h20 => ?_) (fun h20 => ?_)
      · skip
        exact zr_iae hX rfl d_S_total_28 d_S_total_31 d_S_total_32 d_S_total_35 (by omega) (Nat.le_of_ble_eq_true rfl) (Nat.le_refl _) (Nat.le_refl _) ⟨rfl, rfl⟩
      · skip
        refine zr_iload_n hX rfl d_S_total_23 ?_
        refine zr_iconst (v := 4) hX rfl d_S_total_24 ?_
        refine zr_icmp_lt hX (tgt := 36) d_S_total_25 (by decide) (fun h25 => ?_) (fun h25 => ?_)
        · skip
          rcases hbad with e | e | e | e
          · exact absurd e k2
          · exact absurd e h16
          · exact absurd e h20
          · exact absurd e (not_not_intro (zlt4 h25))
        · skip
          exact zr_iae hX rfl d_S_total_28 d_S_total_31 d_S_total_32 d_S_total_35 (by omega) (Nat.le_of_ble_eq_true rfl) (Nat.le_refl _) (Nat.le_refl _) ⟨rfl, rfl⟩
theorem c_S_total_ok (g : zGt) (d : Nat) (hdd : 3 ≤ d) (G : zG) (w : zW) (u : zU) (cm : Nat) (hH : zHp w G) (hR : zRl w u cm) (p q : Nat) (e : Int32) (lf tp wd hg : Nat) (hlf : u.i 16 = nI lf) (htp : u.i 17 = nI tp) (hwd : u.i 18 = nI wd) (hhg : u.i 19 = nI hg) (hr1 : lf + wd ≤ 32) (hr2 : tp + hg ≤ 32)  (hp : p < 28) (hq : q < 4) (ho0 : ¬ s_M_isPlace u (nI p) = 0) (ho1 : ¬ s_M_isLayer (nI q) = 0) (ho2 : ¬ e < 0) (ho3 : ¬ ¬ e ≤ 3) : zMet g y_S_total b_S_total 12 (some .int) [] d 0 0 [.ref (w.a 0 0), .int (nI p), .int (nI q), .int e] G (zD1 (.int (s_M_total u p q e lf tp wd hg)) G) := by
  refine zMet.of (by decide) (Nat.le_of_ble_eq_true rfl) rfl (fun X hX => ?_)
  have a4 : w.i 0 4 = nI lf := (hR.2.2.1.2.1 4 (by omega) (by omega)).trans hlf
  have a5 : w.i 0 5 = nI tp := (hR.2.2.1.2.1 5 (by omega) (by omega)).trans htp
  have a6 : w.i 0 6 = nI wd := (hR.2.2.1.2.1 6 (by omega) (by omega)).trans hwd
  have a7 : w.i 0 7 = nI hg := (hR.2.2.1.2.1 7 (by omega) (by omega)).trans hhg
  obtain ⟨qa, fa, hz1, hr1, hg1⟩ := hR.cel hp ho0
  refine zr_aload_n hX rfl d_S_total_0 ?_
  refine zr_iload_n hX rfl d_S_total_1 ?_
  refine zr_pV hX (c_S_cellsOf_1 g (d - 1) (by omega) _ w hH (nI p) qa hz1) l_S_248 im_S_cellsOf se_S_cellsOf f_S_cellsOf k_S.1 hH.x rfl (Nat.le_of_ble_eq_true rfl) (by omega) (Nat.zero_le _) (Nat.zero_le _) d_S_total_2 ?_
  refine zs_astore hX (by decide) rfl d_S_total_5 ?_
  refine zr_aload hX rfl d_S_total_7 ?_
  refine zr_ifnull hX d_S_total_9 ?_
  refine zr_iload_n hX rfl d_S_total_12 ?_
  refine zr_pS hX (c_S_isLayer g (d - 1) _ (nI q)) l_S_73 st_S_isLayer f_S_isLayer rfl (Nat.le_of_ble_eq_true rfl) (by omega) (Nat.zero_le _) (Nat.zero_le _) d_S_total_13 ?_
  refine zr_if_eq hX (tgt := 28) d_S_total_16 (by decide) (fun h9 => absurd h9 ho1) (fun _ => ?_)
  refine zr_iload_n hX rfl d_S_total_19 ?_
  refine zr_if_lt hX (tgt := 28) d_S_total_20 (by decide) (fun h9 => absurd h9 ho2) (fun _ => ?_)
  refine zr_iload_n hX rfl d_S_total_23 ?_
  refine zr_iconst (v := 4) hX rfl d_S_total_24 ?_
  refine zr_icmp_lt hX (tgt := 36) d_S_total_25 (by decide) (fun _ => ?_) (fun h9 => absurd h9 (not_not_intro (zle3 (Classical.not_not.mp ho3))))
  refine zr_iconst (v := 0) hX rfl d_S_total_36 ?_
  refine zs_istore hX (by decide) rfl d_S_total_37 ?_
  refine zr_iconst (v := 0) hX rfl d_S_total_39 ?_
  refine zs_istore hX (by decide) rfl d_S_total_40 ?_
  refine zr_ldc hX q99 d_S_total_42 ?_
  refine zs_istore hX (by decide) rfl d_S_total_44 ?_
  refine zr_ldc hX q99 d_S_total_46 ?_
  refine zs_istore hX (by decide) rfl d_S_total_48 ?_
  refine zr_aload_n hX rfl d_S_total_50 ?_
  refine zr_get hX k_S 5 (by decide) q108 rfl hH.x (zsf5 a5) d_S_total_51 ?_
  refine zs_istore hX (by decide) rfl d_S_total_54 ?_
  have L56 : ∀ j, j ≤ hg → ∀ (s : Int32 × Int32 × Int32 × Int32), s = zfor j (st_M_total_y u p q lf wd tp) (0, 0, (-2147483648), (-2147483648)) → zw g X (zD1 (.int (s_M_total u p q e lf tp wd hg)) G) 56 [some (.ref (w.a 0 0)), some (.int (nI p)), some (.int (nI q)), some (.int e), some (.ref qa), some (.int s.1), some (.int s.2.1), some (.int s.2.2.1), some (.int s.2.2.2), some (.int (nI (tp + j))), none, none] [] G 0 0 := by
    refine zup hg (fun j hj_s ih_s => ?_)
    intro s  hs
    by_cases hlt_s : j < hg
    · skip
      refine zr_iload hX rfl d_S_total_56 ?_
      refine zr_aload_n hX rfl d_S_total_58 ?_
      refine zr_get hX k_S 5 (by decide) q108 rfl hH.x (zsf5 a5) d_S_total_59 ?_
      refine zr_aload_n hX rfl d_S_total_62 ?_
      refine zr_get hX k_S 7 (by decide) q110 rfl hH.x (zsf7 a7) d_S_total_63 ?_
      refine zn_iadd (a := tp) (b := hg) hX d_S_total_66 ?_
      refine zr_icmp_ge hX (tgt := 163) d_S_total_67 (by decide) (fun h9 => absurd h9 (nI_ge (a := (tp + j)) (b := (tp + hg)) (by omega) (by omega))) (fun _ => ?_)
      refine zr_aload_n hX rfl d_S_total_70 ?_
      refine zr_get hX k_S 4 (by decide) q107 rfl hH.x (zsf4 a4) d_S_total_71 ?_
      refine zs_istore hX (by decide) rfl d_S_total_74 ?_
      have L76 : ∀ i, i ≤ wd → ∀ (r : Int32 × Int32 × Int32 × Int32), r = zfor i (st_M_total_x u p q lf wd tp j) s → zw g X (zD1 (.int (s_M_total u p q e lf tp wd hg)) G) 76 [some (.ref (w.a 0 0)), some (.int (nI p)), some (.int (nI q)), some (.int e), some (.ref qa), some (.int r.1), some (.int r.2.1), some (.int r.2.2.1), some (.int r.2.2.2), some (.int (nI (tp + j))), some (.int (nI (lf + i))), none] [] G 0 0 := by
        refine zup wd (fun i hj_t ih_t => ?_)
        intro r  ht
        by_cases hlt_t : i < wd
        · skip
          refine zr_iload hX rfl d_S_total_76 ?_
          refine zr_aload_n hX rfl d_S_total_78 ?_
          refine zr_get hX k_S 4 (by decide) q107 rfl hH.x (zsf4 a4) d_S_total_79 ?_
          refine zr_aload_n hX rfl d_S_total_82 ?_
          refine zr_get hX k_S 6 (by decide) q109 rfl hH.x (zsf6 a6) d_S_total_83 ?_
          refine zn_iadd (a := lf) (b := wd) hX d_S_total_86 ?_
          refine zr_icmp_ge hX (tgt := 157) d_S_total_87 (by decide) (fun h9 => absurd h9 (nI_ge (a := (lf + i)) (b := (lf + wd)) (by omega) (by omega))) (fun _ => ?_)
          refine zr_aload hX rfl d_S_total_90 ?_
          refine zr_iload_n hX rfl d_S_total_92 ?_
          refine zr_iload hX rfl d_S_total_93 ?_
          refine zr_iload hX rfl d_S_total_95 ?_
          refine zr_pS hX (c_S_indexOf g (d - 1) _ (nI q) (nI (lf + i)) (nI (tp + j))) l_S_117 st_S_indexOf f_S_indexOf rfl (Nat.le_of_ble_eq_true rfl) (by omega) (Nat.zero_le _) (Nat.zero_le _) d_S_total_97 ?_
          rw [show s_S_indexOf (nI q) (nI (lf + i)) (nI (tp + j)) = nI (1024 * q + 32 * (tp + j) + (lf + i)) from zixS _ _ _]
          refine zr_laldN hX (hg1 G hH) (1024 * q + 32 * (tp + j) + (lf + i)) rfl (by omega) (by decide) d_S_total_100 ?_
          refine zr_pS hX (c_S_valueOf g (d - 1) _ (fa (1024 * q + 32 * (tp + j) + (lf + i)))) l_S_142 st_S_valueOf f_S_valueOf rfl (Nat.le_of_ble_eq_true rfl) (by omega) (Nat.zero_le _) (Nat.zero_le _) d_S_total_101 ?_
          refine zs_istore hX (by decide) rfl d_S_total_104 ?_
          refine zr_iload hX rfl d_S_total_106 ?_
          refine zr_ldc hX q99 d_S_total_108 ?_
          refine zr_icmp_eq hX (tgt := 151) d_S_total_110 (by decide) (fun h110 => ?_) (fun h110 => ?_)
          · skip
            refine zs_iinc (v := nI ((lf + i) + 1)) hX rfl (nI_add _ 1) (by decide) rfl d_S_total_151 ?_
            refine zr_goto hX (tgt := 76) (by decide) d_S_total_154 ?_
            refine zw_drop 11 ?_
            exact ih_t hlt_t r (by rw [zfor_s, ← ht, ztot, ← (hr1.val hR.iv hp (by omega))]; unfold ztS; rw [if_pos h110])
          · skip
            refine zr_iload hX rfl d_S_total_113 ?_
            refine zr_if_ne hX (tgt := 123) d_S_total_115 (by decide) (fun h115 => ?_) (fun h115 => ?_)
            · skip
              refine zr_iload hX rfl d_S_total_123 ?_
              refine zr_iload hX rfl d_S_total_125 ?_
              refine zr_mmin hX q504 q505 q12 q506 (Nat.le_of_ble_eq_true rfl) (by omega) d_S_total_127 ?_
              refine zs_istore hX (by decide) rfl d_S_total_130 ?_
              refine zr_iload hX rfl d_S_total_132 ?_
              refine zr_iload hX rfl d_S_total_134 ?_
              refine zr_mmax hX q507 q508 q12 q509 (Nat.le_of_ble_eq_true rfl) (by omega) d_S_total_136 ?_
              refine zs_istore hX (by decide) rfl d_S_total_139 ?_
              refine zr_iload hX rfl d_S_total_141 ?_
              refine zr_iload hX rfl d_S_total_143 ?_
              refine zr_iadd hX d_S_total_145 ?_
              refine zs_istore hX (by decide) rfl d_S_total_146 ?_
              refine zs_iinc hX rfl rfl (by decide) rfl d_S_total_148 ?_
              refine zs_iinc (v := nI ((lf + i) + 1)) hX rfl (nI_add _ 1) (by decide) rfl d_S_total_151 ?_
              refine zr_goto hX (tgt := 76) (by decide) d_S_total_154 ?_
              refine zw_drop 11 ?_
              exact ih_t hlt_t (_, _, _, _) (by rw [zfor_s, ← ht, ztot, ← (hr1.val hR.iv hp (by omega))]; unfold ztS; rw [if_neg h110, if_neg h115]; rfl)
            · skip
              refine zr_iload hX rfl d_S_total_118 ?_
              refine zr_goto hX (tgt := 130) (by decide) d_S_total_120 ?_
              refine zs_istore hX (by decide) rfl d_S_total_130 ?_
              refine zr_iload hX rfl d_S_total_132 ?_
              refine zr_iload hX rfl d_S_total_134 ?_
              refine zr_mmax hX q507 q508 q12 q509 (Nat.le_of_ble_eq_true rfl) (by omega) d_S_total_136 ?_
              refine zs_istore hX (by decide) rfl d_S_total_139 ?_
              refine zr_iload hX rfl d_S_total_141 ?_
              refine zr_iload hX rfl d_S_total_143 ?_
              refine zr_iadd hX d_S_total_145 ?_
              refine zs_istore hX (by decide) rfl d_S_total_146 ?_
              refine zs_iinc hX rfl rfl (by decide) rfl d_S_total_148 ?_
              refine zs_iinc (v := nI ((lf + i) + 1)) hX rfl (nI_add _ 1) (by decide) rfl d_S_total_151 ?_
              refine zr_goto hX (tgt := 76) (by decide) d_S_total_154 ?_
              refine zw_drop 11 ?_
              exact ih_t hlt_t (_, _, _, _) (by rw [zfor_s, ← ht, ztot, ← (hr1.val hR.iv hp (by omega))]; unfold ztS; rw [if_neg h110, if_pos h115]; rfl)
        · skip
          have ej_t : wd = i := by omega
          subst ej_t
          refine zr_iload hX rfl d_S_total_76 ?_
          refine zr_aload_n hX rfl d_S_total_78 ?_
          refine zr_get hX k_S 4 (by decide) q107 rfl hH.x (zsf4 a4) d_S_total_79 ?_
          refine zr_aload_n hX rfl d_S_total_82 ?_
          refine zr_get hX k_S 6 (by decide) q109 rfl hH.x (zsf6 a6) d_S_total_83 ?_
          refine zn_iadd (a := lf) (b := wd) hX d_S_total_86 ?_
          refine zr_icmp_ge hX (tgt := 157) d_S_total_87 (by decide) (fun _ => ?_) (fun h9 => absurd h9 (zq_leT (a := (lf + wd)) (b := (lf + wd)) (by omega) (by omega)))
          refine zs_iinc (v := nI ((tp + j) + 1)) hX rfl (nI_add _ 1) (by decide) rfl d_S_total_157 ?_
          refine zr_goto hX (tgt := 56) (by decide) d_S_total_160 ?_
          refine zw_drop 10 ?_
          exact ih_s hlt_s r (by rw [zfor_s, ht, hs]; rfl)
      exact L76 0 (Nat.zero_le _) s rfl
    · skip
      have ej_s : hg = j := by omega
      subst ej_s
      refine zr_iload hX rfl d_S_total_56 ?_
      refine zr_aload_n hX rfl d_S_total_58 ?_
      refine zr_get hX k_S 5 (by decide) q108 rfl hH.x (zsf5 a5) d_S_total_59 ?_
      refine zr_aload_n hX rfl d_S_total_62 ?_
      refine zr_get hX k_S 7 (by decide) q110 rfl hH.x (zsf7 a7) d_S_total_63 ?_
      refine zn_iadd (a := tp) (b := hg) hX d_S_total_66 ?_
      refine zr_icmp_ge hX (tgt := 163) d_S_total_67 (by decide) (fun _ => ?_) (fun h9 => absurd h9 (zq_leT (a := (tp + hg)) (b := (tp + hg)) (by omega) (by omega)))
      refine zr_iload_n hX rfl d_S_total_163 ?_
      by_cases h164_0 : e = 0
      · skip
        refine zr_tabN hX (tgt := 192) d_S_total_164 0 h164_0 (by decide) (by decide) rfl (by decide) ?_
        refine zr_iload hX rfl d_S_total_192 ?_
        exact zr_iret hX d_S_total_194 ⟨by unfold s_M_total; rw [if_pos h164_0, hs], rfl⟩
      · skip
        by_cases h164_1 : e = 1
        · skip
          refine zr_tabN hX (tgt := 195) d_S_total_164 1 h164_1 (by decide) (by decide) rfl (by decide) ?_
          refine zr_iload hX rfl d_S_total_195 ?_
          exact zr_iret hX d_S_total_197 ⟨by unfold s_M_total; rw [if_neg h164_0, if_pos h164_1, hs], rfl⟩
        · skip
          by_cases h164_2 : e = 2
          · skip
            refine zr_tabN hX (tgt := 198) d_S_total_164 2 h164_2 (by decide) (by decide) rfl (by decide) ?_
            refine zr_iload hX rfl d_S_total_198 ?_
            exact zr_iret hX d_S_total_200 ⟨by unfold s_M_total; rw [if_neg h164_0, if_neg h164_1, if_pos h164_2, hs], rfl⟩
          · skip
            refine zr_tabD hX (tgt := 201) (z := 2) d_S_total_164 rfl (zsw2 h164_0 h164_1 h164_2) (by decide) ?_
            refine zr_iload hX rfl d_S_total_201 ?_
            exact zr_iret hX d_S_total_203 ⟨by unfold s_M_total; rw [if_neg h164_0, if_neg h164_1, if_neg h164_2, hs], rfl⟩
  exact L56 0 (Nat.zero_le _) (0, 0, (-2147483648), (-2147483648)) rfl
theorem c_S_drop_bad (g : zGt) (d : Nat) (hdd : 1 ≤ d) (G : zG) (w : zW) (u : zU) (cm : Nat) (hH : zHp w G) (hR : zRl w u cm) (p : Int32)  (h0 : s_M_isBranch u p = 0) : zMet g y_S_drop b_S_drop 3 (some .boolean) [] d 0 0 [.ref (w.a 0 0), .int p] G (zD1 (.int 0) G) := by
  refine zMet.of (by decide) (Nat.le_of_ble_eq_true rfl) rfl (fun X hX => ?_)
  refine zr_aload_n hX rfl d_S_drop_0 ?_
  refine zr_iload_n hX rfl d_S_drop_1 ?_
  refine zr_pV hX (c_S_branchAt_0 g (d - 1) _ w u cm hH hR p h0) l_S_84 im_S_branchAt se_S_branchAt f_S_branchAt k_S.1 hH.x rfl (Nat.le_of_ble_eq_true rfl) (by omega) (Nat.zero_le _) (Nat.zero_le _) d_S_drop_2 ?_
  refine zs_astore_nN hX (by decide) rfl d_S_drop_5 ?_
  refine zr_aload_nN hX rfl d_S_drop_6 ?_
  refine zr_ifnonnullN hX d_S_drop_7 ?_
  refine zr_iconst (v := 0) hX rfl d_S_drop_10 ?_
  exact zr_zret hX rfl d_S_drop_11 ⟨rfl, rfl⟩
theorem c_S_drop_ok (g : zGt) (d : Nat) (hdd : 1 ≤ d) (G : zG) (w : zW) (u : zU) (cm : Nat) (hH : zHp w G) (hR : zRl w u cm) (p qb : Nat) (hq3 : w.o 3 p = some qb) (hz : zbra (zWv w) (nI p) = some qb)   : zMet g y_S_drop b_S_drop 3 (some .boolean) [] d 0 0 [.ref (w.a 0 0), .int (nI p)] G (zD1 (.int 1) (zput G qb (zO 2 [.ref (w.a 4 p), .int 0, .int (w.i 5 p), .int (w.i 6 p), va_rf (w.o 5 p)]))) := by
  refine zMet.of (by decide) (Nat.le_of_ble_eq_true rfl) rfl (fun X hX => ?_)
  refine zr_aload_n hX rfl d_S_drop_0 ?_
  refine zr_iload_n hX rfl d_S_drop_1 ?_
  refine zr_pV hX (c_S_branchAt_1 g (d - 1) _ w hH (nI p) qb hz) l_S_84 im_S_branchAt se_S_branchAt f_S_branchAt k_S.1 hH.x rfl (Nat.le_of_ble_eq_true rfl) (by omega) (Nat.zero_le _) (Nat.zero_le _) d_S_drop_2 ?_
  refine zs_astore_n hX (by decide) rfl d_S_drop_5 ?_
  refine zr_aload_n hX rfl d_S_drop_6 ?_
  refine zr_ifnonnull hX (tgt := 12) (by decide) d_S_drop_7 ?_
  refine zr_aload_n hX rfl d_S_drop_12 ?_
  refine zr_iconst (v := 0) hX rfl d_S_drop_13 ?_
  refine zr_put hX k_B 1 (by decide) q66 rfl rfl rfl rfl (Nat.le_of_ble_eq_true rfl) (hH.bm hq3) d_S_drop_14 ?_
  refine zr_iconst (v := 1) hX rfl d_S_drop_17 ?_
  exact zr_zret hX rfl d_S_drop_18 ⟨rfl, rfl⟩
