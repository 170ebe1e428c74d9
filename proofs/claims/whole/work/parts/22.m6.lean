theorem c_M_differing_bad (g : zGt) (d : Nat) (hd : 2 ≤ d) (G : zG) (u : zU) (m : Nat) (h : zMv u m G) (p : Int32) (q : Int32) (l : Int32) (hbad : s_M_isPlace u p = 0 ∨ s_M_isPlace u q = 0 ∨ s_M_isLayer l = 0) : zMet g y_M_differing b_M_differing 6 (some .int) [] d 0 0 [.ref m, .int p, .int q, .int l] G (zMq (some (.int (-1))) (zuc u 0 0) u m G) := by
  refine zMet.of (by decide) (Nat.le_of_ble_eq_true rfl) rfl (fun X hX => ?_)
  refine zr_aload_n hX rfl d_M_differing_0 ?_
  refine zr_iconst (v := 0) hX rfl d_M_differing_1 ?_
  refine zr_put hX k_M 0 (by decide) q653 rfl rfl rfl rfl (Nat.le_of_ble_eq_true rfl) h.m d_M_differing_2 ?_
  refine zr_aload_n hX rfl d_M_differing_5 ?_
  refine zr_iload_n hX rfl d_M_differing_6 ?_
  refine zr_pV hX (c_M_isPlace g (d - 1) (by omega) _ (zuc u 0 0) m (zMv.put h (upd u.2.1 0 0)) p) l_M_172 im_M_isPlace se_M_isPlace f_M_isPlace k_M.1 (zput_s _ _ _) rfl (Nat.le_of_ble_eq_true rfl) (by omega) (Nat.zero_le _) (Nat.zero_le _) d_M_differing_7 ?_
  refine zr_if_eq hX (tgt := 28) d_M_differing_10 (by decide) (fun h10 => ?_) (fun h10 => ?_)
  · skip
    refine zr_iconst (v := (-1)) hX rfl d_M_differing_28 ?_
    exact zr_iret hX d_M_differing_29 ⟨rfl, (zMv.put h (upd u.2.1 0 0)), (zMf.obj zMf.rf _), rfl⟩
  · skip
    refine zr_aload_n hX rfl d_M_differing_13 ?_
    refine zr_iload_n hX rfl d_M_differing_14 ?_
    refine zr_pV hX (c_M_isPlace g (d - 1) (by omega) _ (zuc u 0 0) m (zMv.put h (upd u.2.1 0 0)) q) l_M_172 im_M_isPlace se_M_isPlace f_M_isPlace k_M.1 (zput_s _ _ _) rfl (Nat.le_of_ble_eq_true rfl) (by omega) (Nat.zero_le _) (Nat.zero_le _) d_M_differing_15 ?_
    refine zr_if_eq hX (tgt := 28) d_M_differing_18 (by decide) (fun h18 => ?_) (fun h18 => ?_)
    · skip
      refine zr_iconst (v := (-1)) hX rfl d_M_differing_28 ?_
      exact zr_iret hX d_M_differing_29 ⟨rfl, (zMv.put h (upd u.2.1 0 0)), (zMf.obj zMf.rf _), rfl⟩
    · skip
      refine zr_iload_n hX rfl d_M_differing_21 ?_
      refine zr_pS hX (c_M_isLayer g (d - 1) _ l) l_M_102 st_M_isLayer f_M_isLayer rfl (Nat.le_of_ble_eq_true rfl) (by omega) (Nat.zero_le _) (Nat.zero_le _) d_M_differing_22 ?_
      refine zr_if_ne hX (tgt := 30) d_M_differing_25 (by decide) (fun h25 => ?_) (fun h25 => ?_)
      · skip
        exact False.elim ((fun z => z.elim h10 (fun z => z.elim h18 h25)) hbad)
      · skip
        refine zr_iconst (v := (-1)) hX rfl d_M_differing_28 ?_
        exact zr_iret hX d_M_differing_29 ⟨rfl, (zMv.put h (upd u.2.1 0 0)), (zMf.obj zMf.rf _), rfl⟩
def st_M_differing (u : zU) (p q l : Nat) (j : Nat) (s : Int32) : Int32 := if (((zuc u 0 0).ar 1) ((4096 * p) + (1024 * l + j))) = (((zuc u 0 0).ar 1) ((4096 * q) + (1024 * l + j))) then (s + 0) else (s + 1)
def s_M_differing (u : zU) (p : Nat) (q : Nat) (l : Nat) : Int32 := (zfor 1024 (st_M_differing u p q l) 0)
theorem c_M_differing_ok (g : zGt) (d : Nat) (hd : 2 ≤ d) (G : zG) (u : zU) (m : Nat) (h : zMv u m G) (p : Nat) (q : Nat) (l : Nat) (hp : p < 28) (hq : q < 28) (hl : l < 4) (ho0 : ¬ (s_M_isPlace u (nI p) = 0)) (ho1 : ¬ (s_M_isPlace u (nI q) = 0)) (ho2 : ¬ (s_M_isLayer (nI l) = 0)) : zMet g y_M_differing b_M_differing 6 (some .int) [] d 0 0 [.ref m, .int (nI p), .int (nI q), .int (nI l)] G (zMq (some (.int (s_M_differing u p q l))) (zuc u 0 0) u m G) := by
  refine zMet.of (by decide) (Nat.le_of_ble_eq_true rfl) rfl (fun X hX => ?_)
  refine zr_aload_n hX rfl d_M_differing_0 ?_
  refine zr_iconst (v := 0) hX rfl d_M_differing_1 ?_
  refine zr_put hX k_M 0 (by decide) q653 rfl rfl rfl rfl (Nat.le_of_ble_eq_true rfl) h.m d_M_differing_2 ?_
  refine zr_aload_n hX rfl d_M_differing_5 ?_
  refine zr_iload_n hX rfl d_M_differing_6 ?_
  refine zr_pV hX (c_M_isPlace g (d - 1) (by omega) _ (zuc u 0 0) m (zMv.put h (upd u.2.1 0 0)) (nI p)) l_M_172 im_M_isPlace se_M_isPlace f_M_isPlace k_M.1 (zput_s _ _ _) rfl (Nat.le_of_ble_eq_true rfl) (by omega) (Nat.zero_le _) (Nat.zero_le _) d_M_differing_7 ?_
  refine zr_if_eq hX (tgt := 28) d_M_differing_10 (by decide) (fun h9 => absurd h9 ho0) (fun _ => ?_)
  refine zr_aload_n hX rfl d_M_differing_13 ?_
  refine zr_iload_n hX rfl d_M_differing_14 ?_
  refine zr_pV hX (c_M_isPlace g (d - 1) (by omega) _ (zuc u 0 0) m (zMv.put h (upd u.2.1 0 0)) (nI q)) l_M_172 im_M_isPlace se_M_isPlace f_M_isPlace k_M.1 (zput_s _ _ _) rfl (Nat.le_of_ble_eq_true rfl) (by omega) (Nat.zero_le _) (Nat.zero_le _) d_M_differing_15 ?_
  refine zr_if_eq hX (tgt := 28) d_M_differing_18 (by decide) (fun h9 => absurd h9 ho1) (fun _ => ?_)
  refine zr_iload_n hX rfl d_M_differing_21 ?_
  refine zr_pS hX (c_M_isLayer g (d - 1) _ (nI l)) l_M_102 st_M_isLayer f_M_isLayer rfl (Nat.le_of_ble_eq_true rfl) (by omega) (Nat.zero_le _) (Nat.zero_le _) d_M_differing_22 ?_
  refine zr_if_ne hX (tgt := 30) d_M_differing_25 (by decide) (fun _ => ?_) (fun h9 => absurd h9 ho2)
  refine zr_iconst (v := 0) hX rfl d_M_differing_30 ?_
  refine zs_istore hX (by decide) rfl d_M_differing_31 ?_
  refine zr_sipush (v := 1024) hX rfl d_M_differing_33 ?_
  refine zr_iload_n hX rfl d_M_differing_36 ?_
  refine zn_imul (a := 1024) (b := l) hX d_M_differing_37 ?_
  refine zs_istore hX (by decide) rfl d_M_differing_38 ?_
  have L40 : ∀ j, j ≤ 1024 → ∀ (s : Int32) (G_s : zG), s = zfor j (st_M_differing u p q l) 0 → zMv (zuc u 0 0) m G_s → zMf u m G G_s → zw g X (zMq (some (.int (s_M_differing u p q l))) (zuc u 0 0) u m G) 40 [some (.ref m), some (.int (nI p)), some (.int (nI q)), some (.int (nI l)), some (.int s), some (.int (nI (1024 * l + j)))] [] G_s 0 0 := by
    refine zup 1024 (fun j hj_s ih_s => ?_)
    intro s G_s hs_s hk_s fk_s
    by_cases hlt_s : j < 1024
    · skip
      refine zr_iload hX rfl d_M_differing_40 ?_
      refine zr_sipush (v := 1024) hX rfl d_M_differing_42 ?_
      refine zr_iload_n hX rfl d_M_differing_45 ?_
      refine zn_imul (a := 1024) (b := l) hX d_M_differing_46 ?_
      refine zr_sipush (v := 1024) hX rfl d_M_differing_47 ?_
      refine zn_iadd (a := (1024 * l)) (b := 1024) hX d_M_differing_50 ?_
      refine zr_icmp_ge hX (tgt := 99) d_M_differing_51 (by decide) (fun h9 => absurd h9 (nI_ge (a := (1024 * l + j)) (b := ((1024 * l) + 1024)) (by omega) (by omega))) (fun _ => ?_)
      refine zr_iload hX rfl d_M_differing_54 ?_
      refine zr_aload_n hX rfl d_M_differing_56 ?_
      refine zr_get hX k_M 1 (by decide) q654 rfl hk_s.m rfl d_M_differing_57 ?_
      refine zr_sipush (v := 4096) hX rfl d_M_differing_60 ?_
      refine zr_iload_n hX rfl d_M_differing_63 ?_
      refine zn_imul (a := 4096) (b := p) hX d_M_differing_64 ?_
      refine zr_iload hX rfl d_M_differing_65 ?_
      refine zn_iadd (a := (4096 * p)) (b := (1024 * l + j)) hX d_M_differing_67 ?_
      refine zr_ialdN hX (hk_s.ar 1 rfl) ((4096 * p) + (1024 * l + j)) rfl (by omega) (by decide) d_M_differing_68 ?_
      refine zr_aload_n hX rfl d_M_differing_69 ?_
      refine zr_get hX k_M 1 (by decide) q654 rfl hk_s.m rfl d_M_differing_70 ?_
      refine zr_sipush (v := 4096) hX rfl d_M_differing_73 ?_
      refine zr_iload_n hX rfl d_M_differing_76 ?_
      refine zn_imul (a := 4096) (b := q) hX d_M_differing_77 ?_
      refine zr_iload hX rfl d_M_differing_78 ?_
      refine zn_iadd (a := (4096 * q)) (b := (1024 * l + j)) hX d_M_differing_80 ?_
      refine zr_ialdN hX (hk_s.ar 1 rfl) ((4096 * q) + (1024 * l + j)) rfl (by omega) (by decide) d_M_differing_81 ?_
      refine zr_icmp_eq hX (tgt := 89) d_M_differing_82 (by decide) (fun h82 => ?_) (fun h82 => ?_)
      · skip
        refine zr_iconst (v := 0) hX rfl d_M_differing_89 ?_
        refine zr_iadd hX d_M_differing_90 ?_
        refine zs_istore hX (by decide) rfl d_M_differing_91 ?_
        refine zs_iinc (v := nI ((1024 * l + j) + 1)) hX rfl (nI_add _ 1) (by decide) rfl d_M_differing_93 ?_
        refine zr_goto hX (tgt := 40) (by decide) d_M_differing_96 ?_
        exact ih_s hlt_s (s + 0) _ (by rw [zfor_s, ← hs_s]; unfold st_M_differing; rw [if_pos h82]) hk_s fk_s
      · skip
        refine zr_iconst (v := 1) hX rfl d_M_differing_85 ?_
        refine zr_goto hX (tgt := 90) (by decide) d_M_differing_86 ?_
        refine zr_iadd hX d_M_differing_90 ?_
        refine zs_istore hX (by decide) rfl d_M_differing_91 ?_
        refine zs_iinc (v := nI ((1024 * l + j) + 1)) hX rfl (nI_add _ 1) (by decide) rfl d_M_differing_93 ?_
        refine zr_goto hX (tgt := 40) (by decide) d_M_differing_96 ?_
        exact ih_s hlt_s (s + 1) _ (by rw [zfor_s, ← hs_s]; unfold st_M_differing; rw [if_neg h82]) hk_s fk_s
    · skip
      have ej_s : j = 1024 := by omega
      rw [ej_s] at hs_s
      refine zr_iload hX rfl d_M_differing_40 ?_
      refine zr_sipush (v := 1024) hX rfl d_M_differing_42 ?_
      refine zr_iload_n hX rfl d_M_differing_45 ?_
      refine zn_imul (a := 1024) (b := l) hX d_M_differing_46 ?_
      refine zr_sipush (v := 1024) hX rfl d_M_differing_47 ?_
      refine zn_iadd (a := (1024 * l)) (b := 1024) hX d_M_differing_50 ?_
      refine zr_icmp_ge hX (tgt := 99) d_M_differing_51 (by decide) (fun _ => ?_) (fun h9 => absurd h9 (zq_leT (a := ((1024 * l) + 1024)) (b := (1024 * l + j)) (by omega) (by omega)))
      refine zr_iload hX rfl d_M_differing_99 ?_
      exact zr_iret hX d_M_differing_101 ⟨(by unfold s_M_differing; rw [← hs_s]), hk_s, fk_s, rfl⟩
  exact L40 0 (Nat.zero_le _) _ _ rfl (zMv.put h (upd u.2.1 0 0)) (zMf.obj zMf.rf _)
theorem c_M_differs_bad (g : zGt) (d : Nat) (hd : 2 ≤ d) (G : zG) (u : zU) (m : Nat) (h : zMv u m G) (p : Int32) (q : Int32) (l : Int32) (e : Int32) (hbad : s_M_isPlace u p = 0 ∨ s_M_isPlace u q = 0 ∨ s_M_isLayer l = 0 ∨ ¬ 0 ≤ e) : zMet g y_M_differs b_M_differs 7 (some .int) [] d 0 0 [.ref m, .int p, .int q, .int l, .int e] G (zMq (some (.int (-1))) (zuc u 0 0) u m G) := by
  refine zMet.of (by decide) (Nat.le_of_ble_eq_true rfl) rfl (fun X hX => ?_)
  refine zr_aload_n hX rfl d_M_differs_0 ?_
  refine zr_iconst (v := 0) hX rfl d_M_differs_1 ?_
  refine zr_put hX k_M 0 (by decide) q653 rfl rfl rfl rfl (Nat.le_of_ble_eq_true rfl) h.m d_M_differs_2 ?_
  refine zr_aload_n hX rfl d_M_differs_5 ?_
  refine zr_iload_n hX rfl d_M_differs_6 ?_
  refine zr_pV hX (c_M_isPlace g (d - 1) (by omega) _ (zuc u 0 0) m (zMv.put h (upd u.2.1 0 0)) p) l_M_172 im_M_isPlace se_M_isPlace f_M_isPlace k_M.1 (zput_s _ _ _) rfl (Nat.le_of_ble_eq_true rfl) (by omega) (Nat.zero_le _) (Nat.zero_le _) d_M_differs_7 ?_
  refine zr_if_eq hX (tgt := 33) d_M_differs_10 (by decide) (fun h10 => ?_) (fun h10 => ?_)
  · skip
    refine zr_iconst (v := (-1)) hX rfl d_M_differs_33 ?_
    exact zr_iret hX d_M_differs_34 ⟨rfl, (zMv.put h (upd u.2.1 0 0)), (zMf.obj zMf.rf _), rfl⟩
  · skip
    refine zr_aload_n hX rfl d_M_differs_13 ?_
    refine zr_iload_n hX rfl d_M_differs_14 ?_
    refine zr_pV hX (c_M_isPlace g (d - 1) (by omega) _ (zuc u 0 0) m (zMv.put h (upd u.2.1 0 0)) q) l_M_172 im_M_isPlace se_M_isPlace f_M_isPlace k_M.1 (zput_s _ _ _) rfl (Nat.le_of_ble_eq_true rfl) (by omega) (Nat.zero_le _) (Nat.zero_le _) d_M_differs_15 ?_
    refine zr_if_eq hX (tgt := 33) d_M_differs_18 (by decide) (fun h18 => ?_) (fun h18 => ?_)
    · skip
      refine zr_iconst (v := (-1)) hX rfl d_M_differs_33 ?_
      exact zr_iret hX d_M_differs_34 ⟨rfl, (zMv.put h (upd u.2.1 0 0)), (zMf.obj zMf.rf _), rfl⟩
    · skip
      refine zr_iload_n hX rfl d_M_differs_21 ?_
      refine zr_pS hX (c_M_isLayer g (d - 1) _ l) l_M_102 st_M_isLayer f_M_isLayer rfl (Nat.le_of_ble_eq_true rfl) (by omega) (Nat.zero_le _) (Nat.zero_le _) d_M_differs_22 ?_
      refine zr_if_eq hX (tgt := 33) d_M_differs_25 (by decide) (fun h25 => ?_) (fun h25 => ?_)
      · skip
        refine zr_iconst (v := (-1)) hX rfl d_M_differs_33 ?_
        exact zr_iret hX d_M_differs_34 ⟨rfl, (zMv.put h (upd u.2.1 0 0)), (zMf.obj zMf.rf _), rfl⟩
      · skip
        refine zr_iload hX rfl d_M_differs_28 ?_
        refine zr_if_ge hX (tgt := 35) d_M_differs_30 (by decide) (fun h30 => ?_) (fun h30 => ?_)
        · skip
          exact False.elim ((fun z => z.elim h10 (fun z => z.elim h18 (fun z => z.elim h25 (fun z => z h30)))) hbad)
        · skip
          refine zr_iconst (v := (-1)) hX rfl d_M_differs_33 ?_
          exact zr_iret hX d_M_differs_34 ⟨rfl, (zMv.put h (upd u.2.1 0 0)), (zMf.obj zMf.rf _), rfl⟩
def st_M_differs (u : zU) (p q l : Nat) (e : Int32) (j : Nat) (s : Int32) : (Int32) ⊕ Int32 := if (((zuc u 0 0).ar 1) (((4096 * p) + (1024 * l)) + j)) = (((zuc u 0 0).ar 1) (((4096 * q) + (1024 * l)) + j)) then if s = e then .inr (nI j) else .inl s else if (s + Int32.ofInt 1) = e then .inr (nI j) else .inl (s + Int32.ofInt 1)
def s_M_differs (u : zU) (p : Nat) (q : Nat) (l : Nat) (e : Int32) : Int32 := zsel (zfor 1024 (zstp (st_M_differs u p q l e)) (.inl (-1))) (fun s => (-1))
theorem c_M_differs_ok (g : zGt) (d : Nat) (hd : 2 ≤ d) (G : zG) (u : zU) (m : Nat) (h : zMv u m G) (p : Nat) (q : Nat) (l : Nat) (e : Int32) (hp : p < 28) (hq : q < 28) (hl : l < 4) (ho0 : ¬ (s_M_isPlace u (nI p) = 0)) (ho1 : ¬ (s_M_isPlace u (nI q) = 0)) (ho2 : ¬ (s_M_isLayer (nI l) = 0)) (ho3 : ¬ ¬ 0 ≤ e) : zMet g y_M_differs b_M_differs 7 (some .int) [] d 0 0 [.ref m, .int (nI p), .int (nI q), .int (nI l), .int e] G (zMq (some (.int (s_M_differs u p q l e))) (zuc u 0 0) u m G) := by
  refine zMet.of (by decide) (Nat.le_of_ble_eq_true rfl) rfl (fun X hX => ?_)
  refine zr_aload_n hX rfl d_M_differs_0 ?_
  refine zr_iconst (v := 0) hX rfl d_M_differs_1 ?_
  refine zr_put hX k_M 0 (by decide) q653 rfl rfl rfl rfl (Nat.le_of_ble_eq_true rfl) h.m d_M_differs_2 ?_
  refine zr_aload_n hX rfl d_M_differs_5 ?_
  refine zr_iload_n hX rfl d_M_differs_6 ?_
  refine zr_pV hX (c_M_isPlace g (d - 1) (by omega) _ (zuc u 0 0) m (zMv.put h (upd u.2.1 0 0)) (nI p)) l_M_172 im_M_isPlace se_M_isPlace f_M_isPlace k_M.1 (zput_s _ _ _) rfl (Nat.le_of_ble_eq_true rfl) (by omega) (Nat.zero_le _) (Nat.zero_le _) d_M_differs_7 ?_
  refine zr_if_eq hX (tgt := 33) d_M_differs_10 (by decide) (fun h9 => absurd h9 ho0) (fun _ => ?_)
  refine zr_aload_n hX rfl d_M_differs_13 ?_
  refine zr_iload_n hX rfl d_M_differs_14 ?_
  refine zr_pV hX (c_M_isPlace g (d - 1) (by omega) _ (zuc u 0 0) m (zMv.put h (upd u.2.1 0 0)) (nI q)) l_M_172 im_M_isPlace se_M_isPlace f_M_isPlace k_M.1 (zput_s _ _ _) rfl (Nat.le_of_ble_eq_true rfl) (by omega) (Nat.zero_le _) (Nat.zero_le _) d_M_differs_15 ?_
  refine zr_if_eq hX (tgt := 33) d_M_differs_18 (by decide) (fun h9 => absurd h9 ho1) (fun _ => ?_)
  refine zr_iload_n hX rfl d_M_differs_21 ?_
  refine zr_pS hX (c_M_isLayer g (d - 1) _ (nI l)) l_M_102 st_M_isLayer f_M_isLayer rfl (Nat.le_of_ble_eq_true rfl) (by omega) (Nat.zero_le _) (Nat.zero_le _) d_M_differs_22 ?_
  refine zr_if_eq hX (tgt := 33) d_M_differs_25 (by decide) (fun h9 => absurd h9 ho2) (fun _ => ?_)
  refine zr_iload hX rfl d_M_differs_28 ?_
  refine zr_if_ge hX (tgt := 35) d_M_differs_30 (by decide) (fun _ => ?_) (fun h9 => absurd h9 ho3)
  refine zr_iconst (v := (-1)) hX rfl d_M_differs_35 ?_
  refine zs_istore hX (by decide) rfl d_M_differs_36 ?_
  refine zr_iconst (v := 0) hX rfl d_M_differs_38 ?_
  refine zs_istore hX (by decide) rfl d_M_differs_39 ?_
  have L41 : ∀ j, j ≤ 1024 → ∀ (s : Int32) (G_s : zG), (.inl s : (Int32) ⊕ Int32) = zfor j (zstp (st_M_differs u p q l e)) (.inl (-1)) → zMv (zuc u 0 0) m G_s → zMf u m G G_s → zw g X (zMq (some (.int (s_M_differs u p q l e))) (zuc u 0 0) u m G) 41 [some (.ref m), some (.int (nI p)), some (.int (nI q)), some (.int (nI l)), some (.int e), some (.int s), some (.int (nI j))] [] G_s 0 0 := by
    refine zup 1024 (fun j hj_s ih_s => ?_)
    intro s G_s hs_s hk_s fk_s
    by_cases hlt_s : j < 1024
    · skip
      refine zr_iload hX rfl d_M_differs_41 ?_
      refine zr_sipush (v := 1024) hX rfl d_M_differs_43 ?_
      refine zr_icmp_ge hX (tgt := 109) d_M_differs_46 (by decide) (fun h9 => absurd h9 (nI_ge (a := j) (b := 1024) (by omega) (by decide))) (fun _ => ?_)
      refine zr_aload_n hX rfl d_M_differs_49 ?_
      refine zr_get hX k_M 1 (by decide) q654 rfl hk_s.m rfl d_M_differs_50 ?_
      refine zr_sipush (v := 4096) hX rfl d_M_differs_53 ?_
      refine zr_iload_n hX rfl d_M_differs_56 ?_
      refine zn_imul (a := 4096) (b := p) hX d_M_differs_57 ?_
      refine zr_sipush (v := 1024) hX rfl d_M_differs_58 ?_
      refine zr_iload_n hX rfl d_M_differs_61 ?_
      refine zn_imul (a := 1024) (b := l) hX d_M_differs_62 ?_
      refine zn_iadd (a := (4096 * p)) (b := (1024 * l)) hX d_M_differs_63 ?_
      refine zr_iload hX rfl d_M_differs_64 ?_
      refine zn_iadd (a := ((4096 * p) + (1024 * l))) (b := j) hX d_M_differs_66 ?_
      refine zr_ialdN hX (hk_s.ar 1 rfl) (((4096 * p) + (1024 * l)) + j) rfl (by omega) (by decide) d_M_differs_67 ?_
      refine zr_aload_n hX rfl d_M_differs_68 ?_
      refine zr_get hX k_M 1 (by decide) q654 rfl hk_s.m rfl d_M_differs_69 ?_
      refine zr_sipush (v := 4096) hX rfl d_M_differs_72 ?_
      refine zr_iload_n hX rfl d_M_differs_75 ?_
      refine zn_imul (a := 4096) (b := q) hX d_M_differs_76 ?_
      refine zr_sipush (v := 1024) hX rfl d_M_differs_77 ?_
      refine zr_iload_n hX rfl d_M_differs_80 ?_
      refine zn_imul (a := 1024) (b := l) hX d_M_differs_81 ?_
      refine zn_iadd (a := (4096 * q)) (b := (1024 * l)) hX d_M_differs_82 ?_
      refine zr_iload hX rfl d_M_differs_83 ?_
      refine zn_iadd (a := ((4096 * q) + (1024 * l))) (b := j) hX d_M_differs_85 ?_
      refine zr_ialdN hX (hk_s.ar 1 rfl) (((4096 * q) + (1024 * l)) + j) rfl (by omega) (by decide) d_M_differs_86 ?_
      refine zr_icmp_eq hX (tgt := 93) d_M_differs_87 (by decide) (fun h87 => ?_) (fun h87 => ?_)
      · skip
        refine zr_iload hX rfl d_M_differs_93 ?_
        refine zr_iload hX rfl d_M_differs_95 ?_
        refine zr_icmp_ne hX (tgt := 103) d_M_differs_97 (by decide) (fun h97 => ?_) (fun h97 => ?_)
        · skip
          refine zs_iinc (v := nI (j + 1)) hX rfl (nI_add _ 1) (by decide) rfl d_M_differs_103 ?_
          refine zr_goto hX (tgt := 41) (by decide) d_M_differs_106 ?_
          exact ih_s hlt_s s _ (zstp_s hs_s (by unfold st_M_differs; rw [if_pos h87]; rw [if_neg h97])) hk_s fk_s
        · skip
          refine zr_iload hX rfl d_M_differs_100 ?_
          have hs9 := zstp_r (Nat.succ_le_of_lt hlt_s) (zstp_s (t := .inr (nI j)) hs_s (by unfold st_M_differs; rw [if_pos h87]; rw [if_pos h97]))
          exact zr_iret hX d_M_differs_102 ⟨(by unfold s_M_differs; rw [hs9]; rfl), hk_s, fk_s, rfl⟩
      · skip
        refine zs_iinc hX rfl rfl (by decide) rfl d_M_differs_90 ?_
        refine zr_iload hX rfl d_M_differs_93 ?_
        refine zr_iload hX rfl d_M_differs_95 ?_
        refine zr_icmp_ne hX (tgt := 103) d_M_differs_97 (by decide) (fun h97 => ?_) (fun h97 => ?_)
        · skip
          refine zs_iinc (v := nI (j + 1)) hX rfl (nI_add _ 1) (by decide) rfl d_M_differs_103 ?_
          refine zr_goto hX (tgt := 41) (by decide) d_M_differs_106 ?_
          exact ih_s hlt_s (s + Int32.ofInt 1) _ (zstp_s hs_s (by unfold st_M_differs; rw [if_neg h87]; rw [if_neg h97])) hk_s fk_s
        · skip
          refine zr_iload hX rfl d_M_differs_100 ?_
          have hs9 := zstp_r (Nat.succ_le_of_lt hlt_s) (zstp_s (t := .inr (nI j)) hs_s (by unfold st_M_differs; rw [if_neg h87]; rw [if_pos h97]))
          exact zr_iret hX d_M_differs_102 ⟨(by unfold s_M_differs; rw [hs9]; rfl), hk_s, fk_s, rfl⟩
    · skip
      have ej_s : j = 1024 := by omega
      rw [ej_s] at hs_s
      refine zr_iload hX rfl d_M_differs_41 ?_
      refine zr_sipush (v := 1024) hX rfl d_M_differs_43 ?_
      refine zr_icmp_ge hX (tgt := 109) d_M_differs_46 (by decide) (fun _ => ?_) (fun h9 => absurd h9 (zq_leT (a := 1024) (b := j) (by omega) (by omega)))
      refine zr_iconst (v := (-1)) hX rfl d_M_differs_109 ?_
      exact zr_iret hX d_M_differs_110 ⟨(by unfold s_M_differs; rw [← hs_s, zsel_l]), hk_s, fk_s, rfl⟩
  exact L41 0 (Nat.zero_le _) _ _ rfl (zMv.put h (upd u.2.1 0 0)) (zMf.obj zMf.rf _)
theorem c_M_total_bad (g : zGt) (d : Nat) (hd : 2 ≤ d) (G : zG) (u : zU) (m : Nat) (h : zMv u m G) (p : Int32) (q : Int32) (e : Int32) (hbad : s_M_isPlace u p = 0 ∨ s_M_isLayer q = 0 ∨ e < 0 ∨ ¬ e ≤ 3) : zMet g y_M_total b_M_total 11 (some .int) [] d 0 0 [.ref m, .int p, .int q, .int e] G (zMq (some (.int 0)) (zuc u 0 1) u m G) := by
  refine zMet.of (by decide) (Nat.le_of_ble_eq_true rfl) rfl (fun X hX => ?_)
  refine zr_aload_n hX rfl d_M_total_0 ?_
  refine zr_aload_n hX rfl d_M_total_1 ?_
  refine zr_iload_n hX rfl d_M_total_2 ?_
  refine zr_pV hX (c_M_isPlace g (d - 1) (by omega) _ u m h p) l_M_172 im_M_isPlace se_M_isPlace f_M_isPlace k_M.1 h.m rfl (Nat.le_of_ble_eq_true rfl) (by omega) (Nat.zero_le _) (Nat.zero_le _) d_M_total_3 ?_
  refine zr_if_eq hX (tgt := 25) d_M_total_6 (by decide) (fun h6 => ?_) (fun h6 => ?_)
  · skip
    refine zr_iconst (v := 1) hX rfl d_M_total_25 ?_
    refine zr_goto hX (tgt := 30) (by decide) d_M_total_26 ?_
    refine zr_mV1 hX (c_M_fails1 g (d - 1) _ u m h ) l_M_119 im_M_fails se_M_fails f_M_fails rfl (Nat.le_of_ble_eq_true rfl) (by omega) (Nat.zero_le _) (Nat.zero_le _) d_M_total_30 (Nat.zero_le _) (Nat.zero_le _) (zMv.m h) (fun G30 hk30 fk30 ek30 => ?_)
    refine zr_if_eq hX (tgt := 38) d_M_total_33 (by decide) (fun h => absurd h (by decide)) (fun _ => ?_)
    refine zr_iconst (v := 0) hX rfl d_M_total_36 ?_
    exact zr_iret hX d_M_total_37 ⟨rfl, hk30, (zMf.tr zMf.rf fk30 rfl), rfl⟩
  · skip
    refine zr_iload_n hX rfl d_M_total_9 ?_
    refine zr_pS hX (c_M_isLayer g (d - 1) _ q) l_M_102 st_M_isLayer f_M_isLayer rfl (Nat.le_of_ble_eq_true rfl) (by omega) (Nat.zero_le _) (Nat.zero_le _) d_M_total_10 ?_
    refine zr_if_eq hX (tgt := 25) d_M_total_13 (by decide) (fun h13 => ?_) (fun h13 => ?_)
    · skip
      refine zr_iconst (v := 1) hX rfl d_M_total_25 ?_
      refine zr_goto hX (tgt := 30) (by decide) d_M_total_26 ?_
      refine zr_mV1 hX (c_M_fails1 g (d - 1) _ u m h ) l_M_119 im_M_fails se_M_fails f_M_fails rfl (Nat.le_of_ble_eq_true rfl) (by omega) (Nat.zero_le _) (Nat.zero_le _) d_M_total_30 (Nat.zero_le _) (Nat.zero_le _) (zMv.m h) (fun G30 hk30 fk30 ek30 => ?_)
      refine zr_if_eq hX (tgt := 38) d_M_total_33 (by decide) (fun h => absurd h (by decide)) (fun _ => ?_)
      refine zr_iconst (v := 0) hX rfl d_M_total_36 ?_
      exact zr_iret hX d_M_total_37 ⟨rfl, hk30, (zMf.tr zMf.rf fk30 rfl), rfl⟩
    · skip
      refine zr_iload_n hX rfl d_M_total_16 ?_
      refine zr_if_lt hX (tgt := 25) d_M_total_17 (by decide) (fun h17 => ?_) (fun h17 => ?_)
      · skip
        refine zr_iconst (v := 1) hX rfl d_M_total_25 ?_
        refine zr_goto hX (tgt := 30) (by decide) d_M_total_26 ?_
        refine zr_mV1 hX (c_M_fails1 g (d - 1) _ u m h ) l_M_119 im_M_fails se_M_fails f_M_fails rfl (Nat.le_of_ble_eq_true rfl) (by omega) (Nat.zero_le _) (Nat.zero_le _) d_M_total_30 (Nat.zero_le _) (Nat.zero_le _) (zMv.m h) (fun G30 hk30 fk30 ek30 => ?_)
        refine zr_if_eq hX (tgt := 38) d_M_total_33 (by decide) (fun h => absurd h (by decide)) (fun _ => ?_)
        refine zr_iconst (v := 0) hX rfl d_M_total_36 ?_
        exact zr_iret hX d_M_total_37 ⟨rfl, hk30, (zMf.tr zMf.rf fk30 rfl), rfl⟩
      · skip
        refine zr_iload_n hX rfl d_M_total_20 ?_
        refine zr_iconst (v := 3) hX rfl d_M_total_21 ?_
        refine zr_icmp_le hX (tgt := 29) d_M_total_22 (by decide) (fun h22 => ?_) (fun h22 => ?_)
        · skip
          exact False.elim ((fun z => z.elim h6 (fun z => z.elim h13 (fun z => z.elim h17 (fun z => z h22)))) hbad)
        · skip
          refine zr_iconst (v := 1) hX rfl d_M_total_25 ?_
          refine zr_goto hX (tgt := 30) (by decide) d_M_total_26 ?_
          refine zr_mV1 hX (c_M_fails1 g (d - 1) _ u m h ) l_M_119 im_M_fails se_M_fails f_M_fails rfl (Nat.le_of_ble_eq_true rfl) (by omega) (Nat.zero_le _) (Nat.zero_le _) d_M_total_30 (Nat.zero_le _) (Nat.zero_le _) (zMv.m h) (fun G30 hk30 fk30 ek30 => ?_)
          refine zr_if_eq hX (tgt := 38) d_M_total_33 (by decide) (fun h => absurd h (by decide)) (fun _ => ?_)
          refine zr_iconst (v := 0) hX rfl d_M_total_36 ?_
          exact zr_iret hX d_M_total_37 ⟨rfl, hk30, (zMf.tr zMf.rf fk30 rfl), rfl⟩
def st_M_total_x (u : zU) (p q lf wd tp : Nat) (j : Nat) (i : Nat) (t : Int32 × Int32 × Int32 × Int32) : Int32 × Int32 × Int32 × Int32 := if (((zuc u 0 0).ar 1) ((4096 * p) + (1024 * q + 32 * (tp + j) + (lf + i)))) = (-2147483648) then (t.1, t.2.1, t.2.2.1, t.2.2.2) else if t.2.1 = 0 then if (((zuc u 0 0).ar 1) ((4096 * p) + (1024 * q + 32 * (tp + j) + (lf + i)))) ≤ t.2.2.2 then (t.1 + (((zuc u 0 0).ar 1) ((4096 * p) + (1024 * q + 32 * (tp + j) + (lf + i)))), t.2.1 + Int32.ofInt 1, ((zuc u 0 0).ar 1) ((4096 * p) + (1024 * q + 32 * (tp + j) + (lf + i))), t.2.2.2) else (t.1 + (((zuc u 0 0).ar 1) ((4096 * p) + (1024 * q + 32 * (tp + j) + (lf + i)))), t.2.1 + Int32.ofInt 1, ((zuc u 0 0).ar 1) ((4096 * p) + (1024 * q + 32 * (tp + j) + (lf + i))), ((zuc u 0 0).ar 1) ((4096 * p) + (1024 * q + 32 * (tp + j) + (lf + i)))) else if t.2.2.1 ≤ (((zuc u 0 0).ar 1) ((4096 * p) + (1024 * q + 32 * (tp + j) + (lf + i)))) then if (((zuc u 0 0).ar 1) ((4096 * p) + (1024 * q + 32 * (tp + j) + (lf + i)))) ≤ t.2.2.2 then (t.1 + (((zuc u 0 0).ar 1) ((4096 * p) + (1024 * q + 32 * (tp + j) + (lf + i)))), t.2.1 + Int32.ofInt 1, t.2.2.1, t.2.2.2) else (t.1 + (((zuc u 0 0).ar 1) ((4096 * p) + (1024 * q + 32 * (tp + j) + (lf + i)))), t.2.1 + Int32.ofInt 1, t.2.2.1, ((zuc u 0 0).ar 1) ((4096 * p) + (1024 * q + 32 * (tp + j) + (lf + i)))) else if (((zuc u 0 0).ar 1) ((4096 * p) + (1024 * q + 32 * (tp + j) + (lf + i)))) ≤ t.2.2.2 then (t.1 + (((zuc u 0 0).ar 1) ((4096 * p) + (1024 * q + 32 * (tp + j) + (lf + i)))), t.2.1 + Int32.ofInt 1, ((zuc u 0 0).ar 1) ((4096 * p) + (1024 * q + 32 * (tp + j) + (lf + i))), t.2.2.2) else (t.1 + (((zuc u 0 0).ar 1) ((4096 * p) + (1024 * q + 32 * (tp + j) + (lf + i)))), t.2.1 + Int32.ofInt 1, ((zuc u 0 0).ar 1) ((4096 * p) + (1024 * q + 32 * (tp + j) + (lf + i))), ((zuc u 0 0).ar 1) ((4096 * p) + (1024 * q + 32 * (tp + j) + (lf + i))))
def st_M_total_y (u : zU) (p q lf wd tp : Nat) (j : Nat) (s : Int32 × Int32 × Int32 × Int32) : Int32 × Int32 × Int32 × Int32 := ((zfor wd (st_M_total_x u p q lf wd tp j) (s.1, s.2.1, s.2.2.1, s.2.2.2)).1, (zfor wd (st_M_total_x u p q lf wd tp j) (s.1, s.2.1, s.2.2.1, s.2.2.2)).2.1, (zfor wd (st_M_total_x u p q lf wd tp j) (s.1, s.2.1, s.2.2.1, s.2.2.2)).2.2.1, (zfor wd (st_M_total_x u p q lf wd tp j) (s.1, s.2.1, s.2.2.1, s.2.2.2)).2.2.2)
def s_M_total (u : zU) (p q : Nat) (e : Int32) (lf tp wd hg : Nat) : Int32 := if e = 0 then (zfor hg (st_M_total_y u p q lf wd tp) (0, 0, (-2147483648), (-2147483648))).1 else if e = 1 then (zfor hg (st_M_total_y u p q lf wd tp) (0, 0, (-2147483648), (-2147483648))).2.1 else if e = 2 then (zfor hg (st_M_total_y u p q lf wd tp) (0, 0, (-2147483648), (-2147483648))).2.2.1 else (zfor hg (st_M_total_y u p q lf wd tp) (0, 0, (-2147483648), (-2147483648))).2.2.2
theorem c_M_total_ok (g : zGt) (d : Nat) (hd : 2 ≤ d) (G : zG) (u : zU) (m : Nat) (h : zMv u m G) (p : Nat) (q : Nat) (e : Int32) (lf tp wd hg : Nat) (hlf : u.i 16 = nI lf) (htp : u.i 17 = nI tp) (hwd : u.i 18 = nI wd) (hhg : u.i 19 = nI hg) (hr1 : lf + wd ≤ 32) (hr2 : tp + hg ≤ 32) (hp : p < 28) (hq : q < 4) (ho0 : ¬ (s_M_isPlace u (nI p) = 0)) (ho1 : ¬ (s_M_isLayer (nI q) = 0)) (ho2 : ¬ (e < 0)) (ho3 : ¬ ¬ e ≤ 3) : zMet g y_M_total b_M_total 11 (some .int) [] d 0 0 [.ref m, .int (nI p), .int (nI q), .int e] G (zMq (some (.int (s_M_total u p q e lf tp wd hg))) (zuc u 0 0) u m G) := by
  refine zMet.of (by decide) (Nat.le_of_ble_eq_true rfl) rfl (fun X hX => ?_)
  refine zr_aload_n hX rfl d_M_total_0 ?_
  refine zr_aload_n hX rfl d_M_total_1 ?_
  refine zr_iload_n hX rfl d_M_total_2 ?_
  refine zr_pV hX (c_M_isPlace g (d - 1) (by omega) _ u m h (nI p)) l_M_172 im_M_isPlace se_M_isPlace f_M_isPlace k_M.1 h.m rfl (Nat.le_of_ble_eq_true rfl) (by omega) (Nat.zero_le _) (Nat.zero_le _) d_M_total_3 ?_
  refine zr_if_eq hX (tgt := 25) d_M_total_6 (by decide) (fun h9 => absurd h9 ho0) (fun _ => ?_)
  refine zr_iload_n hX rfl d_M_total_9 ?_
  refine zr_pS hX (c_M_isLayer g (d - 1) _ (nI q)) l_M_102 st_M_isLayer f_M_isLayer rfl (Nat.le_of_ble_eq_true rfl) (by omega) (Nat.zero_le _) (Nat.zero_le _) d_M_total_10 ?_
  refine zr_if_eq hX (tgt := 25) d_M_total_13 (by decide) (fun h9 => absurd h9 ho1) (fun _ => ?_)
  refine zr_iload_n hX rfl d_M_total_16 ?_
  refine zr_if_lt hX (tgt := 25) d_M_total_17 (by decide) (fun h9 => absurd h9 ho2) (fun _ => ?_)
  refine zr_iload_n hX rfl d_M_total_20 ?_
  refine zr_iconst (v := 3) hX rfl d_M_total_21 ?_
  refine zr_icmp_le hX (tgt := 29) d_M_total_22 (by decide) (fun _ => ?_) (fun h9 => absurd h9 ho3)
  refine zr_iconst (v := 0) hX rfl d_M_total_29 ?_
  refine zr_mV1 hX (c_M_fails0 g (d - 1) _ u m h ) l_M_119 im_M_fails se_M_fails f_M_fails rfl (Nat.le_of_ble_eq_true rfl) (by omega) (Nat.zero_le _) (Nat.zero_le _) d_M_total_30 (Nat.zero_le _) (Nat.zero_le _) (zMv.m h) (fun G30 hk30 fk30 ek30 => ?_)
  refine zr_if_eq hX (tgt := 38) d_M_total_33 (by decide) (fun _ => ?_) (fun h => absurd h (by decide))
  refine zr_iconst (v := 0) hX rfl d_M_total_38 ?_
  refine zs_istore hX (by decide) rfl d_M_total_39 ?_
  refine zr_iconst (v := 0) hX rfl d_M_total_41 ?_
  refine zs_istore hX (by decide) rfl d_M_total_42 ?_
  refine zr_ldc hX q652 d_M_total_44 ?_
  refine zs_istore hX (by decide) rfl d_M_total_46 ?_
  refine zr_ldc hX q652 d_M_total_48 ?_
  refine zs_istore hX (by decide) rfl d_M_total_50 ?_
  refine zr_aload_n hX rfl d_M_total_52 ?_
  refine zr_get hX k_M 17 (by decide) q670 rfl hk30.m (zml17 htp) d_M_total_53 ?_
  refine zs_istore hX (by decide) rfl d_M_total_56 ?_
  have L58 : ∀ j, j ≤ hg → ∀ (s : Int32 × Int32 × Int32 × Int32) (G_s : zG), s = zfor j (st_M_total_y u p q lf wd tp) (0, 0, (-2147483648), (-2147483648)) → zMv (zuc u 0 0) m G_s → zMf u m G G_s → zw g X (zMq (some (.int (s_M_total u p q e lf tp wd hg))) (zuc u 0 0) u m G) 58 [some (.ref m), some (.int (nI p)), some (.int (nI q)), some (.int e), some (.int s.1), some (.int s.2.1), some (.int s.2.2.1), some (.int s.2.2.2), some (.int (nI (tp + j))), none, none] [] G_s 0 0 := by
    refine zup hg (fun j hj_s ih_s => ?_)
    intro s G_s hs_s hk_s fk_s
    by_cases hlt_s : j < hg
    · skip
      refine zr_iload hX rfl d_M_total_58 ?_
      refine zr_aload_n hX rfl d_M_total_60 ?_
      refine zr_get hX k_M 17 (by decide) q670 rfl hk_s.m (zml17 htp) d_M_total_61 ?_
      refine zr_aload_n hX rfl d_M_total_64 ?_
      refine zr_get hX k_M 19 (by decide) q672 rfl hk_s.m (zml19 hhg) d_M_total_65 ?_
      refine zn_iadd (a := tp) (b := hg) hX d_M_total_68 ?_
      refine zr_icmp_ge hX (tgt := 182) d_M_total_69 (by decide) (fun h9 => absurd h9 (nI_ge (a := (tp + j)) (b := (tp + hg)) (by omega) (by omega))) (fun _ => ?_)
      refine zr_aload_n hX rfl d_M_total_72 ?_
      refine zr_get hX k_M 16 (by decide) q669 rfl hk_s.m (zml16 hlf) d_M_total_73 ?_
      refine zs_istore hX (by decide) rfl d_M_total_76 ?_
      have L78 : ∀ i, i ≤ wd → ∀ (t : Int32 × Int32 × Int32 × Int32) (G_t : zG), t = zfor i (st_M_total_x u p q lf wd tp j) (s.1, s.2.1, s.2.2.1, s.2.2.2) → zMv (zuc u 0 0) m G_t → zMf u m G G_t → zw g X (zMq (some (.int (s_M_total u p q e lf tp wd hg))) (zuc u 0 0) u m G) 78 [some (.ref m), some (.int (nI p)), some (.int (nI q)), some (.int e), some (.int t.1), some (.int t.2.1), some (.int t.2.2.1), some (.int t.2.2.2), some (.int (nI (tp + j))), some (.int (nI (lf + i))), none] [] G_t 0 0 := by
        refine zup wd (fun i hj_t ih_t => ?_)
        intro t G_t hs_t hk_t fk_t
        by_cases hlt_t : i < wd
        · skip
          refine zr_iload hX rfl d_M_total_78 ?_
          refine zr_aload_n hX rfl d_M_total_80 ?_
          refine zr_get hX k_M 16 (by decide) q669 rfl hk_t.m (zml16 hlf) d_M_total_81 ?_
          refine zr_aload_n hX rfl d_M_total_84 ?_
          refine zr_get hX k_M 18 (by decide) q671 rfl hk_t.m (zml18 hwd) d_M_total_85 ?_
          refine zn_iadd (a := lf) (b := wd) hX d_M_total_88 ?_
          refine zr_icmp_ge hX (tgt := 176) d_M_total_89 (by decide) (fun h9 => absurd h9 (nI_ge (a := (lf + i)) (b := (lf + wd)) (by omega) (by omega))) (fun _ => ?_)
          refine zr_aload_n hX rfl d_M_total_92 ?_
          refine zr_get hX k_M 1 (by decide) q654 rfl hk_t.m rfl d_M_total_93 ?_
          refine zr_sipush (v := 4096) hX rfl d_M_total_96 ?_
          refine zr_iload_n hX rfl d_M_total_99 ?_
          refine zn_imul (a := 4096) (b := p) hX d_M_total_100 ?_
          refine zr_iload_n hX rfl d_M_total_101 ?_
          refine zr_iload hX rfl d_M_total_102 ?_
          refine zr_iload hX rfl d_M_total_104 ?_
          refine zr_pS hX (c_M_cellN g (d - 1) _ q (lf + i) (tp + j)) l_M_123 st_M_cellOf f_M_cellOf rfl (Nat.le_of_ble_eq_true rfl) (by omega) (Nat.zero_le _) (Nat.zero_le _) d_M_total_106 ?_
          refine zn_iadd (a := (4096 * p)) (b := (1024 * q + 32 * (tp + j) + (lf + i))) hX d_M_total_109 ?_
          refine zr_ialdN hX (hk_t.ar 1 rfl) ((4096 * p) + (1024 * q + 32 * (tp + j) + (lf + i))) rfl (by omega) (by decide) d_M_total_110 ?_
          refine zs_istore hX (by decide) rfl d_M_total_111 ?_
          refine zr_iload hX rfl d_M_total_113 ?_
          refine zr_ldc hX q652 d_M_total_115 ?_
          refine zr_icmp_ne hX (tgt := 123) d_M_total_117 (by decide) (fun h117 => ?_) (fun h117 => ?_)
          · skip
            refine zr_iload hX rfl d_M_total_123 ?_
            refine zr_iload hX rfl d_M_total_125 ?_
            refine zr_iadd hX d_M_total_127 ?_
            refine zs_istore hX (by decide) rfl d_M_total_128 ?_
            refine zr_iload hX rfl d_M_total_130 ?_
            refine zr_if_eq hX (tgt := 142) d_M_total_132 (by decide) (fun h132 => ?_) (fun h132 => ?_)
            · skip
              refine zr_iload hX rfl d_M_total_142 ?_
              refine zr_goto hX (tgt := 149) (by decide) d_M_total_144 ?_
              refine zs_istore hX (by decide) rfl d_M_total_149 ?_
              refine zr_iload hX rfl d_M_total_151 ?_
              refine zr_iload hX rfl d_M_total_153 ?_
              refine zr_icmp_le hX (tgt := 163) d_M_total_155 (by decide) (fun h155 => ?_) (fun h155 => ?_)
              · skip
                refine zr_iload hX rfl d_M_total_163 ?_
                refine zs_istore hX (by decide) rfl d_M_total_165 ?_
                refine zs_iinc hX rfl rfl (by decide) rfl d_M_total_167 ?_
                refine zs_iinc (v := nI ((lf + i) + 1)) hX rfl (nI_add _ 1) (by decide) rfl d_M_total_170 ?_
                refine zr_goto hX (tgt := 78) (by decide) d_M_total_173 ?_
                refine zw_drop 10 ?_
                exact ih_t hlt_t (t.1 + (((zuc u 0 0).ar 1) ((4096 * p) + (1024 * q + 32 * (tp + j) + (lf + i)))), t.2.1 + Int32.ofInt 1, ((zuc u 0 0).ar 1) ((4096 * p) + (1024 * q + 32 * (tp + j) + (lf + i))), t.2.2.2) _ (by rw [zfor_s, ← hs_t]; unfold st_M_total_x; rw [if_neg h117]; rw [if_pos h132]; rw [if_pos h155]) hk_t fk_t
              · skip
                refine zr_iload hX rfl d_M_total_158 ?_
                refine zr_goto hX (tgt := 165) (by decide) d_M_total_160 ?_
                refine zs_istore hX (by decide) rfl d_M_total_165 ?_
                refine zs_iinc hX rfl rfl (by decide) rfl d_M_total_167 ?_
                refine zs_iinc (v := nI ((lf + i) + 1)) hX rfl (nI_add _ 1) (by decide) rfl d_M_total_170 ?_
                refine zr_goto hX (tgt := 78) (by decide) d_M_total_173 ?_
                refine zw_drop 10 ?_
                exact ih_t hlt_t (t.1 + (((zuc u 0 0).ar 1) ((4096 * p) + (1024 * q + 32 * (tp + j) + (lf + i)))), t.2.1 + Int32.ofInt 1, ((zuc u 0 0).ar 1) ((4096 * p) + (1024 * q + 32 * (tp + j) + (lf + i))), ((zuc u 0 0).ar 1) ((4096 * p) + (1024 * q + 32 * (tp + j) + (lf + i)))) _ (by rw [zfor_s, ← hs_t]; unfold st_M_total_x; rw [if_neg h117]; rw [if_pos h132]; rw [if_neg h155]) hk_t fk_t
            · skip
              refine zr_iload hX rfl d_M_total_135 ?_
              refine zr_iload hX rfl d_M_total_137 ?_
              refine zr_icmp_ge hX (tgt := 147) d_M_total_139 (by decide) (fun h139 => ?_) (fun h139 => ?_)
              · skip
                refine zr_iload hX rfl d_M_total_147 ?_
                refine zs_istore hX (by decide) rfl d_M_total_149 ?_
                refine zr_iload hX rfl d_M_total_151 ?_
                refine zr_iload hX rfl d_M_total_153 ?_
                refine zr_icmp_le hX (tgt := 163) d_M_total_155 (by decide) (fun h155 => ?_) (fun h155 => ?_)
                · skip
                  refine zr_iload hX rfl d_M_total_163 ?_
                  refine zs_istore hX (by decide) rfl d_M_total_165 ?_
                  refine zs_iinc hX rfl rfl (by decide) rfl d_M_total_167 ?_
                  refine zs_iinc (v := nI ((lf + i) + 1)) hX rfl (nI_add _ 1) (by decide) rfl d_M_total_170 ?_
                  refine zr_goto hX (tgt := 78) (by decide) d_M_total_173 ?_
                  refine zw_drop 10 ?_
                  exact ih_t hlt_t (t.1 + (((zuc u 0 0).ar 1) ((4096 * p) + (1024 * q + 32 * (tp + j) + (lf + i)))), t.2.1 + Int32.ofInt 1, t.2.2.1, t.2.2.2) _ (by rw [zfor_s, ← hs_t]; unfold st_M_total_x; rw [if_neg h117]; rw [if_neg h132]; rw [if_pos h139]; rw [if_pos h155]) hk_t fk_t
                · skip
                  refine zr_iload hX rfl d_M_total_158 ?_
                  refine zr_goto hX (tgt := 165) (by decide) d_M_total_160 ?_
                  refine zs_istore hX (by decide) rfl d_M_total_165 ?_
                  refine zs_iinc hX rfl rfl (by decide) rfl d_M_total_167 ?_
                  refine zs_iinc (v := nI ((lf + i) + 1)) hX rfl (nI_add _ 1) (by decide) rfl d_M_total_170 ?_
                  refine zr_goto hX (tgt := 78) (by decide) d_M_total_173 ?_
                  refine zw_drop 10 ?_
                  exact ih_t hlt_t (t.1 + (((zuc u 0 0).ar 1) ((4096 * p) + (1024 * q + 32 * (tp + j) + (lf + i)))), t.2.1 + Int32.ofInt 1, t.2.2.1, ((zuc u 0 0).ar 1) ((4096 * p) + (1024 * q + 32 * (tp + j) + (lf + i)))) _ (by rw [zfor_s, ← hs_t]; unfold st_M_total_x; rw [if_neg h117]; rw [if_neg h132]; rw [if_pos h139]; rw [if_neg h155]) hk_t fk_t
              · skip
                refine zr_iload hX rfl d_M_total_142 ?_
                refine zr_goto hX (tgt := 149) (by decide) d_M_total_144 ?_
                refine zs_istore hX (by decide) rfl d_M_total_149 ?_
                refine zr_iload hX rfl d_M_total_151 ?_
                refine zr_iload hX rfl d_M_total_153 ?_
                refine zr_icmp_le hX (tgt := 163) d_M_total_155 (by decide) (fun h155 => ?_) (fun h155 => ?_)
                · skip
                  refine zr_iload hX rfl d_M_total_163 ?_
                  refine zs_istore hX (by decide) rfl d_M_total_165 ?_
                  refine zs_iinc hX rfl rfl (by decide) rfl d_M_total_167 ?_
                  refine zs_iinc (v := nI ((lf + i) + 1)) hX rfl (nI_add _ 1) (by decide) rfl d_M_total_170 ?_
                  refine zr_goto hX (tgt := 78) (by decide) d_M_total_173 ?_
                  refine zw_drop 10 ?_
                  exact ih_t hlt_t (t.1 + (((zuc u 0 0).ar 1) ((4096 * p) + (1024 * q + 32 * (tp + j) + (lf + i)))), t.2.1 + Int32.ofInt 1, ((zuc u 0 0).ar 1) ((4096 * p) + (1024 * q + 32 * (tp + j) + (lf + i))), t.2.2.2) _ (by rw [zfor_s, ← hs_t]; unfold st_M_total_x; rw [if_neg h117]; rw [if_neg h132]; rw [if_neg h139]; rw [if_pos h155]) hk_t fk_t
                · skip
                  refine zr_iload hX rfl d_M_total_158 ?_
                  refine zr_goto hX (tgt := 165) (by decide) d_M_total_160 ?_
                  refine zs_istore hX (by decide) rfl d_M_total_165 ?_
                  refine zs_iinc hX rfl rfl (by decide) rfl d_M_total_167 ?_
                  refine zs_iinc (v := nI ((lf + i) + 1)) hX rfl (nI_add _ 1) (by decide) rfl d_M_total_170 ?_
                  refine zr_goto hX (tgt := 78) (by decide) d_M_total_173 ?_
                  refine zw_drop 10 ?_
                  exact ih_t hlt_t (t.1 + (((zuc u 0 0).ar 1) ((4096 * p) + (1024 * q + 32 * (tp + j) + (lf + i)))), t.2.1 + Int32.ofInt 1, ((zuc u 0 0).ar 1) ((4096 * p) + (1024 * q + 32 * (tp + j) + (lf + i))), ((zuc u 0 0).ar 1) ((4096 * p) + (1024 * q + 32 * (tp + j) + (lf + i)))) _ (by rw [zfor_s, ← hs_t]; unfold st_M_total_x; rw [if_neg h117]; rw [if_neg h132]; rw [if_neg h139]; rw [if_neg h155]) hk_t fk_t
          · skip
            refine zr_goto hX (tgt := 170) (by decide) d_M_total_120 ?_
            refine zs_iinc (v := nI ((lf + i) + 1)) hX rfl (nI_add _ 1) (by decide) rfl d_M_total_170 ?_
            refine zr_goto hX (tgt := 78) (by decide) d_M_total_173 ?_
            refine zw_drop 10 ?_
            exact ih_t hlt_t (t.1, t.2.1, t.2.2.1, t.2.2.2) _ (by rw [zfor_s, ← hs_t]; unfold st_M_total_x; rw [if_pos h117]) hk_t fk_t
        · skip
          have ej_t : i = wd := by omega
          rw [ej_t] at hs_t
          refine zr_iload hX rfl d_M_total_78 ?_
          refine zr_aload_n hX rfl d_M_total_80 ?_
          refine zr_get hX k_M 16 (by decide) q669 rfl hk_t.m (zml16 hlf) d_M_total_81 ?_
          refine zr_aload_n hX rfl d_M_total_84 ?_
          refine zr_get hX k_M 18 (by decide) q671 rfl hk_t.m (zml18 hwd) d_M_total_85 ?_
          refine zn_iadd (a := lf) (b := wd) hX d_M_total_88 ?_
          refine zr_icmp_ge hX (tgt := 176) d_M_total_89 (by decide) (fun _ => ?_) (fun h9 => absurd h9 (zq_leT (a := (lf + wd)) (b := (lf + i)) (by omega) (by omega)))
          refine zs_iinc (v := nI ((tp + j) + 1)) hX rfl (nI_add _ 1) (by decide) rfl d_M_total_176 ?_
          refine zr_goto hX (tgt := 58) (by decide) d_M_total_179 ?_
          refine zw_drop 9 ?_
          exact ih_s hlt_s (t.1, t.2.1, t.2.2.1, t.2.2.2) _ (by rw [zfor_s, ← hs_s]; unfold st_M_total_y; rw [← hs_t]) hk_t fk_t
      exact L78 0 (Nat.zero_le _) _ _ rfl hk_s fk_s
    · skip
      have ej_s : j = hg := by omega
      rw [ej_s] at hs_s
      refine zr_iload hX rfl d_M_total_58 ?_
      refine zr_aload_n hX rfl d_M_total_60 ?_
      refine zr_get hX k_M 17 (by decide) q670 rfl hk_s.m (zml17 htp) d_M_total_61 ?_
      refine zr_aload_n hX rfl d_M_total_64 ?_
      refine zr_get hX k_M 19 (by decide) q672 rfl hk_s.m (zml19 hhg) d_M_total_65 ?_
      refine zn_iadd (a := tp) (b := hg) hX d_M_total_68 ?_
      refine zr_icmp_ge hX (tgt := 182) d_M_total_69 (by decide) (fun _ => ?_) (fun h9 => absurd h9 (zq_leT (a := (tp + hg)) (b := (tp + j)) (by omega) (by omega)))
      refine zr_iload_n hX rfl d_M_total_182 ?_
      refine zr_if_ne hX (tgt := 191) d_M_total_183 (by decide) (fun h183 => ?_) (fun h183 => ?_)
      · skip
        refine zr_iload_n hX rfl d_M_total_191 ?_
        refine zr_iconst (v := 1) hX rfl d_M_total_192 ?_
        refine zr_icmp_ne hX (tgt := 201) d_M_total_193 (by decide) (fun h193 => ?_) (fun h193 => ?_)
        · skip
          refine zr_iload_n hX rfl d_M_total_201 ?_
          refine zr_iconst (v := 2) hX rfl d_M_total_202 ?_
          refine zr_icmp_ne hX (tgt := 211) d_M_total_203 (by decide) (fun h203 => ?_) (fun h203 => ?_)
          · skip
            refine zr_iload hX rfl d_M_total_211 ?_
            exact zr_iret hX d_M_total_213 ⟨(by unfold s_M_total; rw [← hs_s]; rw [if_neg h183]; rw [if_neg h193]; rw [if_neg h203]), hk_s, fk_s, (Eq.trans ek30 rfl)⟩
          · skip
            refine zr_iload hX rfl d_M_total_206 ?_
            refine zr_goto hX (tgt := 213) (by decide) d_M_total_208 ?_
            exact zr_iret hX d_M_total_213 ⟨(by unfold s_M_total; rw [← hs_s]; rw [if_neg h183]; rw [if_neg h193]; rw [if_pos h203]), hk_s, fk_s, (Eq.trans ek30 rfl)⟩
        · skip
          refine zr_iload hX rfl d_M_total_196 ?_
          refine zr_goto hX (tgt := 213) (by decide) d_M_total_198 ?_
          exact zr_iret hX d_M_total_213 ⟨(by unfold s_M_total; rw [← hs_s]; rw [if_neg h183]; rw [if_pos h193]), hk_s, fk_s, (Eq.trans ek30 rfl)⟩
      · skip
        refine zr_iload hX rfl d_M_total_186 ?_
        refine zr_goto hX (tgt := 213) (by decide) d_M_total_188 ?_
        exact zr_iret hX d_M_total_213 ⟨(by unfold s_M_total; rw [← hs_s]; rw [if_pos h183]), hk_s, fk_s, (Eq.trans ek30 rfl)⟩
  exact L58 0 (Nat.zero_le _) _ _ rfl hk30 (zMf.tr zMf.rf fk30 rfl)
