def sp_M_next (p q : Int32) (j : Nat) (s : Unit) : (Unit) ⊕ Int32 := if (((p &&& (q ^^^ (-1))) >>> ((nI j) &&& 31)) &&& 1) = 0 then .inl () else .inr (nI j)
def s_M_next (p : Int32) (q : Int32) : Int32 := zsel (zfor 24 (zstp (sp_M_next p q)) (.inl ())) (fun s => nI 24)
theorem c_M_next (g : zGt) (d : Nat) (G : zG) (p : Int32) (q : Int32)  : zMet g y_M_next b_M_next 3 (some .int) [] d 0 0 [.int p, .int q] G (zD1 (.int (s_M_next p q)) G) := by
  refine zMet.of (by decide) (Nat.le_of_ble_eq_true rfl) rfl (fun X hX => ?_)
  refine zr_iconst (v := 0) hX rfl d_M_next_0 ?_
  refine zs_istore_n hX (by decide) rfl d_M_next_1 ?_
  have L2 : ∀ j, j ≤ 24 → ∀ (s : Unit), (.inl s : (Unit) ⊕ Int32) = zfor j (zstp (sp_M_next p q)) (.inl ()) → zw g X (zD1 (.int (s_M_next p q)) G) 2 [some (.int p), some (.int q), some (.int (nI j))] [] G 0 0 := by
    refine zup 24 (fun j hj_s ih_s => ?_)
    intro s hs_s
    by_cases hlt_s : j < 24
    · skip
      refine zr_iload_n hX rfl d_M_next_2 ?_
      refine zr_bipush (v := 24) hX rfl d_M_next_3 ?_
      refine zr_icmp_ge hX (tgt := 26) d_M_next_5 (by decide) (fun h9 => absurd h9 (nI_ge (a := j) (b := 24) (by omega) (by decide))) (fun _ => ?_)
      refine zr_iload_n hX rfl d_M_next_8 ?_
      refine zr_iload_n hX rfl d_M_next_9 ?_
      refine zr_iconst (v := (-1)) hX rfl d_M_next_10 ?_
      refine zr_ixor hX d_M_next_11 ?_
      refine zr_iand hX d_M_next_12 ?_
      refine zr_iload_n hX rfl d_M_next_13 ?_
      refine zr_ishr hX d_M_next_14 ?_
      refine zr_iconst (v := 1) hX rfl d_M_next_15 ?_
      refine zr_iand hX d_M_next_16 ?_
      refine zr_if_ne hX (tgt := 26) d_M_next_17 (by decide) (fun h17 => ?_) (fun h17 => ?_)
      · skip
        refine zr_iload_n hX rfl d_M_next_26 ?_
        have hs9 := zstp_r (Nat.succ_le_of_lt hlt_s) (zstp_s (t := .inr (nI j)) hs_s (by unfold sp_M_next; rw [if_neg h17]))
        exact zr_iret hX d_M_next_27 ⟨(by unfold s_M_next; rw [hs9]; rfl), rfl⟩
      · skip
        refine zs_iinc (v := nI (j + 1)) hX rfl (nI_add _ 1) (by decide) rfl d_M_next_20 ?_
        refine zr_goto hX (tgt := 2) (by decide) d_M_next_23 ?_
        exact ih_s hlt_s () (zstp_s hs_s (by unfold sp_M_next; rw [if_pos h17]))
    · skip
      have ej_s : j = 24 := by omega
      rw [ej_s] at hs_s
      subst ej_s
      refine zr_iload_n hX rfl d_M_next_2 ?_
      refine zr_bipush (v := 24) hX rfl d_M_next_3 ?_
      refine zr_icmp_ge hX (tgt := 26) d_M_next_5 (by decide) (fun _ => ?_) (fun h9 => absurd h9 (zq_leT (a := 24) (b := 24) (by omega) (by decide)))
      refine zr_iload_n hX rfl d_M_next_26 ?_
      exact zr_iret hX d_M_next_27 ⟨(by unfold s_M_next; rw [← hs_s, zsel_l]), rfl⟩
  exact L2 0 (Nat.zero_le _) _ rfl
def t_M_beginBase (u : zU) (l : Nat) (p q : Int32) (cm : Nat) : zU := (zua (zua u 24 (upd (u.ar 24) l (s_M_nearestOf u p q cm))) 25 (upd (u.ar 25) l 0))
theorem c_M_beginBase (g : zGt) (d : Nat) (hd : 2 ≤ d) (G : zG) (u : zU) (m : Nat) (h : zMv u m G) (l : Nat) (p : Int32) (q : Int32) (cm : Nat) (hc : u.i 6 = nI cm) (h1 : 1 ≤ cm) (h2 : cm ≤ 24) (hl : l < 26) : zMet g y_M_beginBase b_M_beginBase 4 none [] d 0 0 [.ref m, .int (nI l), .int p, .int q] G (zMq none (t_M_beginBase u l p q cm) u m G) := by
  refine zMet.of (by decide) (Nat.le_of_ble_eq_true rfl) rfl (fun X hX => ?_)
  refine zr_aload_n hX rfl d_M_beginBase_0 ?_
  refine zr_get hX k_M 24 (by decide) q677 rfl h.m rfl d_M_beginBase_1 ?_
  refine zr_iload_n hX rfl d_M_beginBase_4 ?_
  refine zr_aload_n hX rfl d_M_beginBase_5 ?_
  refine zr_iload_n hX rfl d_M_beginBase_6 ?_
  refine zr_iload_n hX rfl d_M_beginBase_7 ?_
  refine zr_pV hX (c_M_nearestOf g (d - 1) (by omega) _ u m h p q cm hc h1 h2) l_M_145 im_M_nearestOf se_M_nearestOf f_M_nearestOf k_M.1 h.m rfl (Nat.le_of_ble_eq_true rfl) (by omega) (Nat.zero_le _) (Nat.zero_le _) d_M_beginBase_8 ?_
  refine zr_iastN hX (h.ar 24 rfl) l rfl (by omega) (by decide) d_M_beginBase_11 ?_
  refine zr_aload_n hX rfl d_M_beginBase_12 ?_
  refine zr_get hX k_M 25 (by decide) q678 rfl (zput_k (zne h.m (h.ar 24 rfl) rfl) h.m) rfl d_M_beginBase_13 ?_
  refine zr_iload_n hX rfl d_M_beginBase_16 ?_
  refine zr_iconst (v := 0) hX rfl d_M_beginBase_17 ?_
  refine zr_iastN hX (zput_k (h.ne 25 24 rfl rfl (by decide)) (h.ar 25 rfl)) l rfl (by omega) (by decide) d_M_beginBase_18 ?_
  exact zr_vret hX d_M_beginBase_19 ⟨rfl, (by unfold t_M_beginBase; exact (zMv.arr (zMv.arr h 24 rfl _) 25 rfl _)), (zMf.arr (zMf.arr zMf.rf 24 rfl rfl _) 25 rfl rfl _), (by unfold t_M_beginBase; exact rfl)⟩
def st_M_joinBase (l c : Nat) (j : Nat) (s : zU) : zU := if ((s.ar 26) ((4096 * l) + j)) = ((s.ar 26) (((4096 * l) + 4096) + j)) then (zua s 26 (upd (s.ar 26) ((4096 * l) + j) ((s.ar 1) ((4096 * c) + j)))) else if ((s.ar 1) ((4096 * c) + j)) = ((s.ar 26) (((4096 * l) + 4096) + j)) then s else if ((s.ar 1) ((4096 * c) + j)) = ((s.ar 26) ((4096 * l) + j)) then s else (zua s 26 (upd (s.ar 26) ((4096 * l) + j) (-2147483648)))
def t_M_joinBase (u : zU) (l : Nat) (c : Nat) : zU := (zfor 4096 (st_M_joinBase l c) u)
theorem c_M_joinBase (g : zGt) (d : Nat) (G : zG) (u : zU) (m : Nat) (h : zMv u m G) (l : Nat) (c : Nat) (hl : l < 25) (hc : c < 24) : zMet g y_M_joinBase b_M_joinBase 7 none [] d 0 0 [.ref m, .int (nI l), .int (nI c)] G (zMq none (t_M_joinBase u l c) u m G) := by
  refine zMet.of (by decide) (Nat.le_of_ble_eq_true rfl) rfl (fun X hX => ?_)
  refine zr_iconst (v := 0) hX rfl d_M_joinBase_0 ?_
  refine zs_istore_n hX (by decide) rfl d_M_joinBase_1 ?_
  have L2 : ∀ j, j ≤ 4096 → ∀ (s : zU) (G_s : zG), s = zfor j (st_M_joinBase l c) u → zMv s m G_s → zMf u m G G_s → s.1 = u.1 → s.2.1 = u.2.1 → zw g X (zMq none (t_M_joinBase u l c) u m G) 2 [some (.ref m), some (.int (nI l)), some (.int (nI c)), some (.int (nI j)), none, none, none] [] G_s 0 0 := by
    refine zup 4096 (fun j hj_s ih_s => ?_)
    intro s G_s hs_s hk_s fk_s ek_s ik_s
    by_cases hlt_s : j < 4096
    · skip
      refine zr_iload_n hX rfl d_M_joinBase_2 ?_
      refine zr_sipush (v := 4096) hX rfl d_M_joinBase_3 ?_
      refine zr_icmp_ge hX (tgt := 113) d_M_joinBase_6 (by decide) (fun h9 => absurd h9 (nI_ge (a := j) (b := 4096) (by omega) (by decide))) (fun _ => ?_)
      refine zr_aload_n hX rfl d_M_joinBase_9 ?_
      refine zr_get hX k_M 26 (by decide) q679 rfl hk_s.m rfl d_M_joinBase_10 ?_
      refine zr_sipush (v := 4096) hX rfl d_M_joinBase_13 ?_
      refine zr_iload_n hX rfl d_M_joinBase_16 ?_
      refine zn_imul (a := 4096) (b := l) hX d_M_joinBase_17 ?_
      refine zr_iload_n hX rfl d_M_joinBase_18 ?_
      refine zn_iadd (a := (4096 * l)) (b := j) hX d_M_joinBase_19 ?_
      refine zr_ialdN hX (hk_s.ar 26 rfl) ((4096 * l) + j) rfl (by omega) (by decide) d_M_joinBase_20 ?_
      refine zs_istore hX (by decide) rfl d_M_joinBase_21 ?_
      refine zr_aload_n hX rfl d_M_joinBase_23 ?_
      refine zr_get hX k_M 1 (by decide) q654 rfl hk_s.m rfl d_M_joinBase_24 ?_
      refine zr_sipush (v := 4096) hX rfl d_M_joinBase_27 ?_
      refine zr_iload_n hX rfl d_M_joinBase_30 ?_
      refine zn_imul (a := 4096) (b := c) hX d_M_joinBase_31 ?_
      refine zr_iload_n hX rfl d_M_joinBase_32 ?_
      refine zn_iadd (a := (4096 * c)) (b := j) hX d_M_joinBase_33 ?_
      refine zr_ialdN hX (hk_s.ar 1 rfl) ((4096 * c) + j) rfl (by omega) (by decide) d_M_joinBase_34 ?_
      refine zs_istore hX (by decide) rfl d_M_joinBase_35 ?_
      refine zr_aload_n hX rfl d_M_joinBase_37 ?_
      refine zr_get hX k_M 26 (by decide) q679 rfl hk_s.m rfl d_M_joinBase_38 ?_
      refine zr_sipush (v := 4096) hX rfl d_M_joinBase_41 ?_
      refine zr_iload_n hX rfl d_M_joinBase_44 ?_
      refine zn_imul (a := 4096) (b := l) hX d_M_joinBase_45 ?_
      refine zr_sipush (v := 4096) hX rfl d_M_joinBase_46 ?_
      refine zn_iadd (a := (4096 * l)) (b := 4096) hX d_M_joinBase_49 ?_
      refine zr_iload_n hX rfl d_M_joinBase_50 ?_
      refine zn_iadd (a := ((4096 * l) + 4096)) (b := j) hX d_M_joinBase_51 ?_
      refine zr_ialdN hX (hk_s.ar 26 rfl) (((4096 * l) + 4096) + j) rfl (by omega) (by decide) d_M_joinBase_52 ?_
      refine zs_istore hX (by decide) rfl d_M_joinBase_53 ?_
      refine zr_iload hX rfl d_M_joinBase_55 ?_
      refine zr_iload hX rfl d_M_joinBase_57 ?_
      refine zr_icmp_ne hX (tgt := 79) d_M_joinBase_59 (by decide) (fun h59 => ?_) (fun h59 => ?_)
      · skip
        refine zr_iload hX rfl d_M_joinBase_79 ?_
        refine zr_iload hX rfl d_M_joinBase_81 ?_
        refine zr_icmp_eq hX (tgt := 107) d_M_joinBase_83 (by decide) (fun h83 => ?_) (fun h83 => ?_)
        · skip
          refine zs_iinc (v := nI (j + 1)) hX rfl (nI_add _ 1) (by decide) rfl d_M_joinBase_107 ?_
          refine zr_goto hX (tgt := 2) (by decide) d_M_joinBase_110 ?_
          refine zw_drop 4 ?_
          refine zw_drop 5 ?_
          refine zw_drop 6 ?_
          exact ih_s hlt_s s _ (by rw [zfor_s, ← hs_s]; unfold st_M_joinBase; rw [if_neg h59]; rw [if_pos h83]) hk_s fk_s ek_s ik_s
        · skip
          refine zr_iload hX rfl d_M_joinBase_86 ?_
          refine zr_iload hX rfl d_M_joinBase_88 ?_
          refine zr_icmp_eq hX (tgt := 107) d_M_joinBase_90 (by decide) (fun h90 => ?_) (fun h90 => ?_)
          · skip
            refine zs_iinc (v := nI (j + 1)) hX rfl (nI_add _ 1) (by decide) rfl d_M_joinBase_107 ?_
            refine zr_goto hX (tgt := 2) (by decide) d_M_joinBase_110 ?_
            refine zw_drop 4 ?_
            refine zw_drop 5 ?_
            refine zw_drop 6 ?_
            exact ih_s hlt_s s _ (by rw [zfor_s, ← hs_s]; unfold st_M_joinBase; rw [if_neg h59]; rw [if_neg h83]; rw [if_pos h90]) hk_s fk_s ek_s ik_s
          · skip
            refine zr_aload_n hX rfl d_M_joinBase_93 ?_
            refine zr_get hX k_M 26 (by decide) q679 rfl hk_s.m rfl d_M_joinBase_94 ?_
            refine zr_sipush (v := 4096) hX rfl d_M_joinBase_97 ?_
            refine zr_iload_n hX rfl d_M_joinBase_100 ?_
            refine zn_imul (a := 4096) (b := l) hX d_M_joinBase_101 ?_
            refine zr_iload_n hX rfl d_M_joinBase_102 ?_
            refine zn_iadd (a := (4096 * l)) (b := j) hX d_M_joinBase_103 ?_
            refine zr_ldc hX q652 d_M_joinBase_104 ?_
            refine zr_iastN hX (hk_s.ar 26 rfl) ((4096 * l) + j) rfl (by omega) (by decide) d_M_joinBase_106 ?_
            refine zs_iinc (v := nI (j + 1)) hX rfl (nI_add _ 1) (by decide) rfl d_M_joinBase_107 ?_
            refine zr_goto hX (tgt := 2) (by decide) d_M_joinBase_110 ?_
            refine zw_drop 4 ?_
            refine zw_drop 5 ?_
            refine zw_drop 6 ?_
            exact ih_s hlt_s (zua s 26 (upd (s.ar 26) ((4096 * l) + j) (-2147483648))) _ (by rw [zfor_s, ← hs_s]; unfold st_M_joinBase; rw [if_neg h59]; rw [if_neg h83]; rw [if_neg h90]) (zMv.arr hk_s 26 rfl _) (zMf.arr fk_s 26 rfl (congrFun ek_s 26) _) ek_s ik_s
      · skip
        refine zr_aload_n hX rfl d_M_joinBase_62 ?_
        refine zr_get hX k_M 26 (by decide) q679 rfl hk_s.m rfl d_M_joinBase_63 ?_
        refine zr_sipush (v := 4096) hX rfl d_M_joinBase_66 ?_
        refine zr_iload_n hX rfl d_M_joinBase_69 ?_
        refine zn_imul (a := 4096) (b := l) hX d_M_joinBase_70 ?_
        refine zr_iload_n hX rfl d_M_joinBase_71 ?_
        refine zn_iadd (a := (4096 * l)) (b := j) hX d_M_joinBase_72 ?_
        refine zr_iload hX rfl d_M_joinBase_73 ?_
        refine zr_iastN hX (hk_s.ar 26 rfl) ((4096 * l) + j) rfl (by omega) (by decide) d_M_joinBase_75 ?_
        refine zr_goto hX (tgt := 107) (by decide) d_M_joinBase_76 ?_
        refine zs_iinc (v := nI (j + 1)) hX rfl (nI_add _ 1) (by decide) rfl d_M_joinBase_107 ?_
        refine zr_goto hX (tgt := 2) (by decide) d_M_joinBase_110 ?_
        refine zw_drop 4 ?_
        refine zw_drop 5 ?_
        refine zw_drop 6 ?_
        exact ih_s hlt_s (zua s 26 (upd (s.ar 26) ((4096 * l) + j) ((s.ar 1) ((4096 * c) + j)))) _ (by rw [zfor_s, ← hs_s]; unfold st_M_joinBase; rw [if_pos h59]) (zMv.arr hk_s 26 rfl _) (zMf.arr fk_s 26 rfl (congrFun ek_s 26) _) ek_s ik_s
    · skip
      have ej_s : j = 4096 := by omega
      rw [ej_s] at hs_s
      refine zr_iload_n hX rfl d_M_joinBase_2 ?_
      refine zr_sipush (v := 4096) hX rfl d_M_joinBase_3 ?_
      refine zr_icmp_ge hX (tgt := 113) d_M_joinBase_6 (by decide) (fun _ => ?_) (fun h9 => absurd h9 (zq_leT (a := 4096) (b := j) (by omega) (by omega)))
      exact zr_vret hX d_M_joinBase_113 ⟨rfl, (by unfold t_M_joinBase; rw [← hs_s]; exact hk_s), fk_s, (by unfold t_M_joinBase; rw [← hs_s]; exact ek_s)⟩
  exact L2 0 (Nat.zero_le _) _ _ rfl h zMf.rf rfl rfl
theorem c_M_branch_bad (g : zGt) (d : Nat) (hd : 1 ≤ d) (G : zG) (u : zU) (m : Nat) (h : zMv u m G) (p : Int32) (q : Int32) (hbad : p < 0 ∨ 3 < p ∨ s_M_isCommit u q = 0) : zMet g y_M_branch b_M_branch 3 none [] d 0 0 [.ref m, .int p, .int q] G (zMq none (zuc u 0 1) u m G) := by
  refine zMet.of (by decide) (Nat.le_of_ble_eq_true rfl) rfl (fun X hX => ?_)
  refine zr_aload_n hX rfl d_M_branch_0 ?_
  refine zr_iload_n hX rfl d_M_branch_1 ?_
  refine zr_if_lt hX (tgt := 18) d_M_branch_2 (by decide) (fun h2 => ?_) (fun h2 => ?_)
  · skip
    refine zr_iconst (v := 1) hX rfl d_M_branch_18 ?_
    refine zr_goto hX (tgt := 36) (by decide) d_M_branch_19 ?_
    refine zr_put hX k_M 0 (by decide) q653 rfl rfl rfl rfl (Nat.le_of_ble_eq_true rfl) h.m d_M_branch_36 ?_
    refine zr_aload_n hX rfl d_M_branch_39 ?_
    refine zr_get hX k_M 0 (by decide) q653 rfl (zput_s _ _ _) rfl d_M_branch_40 ?_
    refine zr_if_le hX (tgt := 47) d_M_branch_43 (by decide) (fun h => absurd h (by decide)) (fun _ => ?_)
    exact zr_vret hX d_M_branch_46 ⟨rfl, (zMv.put h (upd u.2.1 0 1)), (zMf.obj zMf.rf _), rfl⟩
  · skip
    refine zr_iload_n hX rfl d_M_branch_5 ?_
    refine zr_iconst (v := 3) hX rfl d_M_branch_6 ?_
    refine zr_icmp_gt hX (tgt := 18) d_M_branch_7 (by decide) (fun h7 => ?_) (fun h7 => ?_)
    · skip
      refine zr_iconst (v := 1) hX rfl d_M_branch_18 ?_
      refine zr_goto hX (tgt := 36) (by decide) d_M_branch_19 ?_
      refine zr_put hX k_M 0 (by decide) q653 rfl rfl rfl rfl (Nat.le_of_ble_eq_true rfl) h.m d_M_branch_36 ?_
      refine zr_aload_n hX rfl d_M_branch_39 ?_
      refine zr_get hX k_M 0 (by decide) q653 rfl (zput_s _ _ _) rfl d_M_branch_40 ?_
      refine zr_if_le hX (tgt := 47) d_M_branch_43 (by decide) (fun h => absurd h (by decide)) (fun _ => ?_)
      exact zr_vret hX d_M_branch_46 ⟨rfl, (zMv.put h (upd u.2.1 0 1)), (zMf.obj zMf.rf _), rfl⟩
    · skip
      refine zr_aload_n hX rfl d_M_branch_10 ?_
      refine zr_iload_n hX rfl d_M_branch_11 ?_
      refine zr_pV hX (c_M_isCommit g (d - 1) _ u m h q) l_M_93 im_M_isCommit se_M_isCommit f_M_isCommit k_M.1 h.m rfl (Nat.le_of_ble_eq_true rfl) (by omega) (Nat.zero_le _) (Nat.zero_le _) d_M_branch_12 ?_
      refine zr_if_ne hX (tgt := 22) d_M_branch_15 (by decide) (fun h15 => ?_) (fun h15 => ?_)
      · skip
        exact False.elim ((fun z => z.elim h2 (fun z => z.elim h7 h15)) hbad)
      · skip
        refine zr_iconst (v := 1) hX rfl d_M_branch_18 ?_
        refine zr_goto hX (tgt := 36) (by decide) d_M_branch_19 ?_
        refine zr_put hX k_M 0 (by decide) q653 rfl rfl rfl rfl (Nat.le_of_ble_eq_true rfl) h.m d_M_branch_36 ?_
        refine zr_aload_n hX rfl d_M_branch_39 ?_
        refine zr_get hX k_M 0 (by decide) q653 rfl (zput_s _ _ _) rfl d_M_branch_40 ?_
        refine zr_if_le hX (tgt := 47) d_M_branch_43 (by decide) (fun h => absurd h (by decide)) (fun _ => ?_)
        exact zr_vret hX d_M_branch_46 ⟨rfl, (zMv.put h (upd u.2.1 0 1)), (zMf.obj zMf.rf _), rfl⟩
theorem c_M_branch_two (g : zGt) (d : Nat) (hd : 1 ≤ d) (G : zG) (u : zU) (m : Nat) (h : zMv u m G) (p : Nat) (q : Nat) (hp : p < 4) (hth : ¬ u.ar 7 p = 0) (ho0 : ¬ s_M_isCommit u (nI q) = 0) : zMet g y_M_branch b_M_branch 3 none [] d 0 0 [.ref m, .int (nI p), .int (nI q)] G (zMq none (zuc u 0 2) u m G) := by
  refine zMet.of (by decide) (Nat.le_of_ble_eq_true rfl) rfl (fun X hX => ?_)
  refine zr_aload_n hX rfl d_M_branch_0 ?_
  refine zr_iload_n hX rfl d_M_branch_1 ?_
  refine zr_if_lt hX (tgt := 18) d_M_branch_2 (by decide) (fun h9 => absurd h9 (nI_pos (n := p) (by omega))) (fun _ => ?_)
  refine zr_iload_n hX rfl d_M_branch_5 ?_
  refine zr_iconst (v := 3) hX rfl d_M_branch_6 ?_
  refine zr_icmp_gt hX (tgt := 18) d_M_branch_7 (by decide) (fun h9 => absurd h9 (nI_nlt (a := 3) (b := p) (by omega) (by decide))) (fun _ => ?_)
  refine zr_aload_n hX rfl d_M_branch_10 ?_
  refine zr_iload_n hX rfl d_M_branch_11 ?_
  refine zr_pV hX (c_M_isCommit g (d - 1) _ u m h (nI q)) l_M_93 im_M_isCommit se_M_isCommit f_M_isCommit k_M.1 h.m rfl (Nat.le_of_ble_eq_true rfl) (by omega) (Nat.zero_le _) (Nat.zero_le _) d_M_branch_12 ?_
  refine zr_if_ne hX (tgt := 22) d_M_branch_15 (by decide) (fun _ => ?_) (fun h9 => absurd h9 ho0)
  refine zr_aload_n hX rfl d_M_branch_22 ?_
  refine zr_get hX k_M 7 (by decide) q660 rfl h.m rfl d_M_branch_23 ?_
  refine zr_iload_n hX rfl d_M_branch_26 ?_
  refine zr_zaldN hX (h.ar 7 rfl) p rfl (by omega) (by decide) d_M_branch_27 ?_
  refine zr_if_eq hX (tgt := 35) d_M_branch_28 (by decide) (fun h9 => absurd h9 hth) (fun _ => ?_)
  refine zr_iconst (v := 2) hX rfl d_M_branch_31 ?_
  refine zr_goto hX (tgt := 36) (by decide) d_M_branch_32 ?_
  refine zr_put hX k_M 0 (by decide) q653 rfl rfl rfl rfl (Nat.le_of_ble_eq_true rfl) h.m d_M_branch_36 ?_
  refine zr_aload_n hX rfl d_M_branch_39 ?_
  refine zr_get hX k_M 0 (by decide) q653 rfl (zput_s _ _ _) rfl d_M_branch_40 ?_
  refine zr_if_le hX (tgt := 47) d_M_branch_43 (by decide) (fun h => absurd h (by decide)) (fun _ => ?_)
  exact zr_vret hX d_M_branch_46 ⟨rfl, (zMv.put h (upd u.2.1 0 2)), (zMf.obj zMf.rf _), rfl⟩
def t_M_branch (u : zU) (p : Nat) (q : Nat) : zU := (zfor 4096 (st_M_become (24 + p) q) (zua (zua (zua (zua (zuc u 0 0) 7 (upd (u.ar 7) p 1)) 8 (upd (u.ar 8) p (nI q))) 9 (upd (u.ar 9) p (-1))) 14 (upd (u.ar 14) p 0)))
theorem c_M_branch_ok (g : zGt) (d : Nat) (hd : 1 ≤ d) (G : zG) (u : zU) (m : Nat) (h : zMv u m G) (p : Nat) (q : Nat) (hp : p < 4) (hq : q < 24) (hth : u.ar 7 p = 0) (ho0 : ¬ s_M_isCommit u (nI q) = 0) : zMet g y_M_branch b_M_branch 3 none [] d 0 0 [.ref m, .int (nI p), .int (nI q)] G (zMq none (t_M_branch u p q) u m G) := by
  refine zMet.of (by decide) (Nat.le_of_ble_eq_true rfl) rfl (fun X hX => ?_)
  refine zr_aload_n hX rfl d_M_branch_0 ?_
  refine zr_iload_n hX rfl d_M_branch_1 ?_
  refine zr_if_lt hX (tgt := 18) d_M_branch_2 (by decide) (fun h9 => absurd h9 (nI_pos (n := p) (by omega))) (fun _ => ?_)
  refine zr_iload_n hX rfl d_M_branch_5 ?_
  refine zr_iconst (v := 3) hX rfl d_M_branch_6 ?_
  refine zr_icmp_gt hX (tgt := 18) d_M_branch_7 (by decide) (fun h9 => absurd h9 (nI_nlt (a := 3) (b := p) (by omega) (by decide))) (fun _ => ?_)
  refine zr_aload_n hX rfl d_M_branch_10 ?_
  refine zr_iload_n hX rfl d_M_branch_11 ?_
  refine zr_pV hX (c_M_isCommit g (d - 1) _ u m h (nI q)) l_M_93 im_M_isCommit se_M_isCommit f_M_isCommit k_M.1 h.m rfl (Nat.le_of_ble_eq_true rfl) (by omega) (Nat.zero_le _) (Nat.zero_le _) d_M_branch_12 ?_
  refine zr_if_ne hX (tgt := 22) d_M_branch_15 (by decide) (fun _ => ?_) (fun h9 => absurd h9 ho0)
  refine zr_aload_n hX rfl d_M_branch_22 ?_
  refine zr_get hX k_M 7 (by decide) q660 rfl h.m rfl d_M_branch_23 ?_
  refine zr_iload_n hX rfl d_M_branch_26 ?_
  refine zr_zaldN hX (h.ar 7 rfl) p rfl (by omega) (by decide) d_M_branch_27 ?_
  refine zr_if_eq hX (tgt := 35) d_M_branch_28 (by decide) (fun _ => ?_) (fun h9 => absurd h9 (not_not_intro hth))
  refine zr_iconst (v := 0) hX rfl d_M_branch_35 ?_
  refine zr_put hX k_M 0 (by decide) q653 rfl rfl rfl rfl (Nat.le_of_ble_eq_true rfl) h.m d_M_branch_36 ?_
  refine zr_aload_n hX rfl d_M_branch_39 ?_
  refine zr_get hX k_M 0 (by decide) q653 rfl (zput_s _ _ _) rfl d_M_branch_40 ?_
  refine zr_if_le hX (tgt := 47) d_M_branch_43 (by decide) (fun _ => ?_) (fun h => absurd h (by decide))
  refine zr_aload_n hX rfl d_M_branch_47 ?_
  refine zr_get hX k_M 7 (by decide) q660 rfl (zput_s _ _ _) rfl d_M_branch_48 ?_
  refine zr_iload_n hX rfl d_M_branch_51 ?_
  refine zr_iconst (v := 1) hX rfl d_M_branch_52 ?_
  refine zr_zastN hX (zput_k (zne (h.ar 7 rfl) h.m rfl) (h.ar 7 rfl)) p rfl (by omega) (by decide) rfl d_M_branch_53 ?_
  refine zr_aload_n hX rfl d_M_branch_54 ?_
  refine zr_get hX k_M 8 (by decide) q661 rfl (zput_k (zne h.m (h.ar 7 rfl) rfl) (zput_s _ _ _)) rfl d_M_branch_55 ?_
  refine zr_iload_n hX rfl d_M_branch_58 ?_
  refine zr_iload_n hX rfl d_M_branch_59 ?_
  refine zr_iastN hX (zput_k (h.ne 8 7 rfl rfl (by decide)) (zput_k (zne (h.ar 8 rfl) h.m rfl) (h.ar 8 rfl))) p rfl (by omega) (by decide) d_M_branch_60 ?_
  refine zr_aload_n hX rfl d_M_branch_61 ?_
  refine zr_get hX k_M 9 (by decide) q662 rfl (zput_k (zne h.m (h.ar 8 rfl) rfl) (zput_k (zne h.m (h.ar 7 rfl) rfl) (zput_s _ _ _))) rfl d_M_branch_62 ?_
  refine zr_iload_n hX rfl d_M_branch_65 ?_
  refine zr_iconst (v := (-1)) hX rfl d_M_branch_66 ?_
  refine zr_iastN hX (zput_k (h.ne 9 8 rfl rfl (by decide)) (zput_k (h.ne 9 7 rfl rfl (by decide)) (zput_k (zne (h.ar 9 rfl) h.m rfl) (h.ar 9 rfl)))) p rfl (by omega) (by decide) d_M_branch_67 ?_
  refine zr_aload_n hX rfl d_M_branch_68 ?_
  refine zr_get hX k_M 14 (by decide) q667 rfl (zput_k (zne h.m (h.ar 9 rfl) rfl) (zput_k (zne h.m (h.ar 8 rfl) rfl) (zput_k (zne h.m (h.ar 7 rfl) rfl) (zput_s _ _ _)))) rfl d_M_branch_69 ?_
  refine zr_iload_n hX rfl d_M_branch_72 ?_
  refine zr_iconst (v := 0) hX rfl d_M_branch_73 ?_
  refine zr_iastN hX (zput_k (h.ne 14 9 rfl rfl (by decide)) (zput_k (h.ne 14 8 rfl rfl (by decide)) (zput_k (h.ne 14 7 rfl rfl (by decide)) (zput_k (zne (h.ar 14 rfl) h.m rfl) (h.ar 14 rfl))))) p rfl (by omega) (by decide) d_M_branch_74 ?_
  refine zr_aload_n hX rfl d_M_branch_75 ?_
  refine zr_bipush (v := 24) hX rfl d_M_branch_76 ?_
  refine zr_iload_n hX rfl d_M_branch_78 ?_
  refine zn_iadd (a := 24) (b := p) hX d_M_branch_79 ?_
  refine zr_iload_n hX rfl d_M_branch_80 ?_
  refine zr_mV0 hX (c_M_become g (d - 1) _ (zua (zua (zua (zua (zuc u 0 0) 7 (upd (u.ar 7) p 1)) 8 (upd (u.ar 8) p (nI q))) 9 (upd (u.ar 9) p (-1))) 14 (upd (u.ar 14) p 0)) m (zMv.arr (zMv.arr (zMv.arr (zMv.arr (zMv.put h (upd u.2.1 0 0)) 7 rfl _) 8 rfl _) 9 rfl _) 14 rfl _) (24 + p) q (by omega) (by omega)) l_M_105 im_M_become se_M_become f_M_become rfl (Nat.le_of_ble_eq_true rfl) (by omega) (Nat.zero_le _) (Nat.zero_le _) d_M_branch_81 (Nat.zero_le _) (Nat.zero_le _) (zMv.m (zMv.arr (zMv.arr (zMv.arr (zMv.arr (zMv.put h (upd u.2.1 0 0)) 7 rfl _) 8 rfl _) 9 rfl _) 14 rfl _)) (fun G81 hk81 fk81 ek81 => ?_)
  obtain ⟨u81, hu81⟩ : ∃ w, w = (zfor 4096 (st_M_become (24 + p) q) (zua (zua (zua (zua (zuc u 0 0) 7 (upd (u.ar 7) p 1)) 8 (upd (u.ar 8) p (nI q))) 9 (upd (u.ar 9) p (-1))) 14 (upd (u.ar 14) p 0))) := ⟨_, rfl⟩
  rw [← hu81] at hk81 ek81
  exact zr_vret hX d_M_branch_84 ⟨rfl, (by unfold t_M_branch; rw [← hu81]; exact hk81), (zMf.tr (zMf.arr (zMf.arr (zMf.arr (zMf.arr (zMf.obj zMf.rf _) 7 rfl rfl _) 8 rfl rfl _) 9 rfl rfl _) 14 rfl rfl _) fk81 rfl), (by unfold t_M_branch; rw [← hu81]; exact (Eq.trans ek81 rfl))⟩
theorem c_M_commit_bad (g : zGt) (d : Nat) (hd : 1 ≤ d) (G : zG) (u : zU) (m : Nat) (h : zMv u m G) (p : Int32) (hbad : s_M_isBranch u p = 0) : zMet g y_M_commit b_M_commit 4 (some .int) [] d 0 0 [.ref m, .int p] G (zMq (some (.int 0)) (zuc u 0 1) u m G) := by
  refine zMet.of (by decide) (Nat.le_of_ble_eq_true rfl) rfl (fun X hX => ?_)
  refine zr_aload_n hX rfl d_M_commit_0 ?_
  refine zr_aload_n hX rfl d_M_commit_1 ?_
  refine zr_iload_n hX rfl d_M_commit_2 ?_
  refine zr_pV hX (c_M_isBranch g (d - 1) _ u m h p) l_M_97 im_M_isBranch se_M_isBranch f_M_isBranch k_M.1 h.m rfl (Nat.le_of_ble_eq_true rfl) (by omega) (Nat.zero_le _) (Nat.zero_le _) d_M_commit_3 ?_
  refine zr_if_ne hX (tgt := 13) d_M_commit_6 (by decide) (fun h9 => absurd h9 (not_not_intro hbad)) (fun _ => ?_)
  refine zr_iconst (v := 1) hX rfl d_M_commit_9 ?_
  refine zr_goto hX (tgt := 43) (by decide) d_M_commit_10 ?_
  refine zr_put hX k_M 0 (by decide) q653 rfl rfl rfl rfl (Nat.le_of_ble_eq_true rfl) h.m d_M_commit_43 ?_
  refine zr_aload_n hX rfl d_M_commit_46 ?_
  refine zr_get hX k_M 0 (by decide) q653 rfl (zput_s _ _ _) rfl d_M_commit_47 ?_
  refine zr_if_le hX (tgt := 55) d_M_commit_50 (by decide) (fun h => absurd h (by decide)) (fun _ => ?_)
  refine zr_iconst (v := 0) hX rfl d_M_commit_53 ?_
  exact zr_iret hX d_M_commit_54 ⟨rfl, (zMv.put h (upd u.2.1 0 1)), (zMf.obj zMf.rf _), rfl⟩
theorem c_M_commit_two (g : zGt) (d : Nat) (hdd : 1 ≤ d) (G : zG) (u : zU) (m : Nat) (h : zMv u m G) (p : Nat) (hp : p < 4) (ho0 : ¬ s_M_isBranch u (nI p) = 0) (hx : Nat) (hhd : u.ar 8 p = nI hx) (hh : hx < 24) (e9 : Nat) (he : u.ar 14 p = nI e9) (hl : e9 ≤ 4096) (hbad : s_M_isChanged u p hx = 0 ∨ 0 < zfor e9 (st_M_unsettled u p) 0 ∨ u.i 6 = 24) : zMet g y_M_commit b_M_commit 4 (some .int) [] d 0 0 [.ref m, .int (nI p)] G (zMq (some (.int 0)) (zuc u 0 2) u m G) := by
  refine zMet.of (by decide) (Nat.le_of_ble_eq_true rfl) rfl (fun X hX => ?_)
  refine zr_aload_n hX rfl d_M_commit_0 ?_
  refine zr_aload_n hX rfl d_M_commit_1 ?_
  refine zr_iload_n hX rfl d_M_commit_2 ?_
  refine zr_pV hX (c_M_isBranch g (d - 1) _ u m h (nI p)) l_M_97 im_M_isBranch se_M_isBranch f_M_isBranch k_M.1 h.m rfl (Nat.le_of_ble_eq_true rfl) (by omega) (Nat.zero_le _) (Nat.zero_le _) d_M_commit_3 ?_
  refine zr_if_ne hX (tgt := 13) d_M_commit_6 (by decide) (fun _ => ?_) (fun h9 => absurd h9 ho0)
  refine zr_aload_n hX rfl d_M_commit_13 ?_
  refine zr_iload_n hX rfl d_M_commit_14 ?_
  refine zr_mV1 hX (c_M_isChanged g (d - 1) _ u m h p hx (by omega) hhd hh) l_M_135 im_M_isChanged se_M_isChanged f_M_isChanged rfl (Nat.le_of_ble_eq_true rfl) (by omega) (Nat.zero_le _) (Nat.zero_le _) d_M_commit_15 (Nat.zero_le _) (Nat.zero_le _) (zMv.m h) (fun G15 hk15 fk15 ek15 => ?_)
  refine zr_if_eq hX (tgt := 38) d_M_commit_18 (by decide) (fun h18 => ?_) (fun h18 => ?_)
  · skip
    refine zr_iconst (v := 2) hX rfl d_M_commit_38 ?_
    refine zr_goto hX (tgt := 43) (by decide) d_M_commit_39 ?_
    refine zr_put hX k_M 0 (by decide) q653 rfl rfl rfl rfl (Nat.le_of_ble_eq_true rfl) hk15.m d_M_commit_43 ?_
    refine zr_aload_n hX rfl d_M_commit_46 ?_
    refine zr_get hX k_M 0 (by decide) q653 rfl (zput_s _ _ _) rfl d_M_commit_47 ?_
    refine zr_if_le hX (tgt := 55) d_M_commit_50 (by decide) (fun h => absurd h (by decide)) (fun _ => ?_)
    refine zr_iconst (v := 0) hX rfl d_M_commit_53 ?_
    exact zr_iret hX d_M_commit_54 ⟨rfl, (zMv.put hk15 (upd u.2.1 0 2)), (zMf.obj (zMf.tr zMf.rf fk15 rfl) _), rfl⟩
  · skip
    refine zr_aload_n hX rfl d_M_commit_21 ?_
    refine zr_iload_n hX rfl d_M_commit_22 ?_
    refine zr_mV1 hX (c_M_unsettled g (d - 1) _ u m hk15 p (by omega) e9 he hl) l_M_138 im_M_unsettled se_M_unsettled f_M_unsettled rfl (Nat.le_of_ble_eq_true rfl) (by omega) (Nat.zero_le _) (Nat.zero_le _) d_M_commit_23 (Nat.zero_le _) (Nat.zero_le _) (zMv.m hk15) (fun G23 hk23 fk23 ek23 => ?_)
    refine zr_if_gt hX (tgt := 38) d_M_commit_26 (by decide) (fun h26 => ?_) (fun h26 => ?_)
    · skip
      refine zr_iconst (v := 2) hX rfl d_M_commit_38 ?_
      refine zr_goto hX (tgt := 43) (by decide) d_M_commit_39 ?_
      refine zr_put hX k_M 0 (by decide) q653 rfl rfl rfl rfl (Nat.le_of_ble_eq_true rfl) hk23.m d_M_commit_43 ?_
      refine zr_aload_n hX rfl d_M_commit_46 ?_
      refine zr_get hX k_M 0 (by decide) q653 rfl (zput_s _ _ _) rfl d_M_commit_47 ?_
      refine zr_if_le hX (tgt := 55) d_M_commit_50 (by decide) (fun h => absurd h (by decide)) (fun _ => ?_)
      refine zr_iconst (v := 0) hX rfl d_M_commit_53 ?_
      exact zr_iret hX d_M_commit_54 ⟨rfl, (zMv.put hk23 (upd u.2.1 0 2)), (zMf.obj (zMf.tr (zMf.tr zMf.rf fk15 rfl) fk23 (Eq.trans ek15 rfl)) _), rfl⟩
    · skip
      refine zr_aload_n hX rfl d_M_commit_29 ?_
      refine zr_get hX k_M 6 (by decide) q659 rfl hk23.m rfl d_M_commit_30 ?_
      refine zr_bipush (v := 24) hX rfl d_M_commit_33 ?_
      refine zr_icmp_ne hX (tgt := 42) d_M_commit_35 (by decide) (fun h35 => ?_) (fun h35 => ?_)
      · skip
        exact False.elim ((fun z => z.elim h18 (fun z => z.elim h26 h35)) hbad)
      · skip
        refine zr_iconst (v := 2) hX rfl d_M_commit_38 ?_
        refine zr_goto hX (tgt := 43) (by decide) d_M_commit_39 ?_
        refine zr_put hX k_M 0 (by decide) q653 rfl rfl rfl rfl (Nat.le_of_ble_eq_true rfl) hk23.m d_M_commit_43 ?_
        refine zr_aload_n hX rfl d_M_commit_46 ?_
        refine zr_get hX k_M 0 (by decide) q653 rfl (zput_s _ _ _) rfl d_M_commit_47 ?_
        refine zr_if_le hX (tgt := 55) d_M_commit_50 (by decide) (fun h => absurd h (by decide)) (fun _ => ?_)
        refine zr_iconst (v := 0) hX rfl d_M_commit_53 ?_
        exact zr_iret hX d_M_commit_54 ⟨rfl, (zMv.put hk23 (upd u.2.1 0 2)), (zMf.obj (zMf.tr (zMf.tr zMf.rf fk15 rfl) fk23 (Eq.trans ek15 rfl)) _), rfl⟩
def st_M_commit (p cm : Nat) (j : Nat) (s : zU) : zU := if ((s.ar 2) (4096 * (24 + p) + j)) < 98304 then s else (zua s 2 (upd (s.ar 2) (4096 * (24 + p) + j) ((nI (4096 * cm)) + (((s.ar 2) (4096 * (24 + p) + j)) - ((s.ar 2) (4096 * (24 + p) + j)) / 4096 * 4096))))
def t_M_commit (u : zU) (p cm : Nat) : zU := (zua (zua (zua (zua (zua (zfor 4096 (st_M_become cm (24 + p)) (zfor 4096 (st_M_commit p cm) (zuc (zuc u 0 0) 6 (nI (cm + 1))))) 4 (upd ((zfor 4096 (st_M_become cm (24 + p)) (zfor 4096 (st_M_commit p cm) (zuc (zuc u 0 0) 6 (nI (cm + 1))))).ar 4) cm (((zfor 4096 (st_M_become cm (24 + p)) (zfor 4096 (st_M_commit p cm) (zuc (zuc u 0 0) 6 (nI (cm + 1))))).ar 8) p))) 5 (upd ((zfor 4096 (st_M_become cm (24 + p)) (zfor 4096 (st_M_commit p cm) (zuc (zuc u 0 0) 6 (nI (cm + 1))))).ar 5) cm (((zfor 4096 (st_M_become cm (24 + p)) (zfor 4096 (st_M_commit p cm) (zuc (zuc u 0 0) 6 (nI (cm + 1))))).ar 9) p))) 8 (upd ((zfor 4096 (st_M_become cm (24 + p)) (zfor 4096 (st_M_commit p cm) (zuc (zuc u 0 0) 6 (nI (cm + 1))))).ar 8) p (nI cm))) 9 (upd ((zfor 4096 (st_M_become cm (24 + p)) (zfor 4096 (st_M_commit p cm) (zuc (zuc u 0 0) 6 (nI (cm + 1))))).ar 9) p (-1))) 14 (upd ((zfor 4096 (st_M_become cm (24 + p)) (zfor 4096 (st_M_commit p cm) (zuc (zuc u 0 0) 6 (nI (cm + 1))))).ar 14) p 0))
def s_M_commit (u : zU) (p cm : Nat) : Int32 := nI cm
theorem c_M_commit_ok (g : zGt) (d : Nat) (hdd : 1 ≤ d) (G : zG) (u : zU) (m : Nat) (h : zMv u m G) (p : Nat) (hp : p < 4) (ho0 : ¬ s_M_isBranch u (nI p) = 0) (hx : Nat) (hhd : u.ar 8 p = nI hx) (hh : hx < 24) (e9 : Nat) (he : u.ar 14 p = nI e9) (hl : e9 ≤ 4096) (cm : Nat) (hc : u.i 6 = nI cm) (h2 : cm ≤ 24) (ho1 : ¬ s_M_isChanged u p hx = 0) (ho2 : ¬ 0 < zfor e9 (st_M_unsettled u p) 0) (ho3 : cm < 24) : zMet g y_M_commit b_M_commit 4 (some .int) [] d 0 0 [.ref m, .int (nI p)] G (zMq (some (.int (s_M_commit u p cm))) (t_M_commit u p cm) u m G) := by
  refine zMet.of (by decide) (Nat.le_of_ble_eq_true rfl) rfl (fun X hX => ?_)
  refine zr_aload_n hX rfl d_M_commit_0 ?_
  refine zr_aload_n hX rfl d_M_commit_1 ?_
  refine zr_iload_n hX rfl d_M_commit_2 ?_
  refine zr_pV hX (c_M_isBranch g (d - 1) _ u m h (nI p)) l_M_97 im_M_isBranch se_M_isBranch f_M_isBranch k_M.1 h.m rfl (Nat.le_of_ble_eq_true rfl) (by omega) (Nat.zero_le _) (Nat.zero_le _) d_M_commit_3 ?_
  refine zr_if_ne hX (tgt := 13) d_M_commit_6 (by decide) (fun _ => ?_) (fun h9 => absurd h9 ho0)
  refine zr_aload_n hX rfl d_M_commit_13 ?_
  refine zr_iload_n hX rfl d_M_commit_14 ?_
  refine zr_mV1 hX (c_M_isChanged g (d - 1) _ u m h p hx (by omega) hhd hh) l_M_135 im_M_isChanged se_M_isChanged f_M_isChanged rfl (Nat.le_of_ble_eq_true rfl) (by omega) (Nat.zero_le _) (Nat.zero_le _) d_M_commit_15 (Nat.zero_le _) (Nat.zero_le _) (zMv.m h) (fun G15 hk15 fk15 ek15 => ?_)
  refine zr_if_eq hX (tgt := 38) d_M_commit_18 (by decide) (fun h9 => absurd h9 ho1) (fun _ => ?_)
  refine zr_aload_n hX rfl d_M_commit_21 ?_
  refine zr_iload_n hX rfl d_M_commit_22 ?_
  refine zr_mV1 hX (c_M_unsettled g (d - 1) _ u m hk15 p (by omega) e9 he hl) l_M_138 im_M_unsettled se_M_unsettled f_M_unsettled rfl (Nat.le_of_ble_eq_true rfl) (by omega) (Nat.zero_le _) (Nat.zero_le _) d_M_commit_23 (Nat.zero_le _) (Nat.zero_le _) (zMv.m hk15) (fun G23 hk23 fk23 ek23 => ?_)
  refine zr_if_gt hX (tgt := 38) d_M_commit_26 (by decide) (fun h9 => absurd h9 ho2) (fun _ => ?_)
  refine zr_aload_n hX rfl d_M_commit_29 ?_
  refine zr_get hX k_M 6 (by decide) q659 rfl hk23.m (zml6 hc) d_M_commit_30 ?_
  refine zr_bipush (v := 24) hX rfl d_M_commit_33 ?_
  refine zr_icmp_ne hX (tgt := 42) d_M_commit_35 (by decide) (fun _ => ?_) (fun h9 => absurd h9 (zq_eqF (a := cm) (b := 24) (by omega) (by omega) (by decide)))
  refine zr_iconst (v := 0) hX rfl d_M_commit_42 ?_
  refine zr_put hX k_M 0 (by decide) q653 rfl rfl rfl rfl (Nat.le_of_ble_eq_true rfl) hk23.m d_M_commit_43 ?_
  refine zr_aload_n hX rfl d_M_commit_46 ?_
  refine zr_get hX k_M 0 (by decide) q653 rfl (zput_s _ _ _) rfl d_M_commit_47 ?_
  refine zr_if_le hX (tgt := 55) d_M_commit_50 (by decide) (fun _ => ?_) (fun h => absurd h (by decide))
  refine zr_aload_n hX rfl d_M_commit_55 ?_
  refine zr_get hX k_M 6 (by decide) q659 rfl (zput_s _ _ _) (zml6 hc) d_M_commit_56 ?_
  refine zs_istore_n hX (by decide) rfl d_M_commit_59 ?_
  refine zr_aload_n hX rfl d_M_commit_60 ?_
  refine zr_dup hX rfl d_M_commit_61 ?_
  refine zr_get hX k_M 6 (by decide) q659 rfl (zput_s _ _ _) (zml6 hc) d_M_commit_62 ?_
  refine zr_iconst (v := 1) hX rfl d_M_commit_65 ?_
  refine zn_iadd (a := cm) (b := 1) hX d_M_commit_66 ?_
  refine zr_put hX k_M 6 (by decide) q659 rfl rfl rfl rfl (Nat.le_of_ble_eq_true rfl) (zput_s _ _ _) d_M_commit_67 ?_
  refine zr_sipush (v := 4096) hX rfl d_M_commit_70 ?_
  refine zr_bipush (v := 24) hX rfl d_M_commit_73 ?_
  refine zr_iload_n hX rfl d_M_commit_75 ?_
  refine zn_iadd (a := 24) (b := p) hX d_M_commit_76 ?_
  refine zn_imul (a := 4096) (b := (24 + p)) hX d_M_commit_77 ?_
  refine zs_istore_n hX (by decide) rfl d_M_commit_78 ?_
  have L79 : ∀ j, j ≤ 4096 → ∀ (s : zU) (G_s : zG), s = zfor j (st_M_commit p cm) (zuc (zuc u 0 0) 6 (nI (cm + 1))) → zMv s m G_s → zMf u m G G_s → s.1 = u.1 → s.2.1 = (zuc (zuc u 0 0) 6 (nI (cm + 1))).2.1 → zw g X (zMq (some (.int (s_M_commit u p cm))) (t_M_commit u p cm) u m G) 79 [some (.ref m), some (.int (nI p)), some (.int (nI cm)), some (.int (nI (4096 * (24 + p) + j)))] [] G_s 0 0 := by
    refine zup 4096 (fun j hj_s ih_s => ?_)
    intro s G_s hs_s hk_s fk_s ek_s ik_s
    by_cases hlt_s : j < 4096
    · skip
      refine zr_iload_n hX rfl d_M_commit_79 ?_
      refine zr_sipush (v := 4096) hX rfl d_M_commit_80 ?_
      refine zr_bipush (v := 24) hX rfl d_M_commit_83 ?_
      refine zr_iload_n hX rfl d_M_commit_85 ?_
      refine zn_iadd (a := 24) (b := p) hX d_M_commit_86 ?_
      refine zn_imul (a := 4096) (b := (24 + p)) hX d_M_commit_87 ?_
      refine zr_sipush (v := 4096) hX rfl d_M_commit_88 ?_
      refine zn_iadd (a := (4096 * (24 + p))) (b := 4096) hX d_M_commit_91 ?_
      refine zr_icmp_ge hX (tgt := 134) d_M_commit_92 (by decide) (fun h9 => absurd h9 (nI_ge (a := (4096 * (24 + p) + j)) (b := ((4096 * (24 + p)) + 4096)) (by omega) (by omega))) (fun _ => ?_)
      refine zr_aload_n hX rfl d_M_commit_95 ?_
      refine zr_get hX k_M 2 (by decide) q655 rfl hk_s.m rfl d_M_commit_96 ?_
      refine zr_iload_n hX rfl d_M_commit_99 ?_
      refine zr_ialdN hX (hk_s.ar 2 rfl) (4096 * (24 + p) + j) rfl (by omega) (by decide) d_M_commit_100 ?_
      refine zr_ldc hX q793 d_M_commit_101 ?_
      refine zr_icmp_lt hX (tgt := 128) d_M_commit_103 (by decide) (fun h103 => ?_) (fun h103 => ?_)
      · skip
        refine zs_iinc (v := nI ((4096 * (24 + p) + j) + 1)) hX rfl (nI_add _ 1) (by decide) rfl d_M_commit_128 ?_
        refine zr_goto hX (tgt := 79) (by decide) d_M_commit_131 ?_
        exact ih_s hlt_s s _ (by rw [zfor_s, ← hs_s]; unfold st_M_commit; rw [if_pos h103]) hk_s fk_s ek_s ik_s
      · skip
        refine zr_aload_n hX rfl d_M_commit_106 ?_
        refine zr_get hX k_M 2 (by decide) q655 rfl hk_s.m rfl d_M_commit_107 ?_
        refine zr_iload_n hX rfl d_M_commit_110 ?_
        refine zr_sipush (v := 4096) hX rfl d_M_commit_111 ?_
        refine zr_iload_n hX rfl d_M_commit_114 ?_
        refine zn_imul (a := 4096) (b := cm) hX d_M_commit_115 ?_
        refine zr_aload_n hX rfl d_M_commit_116 ?_
        refine zr_get hX k_M 2 (by decide) q655 rfl hk_s.m rfl d_M_commit_117 ?_
        refine zr_iload_n hX rfl d_M_commit_120 ?_
        refine zr_ialdN hX (hk_s.ar 2 rfl) (4096 * (24 + p) + j) rfl (by omega) (by decide) d_M_commit_121 ?_
        refine zr_sipush (v := 4096) hX rfl d_M_commit_122 ?_
        refine zr_irem hX (by decide) d_M_commit_125 ?_
        refine zr_iadd hX d_M_commit_126 ?_
        refine zr_iastN hX (hk_s.ar 2 rfl) (4096 * (24 + p) + j) rfl (by omega) (by decide) d_M_commit_127 ?_
        refine zs_iinc (v := nI ((4096 * (24 + p) + j) + 1)) hX rfl (nI_add _ 1) (by decide) rfl d_M_commit_128 ?_
        refine zr_goto hX (tgt := 79) (by decide) d_M_commit_131 ?_
        exact ih_s hlt_s (zua s 2 (upd (s.ar 2) (4096 * (24 + p) + j) ((nI (4096 * cm)) + (((s.ar 2) (4096 * (24 + p) + j)) - ((s.ar 2) (4096 * (24 + p) + j)) / 4096 * 4096)))) _ (by rw [zfor_s, ← hs_s]; unfold st_M_commit; rw [if_neg h103]) (zMv.arr hk_s 2 rfl _) (zMf.arr fk_s 2 rfl (congrFun ek_s 2) _) ek_s ik_s
    · skip
      have ej_s : j = 4096 := by omega
      rw [ej_s] at hs_s
      refine zr_iload_n hX rfl d_M_commit_79 ?_
      refine zr_sipush (v := 4096) hX rfl d_M_commit_80 ?_
      refine zr_bipush (v := 24) hX rfl d_M_commit_83 ?_
      refine zr_iload_n hX rfl d_M_commit_85 ?_
      refine zn_iadd (a := 24) (b := p) hX d_M_commit_86 ?_
      refine zn_imul (a := 4096) (b := (24 + p)) hX d_M_commit_87 ?_
      refine zr_sipush (v := 4096) hX rfl d_M_commit_88 ?_
      refine zn_iadd (a := (4096 * (24 + p))) (b := 4096) hX d_M_commit_91 ?_
      refine zr_icmp_ge hX (tgt := 134) d_M_commit_92 (by decide) (fun _ => ?_) (fun h9 => absurd h9 (zq_leT (a := ((4096 * (24 + p)) + 4096)) (b := (4096 * (24 + p) + j)) (by omega) (by omega)))
      refine zr_aload_n hX rfl d_M_commit_134 ?_
      refine zr_iload_n hX rfl d_M_commit_135 ?_
      refine zr_bipush (v := 24) hX rfl d_M_commit_136 ?_
      refine zr_iload_n hX rfl d_M_commit_138 ?_
      refine zn_iadd (a := 24) (b := p) hX d_M_commit_139 ?_
      refine zr_mV0 hX (c_M_become g (d - 1) _ s m hk_s cm (24 + p) (by omega) (by omega)) l_M_105 im_M_become se_M_become f_M_become rfl (Nat.le_of_ble_eq_true rfl) (by omega) (Nat.zero_le _) (Nat.zero_le _) d_M_commit_140 (Nat.zero_le _) (Nat.zero_le _) (zMv.m hk_s) (fun G140 hk140 fk140 ek140 => ?_)
      obtain ⟨u140, hu140⟩ : ∃ w, w = (zfor 4096 (st_M_become cm (24 + p)) s) := ⟨_, rfl⟩
      rw [← hu140] at hk140 ek140
      refine zr_aload_n hX rfl d_M_commit_143 ?_
      refine zr_get hX k_M 4 (by decide) q657 rfl hk140.m rfl d_M_commit_144 ?_
      refine zr_iload_n hX rfl d_M_commit_147 ?_
      refine zr_aload_n hX rfl d_M_commit_148 ?_
      refine zr_get hX k_M 8 (by decide) q661 rfl hk140.m rfl d_M_commit_149 ?_
      refine zr_iload_n hX rfl d_M_commit_152 ?_
      refine zr_ialdN hX (hk140.ar 8 rfl) p rfl (by omega) (by decide) d_M_commit_153 ?_
      refine zr_iastN hX (hk140.ar 4 rfl) cm rfl (by omega) (by decide) d_M_commit_154 ?_
      refine zr_aload_n hX rfl d_M_commit_155 ?_
      refine zr_get hX k_M 5 (by decide) q658 rfl (zput_k (zne hk140.m (hk140.ar 4 rfl) rfl) hk140.m) rfl d_M_commit_156 ?_
      refine zr_iload_n hX rfl d_M_commit_159 ?_
      refine zr_aload_n hX rfl d_M_commit_160 ?_
      refine zr_get hX k_M 9 (by decide) q662 rfl (zput_k (zne hk140.m (hk140.ar 4 rfl) rfl) hk140.m) rfl d_M_commit_161 ?_
      refine zr_iload_n hX rfl d_M_commit_164 ?_
      refine zr_ialdN hX (zput_k (hk140.ne 9 4 rfl rfl (by decide)) (hk140.ar 9 rfl)) p rfl (by omega) (by decide) d_M_commit_165 ?_
      refine zr_iastN hX (zput_k (hk140.ne 5 4 rfl rfl (by decide)) (hk140.ar 5 rfl)) cm rfl (by omega) (by decide) d_M_commit_166 ?_
      refine zr_aload_n hX rfl d_M_commit_167 ?_
      refine zr_get hX k_M 8 (by decide) q661 rfl (zput_k (zne hk140.m (hk140.ar 5 rfl) rfl) (zput_k (zne hk140.m (hk140.ar 4 rfl) rfl) hk140.m)) rfl d_M_commit_168 ?_
      refine zr_iload_n hX rfl d_M_commit_171 ?_
      refine zr_iload_n hX rfl d_M_commit_172 ?_
      refine zr_iastN hX (zput_k (hk140.ne 8 5 rfl rfl (by decide)) (zput_k (hk140.ne 8 4 rfl rfl (by decide)) (hk140.ar 8 rfl))) p rfl (by omega) (by decide) d_M_commit_173 ?_
      refine zr_aload_n hX rfl d_M_commit_174 ?_
      refine zr_get hX k_M 9 (by decide) q662 rfl (zput_k (zne hk140.m (hk140.ar 8 rfl) rfl) (zput_k (zne hk140.m (hk140.ar 5 rfl) rfl) (zput_k (zne hk140.m (hk140.ar 4 rfl) rfl) hk140.m))) rfl d_M_commit_175 ?_
      refine zr_iload_n hX rfl d_M_commit_178 ?_
      refine zr_iconst (v := (-1)) hX rfl d_M_commit_179 ?_
      refine zr_iastN hX (zput_k (hk140.ne 9 8 rfl rfl (by decide)) (zput_k (hk140.ne 9 5 rfl rfl (by decide)) (zput_k (hk140.ne 9 4 rfl rfl (by decide)) (hk140.ar 9 rfl)))) p rfl (by omega) (by decide) d_M_commit_180 ?_
      refine zr_aload_n hX rfl d_M_commit_181 ?_
      refine zr_get hX k_M 14 (by decide) q667 rfl (zput_k (zne hk140.m (hk140.ar 9 rfl) rfl) (zput_k (zne hk140.m (hk140.ar 8 rfl) rfl) (zput_k (zne hk140.m (hk140.ar 5 rfl) rfl) (zput_k (zne hk140.m (hk140.ar 4 rfl) rfl) hk140.m)))) rfl d_M_commit_182 ?_
      refine zr_iload_n hX rfl d_M_commit_185 ?_
      refine zr_iconst (v := 0) hX rfl d_M_commit_186 ?_
      refine zr_iastN hX (zput_k (hk140.ne 14 9 rfl rfl (by decide)) (zput_k (hk140.ne 14 8 rfl rfl (by decide)) (zput_k (hk140.ne 14 5 rfl rfl (by decide)) (zput_k (hk140.ne 14 4 rfl rfl (by decide)) (hk140.ar 14 rfl))))) p rfl (by omega) (by decide) d_M_commit_187 ?_
      refine zr_iload_n hX rfl d_M_commit_188 ?_
      exact zr_iret hX d_M_commit_189 ⟨(by rw [show (nI cm) = s_M_commit u p cm from by unfold s_M_commit; rfl]), (by unfold t_M_commit; rw [← hs_s]; rw [← hu140]; exact (zMv.arr (zMv.arr (zMv.arr (zMv.arr (zMv.arr hk140 4 rfl _) 5 rfl _) 8 rfl _) 9 rfl _) 14 rfl _)), (zMf.arr (zMf.arr (zMf.arr (zMf.arr (zMf.arr (zMf.tr fk_s fk140 ek_s) 4 rfl (congrFun (Eq.trans ek140 ek_s) 4) _) 5 rfl (congrFun (Eq.trans ek140 ek_s) 5) _) 8 rfl (congrFun (Eq.trans ek140 ek_s) 8) _) 9 rfl (congrFun (Eq.trans ek140 ek_s) 9) _) 14 rfl (congrFun (Eq.trans ek140 ek_s) 14) _), (by unfold t_M_commit; rw [← hs_s]; rw [← hu140]; exact (Eq.trans ek140 ek_s))⟩
  exact L79 0 (Nat.zero_le _) _ _ rfl (zMv.put (zMv.put hk23 (upd u.2.1 0 0)) (upd (zuc u 0 0).2.1 6 (nI (cm + 1)))) (zMf.obj (zMf.obj (zMf.tr (zMf.tr zMf.rf fk15 rfl) fk23 (Eq.trans ek15 rfl)) _) _) (Eq.trans ek23 (Eq.trans ek15 rfl)) rfl
theorem c_M_settle_bad (g : zGt) (d : Nat) (hd : 2 ≤ d) (G : zG) (u : zU) (m : Nat) (h : zMv u m G) (p : Int32) (q : Int32) (w : Int32) (hbad : s_M_isConflict u p q = 0 ∨ s_M_isValue w = 0) : zMet g y_M_settle b_M_settle 4 (some .int) [] d 0 0 [.ref m, .int p, .int q, .int w] G (zMq (some (.int 0)) (zuc u 0 1) u m G) := by
  refine zMet.of (by decide) (Nat.le_of_ble_eq_true rfl) rfl (fun X hX => ?_)
  refine zr_aload_n hX rfl d_M_settle_0 ?_
  refine zr_aload_n hX rfl d_M_settle_1 ?_
  refine zr_iload_n hX rfl d_M_settle_2 ?_
  refine zr_iload_n hX rfl d_M_settle_3 ?_
  refine zr_pV hX (c_M_isConflict g (d - 1) (by omega) _ u m h p q) l_M_168 im_M_isConflict se_M_isConflict f_M_isConflict k_M.1 h.m rfl (Nat.le_of_ble_eq_true rfl) (by omega) (Nat.zero_le _) (Nat.zero_le _) d_M_settle_4 ?_
  refine zr_if_eq hX (tgt := 17) d_M_settle_7 (by decide) (fun h7 => ?_) (fun h7 => ?_)
  · skip
    refine zr_iconst (v := 1) hX rfl d_M_settle_17 ?_
    refine zr_goto hX (tgt := 22) (by decide) d_M_settle_18 ?_
    refine zr_mV1 hX (c_M_fails1 g (d - 1) _ u m h ) l_M_119 im_M_fails se_M_fails f_M_fails rfl (Nat.le_of_ble_eq_true rfl) (by omega) (Nat.zero_le _) (Nat.zero_le _) d_M_settle_22 (Nat.zero_le _) (Nat.zero_le _) (zMv.m h) (fun G22 hk22 fk22 ek22 => ?_)
    refine zr_if_eq hX (tgt := 30) d_M_settle_25 (by decide) (fun h => absurd h (by decide)) (fun _ => ?_)
    refine zr_iconst (v := 0) hX rfl d_M_settle_28 ?_
    exact zr_iret hX d_M_settle_29 ⟨rfl, hk22, (zMf.tr zMf.rf fk22 rfl), rfl⟩
  · skip
    refine zr_iload_n hX rfl d_M_settle_10 ?_
    refine zr_pS hX (c_M_isValue g (d - 1) _ w) l_M_116 st_M_isValue f_M_isValue rfl (Nat.le_of_ble_eq_true rfl) (by omega) (Nat.zero_le _) (Nat.zero_le _) d_M_settle_11 ?_
    refine zr_if_ne hX (tgt := 21) d_M_settle_14 (by decide) (fun h14 => ?_) (fun h14 => ?_)
    · skip
      exact False.elim ((fun z => z.elim h7 h14) hbad)
    · skip
      refine zr_iconst (v := 1) hX rfl d_M_settle_17 ?_
      refine zr_goto hX (tgt := 22) (by decide) d_M_settle_18 ?_
      refine zr_mV1 hX (c_M_fails1 g (d - 1) _ u m h ) l_M_119 im_M_fails se_M_fails f_M_fails rfl (Nat.le_of_ble_eq_true rfl) (by omega) (Nat.zero_le _) (Nat.zero_le _) d_M_settle_22 (Nat.zero_le _) (Nat.zero_le _) (zMv.m h) (fun G22 hk22 fk22 ek22 => ?_)
      refine zr_if_eq hX (tgt := 30) d_M_settle_25 (by decide) (fun h => absurd h (by decide)) (fun _ => ?_)
      refine zr_iconst (v := 0) hX rfl d_M_settle_28 ?_
      exact zr_iret hX d_M_settle_29 ⟨rfl, hk22, (zMf.tr zMf.rf fk22 rfl), rfl⟩
def t_M_settle (u : zU) (p q : Nat) (w : Int32) (ct e9 : Nat) : zU := (zgive (zua (zuc u 0 0) 15 (upd ((zuc u 0 0).ar 15) ((4096 * p) + q) 1)) p ct w)
def s_M_settle (u : zU) (p q : Nat) (w : Int32) (ct e9 : Nat) : Int32 := zfor e9 (st_M_unsettled (zgive (zua (zuc u 0 0) 15 (upd ((zuc u 0 0).ar 15) ((4096 * p) + q) 1)) p ct w) p) 0
theorem c_M_settle_ok (g : zGt) (d : Nat) (hdd : 2 ≤ d) (G : zG) (u : zU) (m : Nat) (h : zMv u m G) (p : Nat) (q : Nat) (w : Int32) (hp : p < 4) (e9 : Nat) (he : u.ar 14 p = nI e9) (hl : e9 ≤ 4096) (hq : q < e9) (ct : Nat) (hct : u.ar 10 (4096 * p + q) = nI ct) (hc4 : ct < 4096) (ho0 : ¬ s_M_isConflict u (nI p) (nI q) = 0) (ho1 : ¬ s_M_isValue w = 0) : zMet g y_M_settle b_M_settle 4 (some .int) [] d 0 0 [.ref m, .int (nI p), .int (nI q), .int w] G (zMq (some (.int (s_M_settle u p q w ct e9))) (t_M_settle u p q w ct e9) u m G) := by
  refine zMet.of (by decide) (Nat.le_of_ble_eq_true rfl) rfl (fun X hX => ?_)
  refine zr_aload_n hX rfl d_M_settle_0 ?_
  refine zr_aload_n hX rfl d_M_settle_1 ?_
  refine zr_iload_n hX rfl d_M_settle_2 ?_
  refine zr_iload_n hX rfl d_M_settle_3 ?_
  refine zr_pV hX (c_M_isConflict g (d - 1) (by omega) _ u m h (nI p) (nI q)) l_M_168 im_M_isConflict se_M_isConflict f_M_isConflict k_M.1 h.m rfl (Nat.le_of_ble_eq_true rfl) (by omega) (Nat.zero_le _) (Nat.zero_le _) d_M_settle_4 ?_
  refine zr_if_eq hX (tgt := 17) d_M_settle_7 (by decide) (fun h9 => absurd h9 ho0) (fun _ => ?_)
  refine zr_iload_n hX rfl d_M_settle_10 ?_
  refine zr_pS hX (c_M_isValue g (d - 1) _ w) l_M_116 st_M_isValue f_M_isValue rfl (Nat.le_of_ble_eq_true rfl) (by omega) (Nat.zero_le _) (Nat.zero_le _) d_M_settle_11 ?_
  refine zr_if_ne hX (tgt := 21) d_M_settle_14 (by decide) (fun _ => ?_) (fun h9 => absurd h9 ho1)
  refine zr_iconst (v := 0) hX rfl d_M_settle_21 ?_
  refine zr_mV1 hX (c_M_fails0 g (d - 1) _ u m h ) l_M_119 im_M_fails se_M_fails f_M_fails rfl (Nat.le_of_ble_eq_true rfl) (by omega) (Nat.zero_le _) (Nat.zero_le _) d_M_settle_22 (Nat.zero_le _) (Nat.zero_le _) (zMv.m h) (fun G22 hk22 fk22 ek22 => ?_)
  refine zr_if_eq hX (tgt := 30) d_M_settle_25 (by decide) (fun _ => ?_) (fun h => absurd h (by decide))
  refine zr_aload_n hX rfl d_M_settle_30 ?_
  refine zr_get hX k_M 15 (by decide) q668 rfl hk22.m rfl d_M_settle_31 ?_
  refine zr_sipush (v := 4096) hX rfl d_M_settle_34 ?_
  refine zr_iload_n hX rfl d_M_settle_37 ?_
  refine zn_imul (a := 4096) (b := p) hX d_M_settle_38 ?_
  refine zr_iload_n hX rfl d_M_settle_39 ?_
  refine zn_iadd (a := (4096 * p)) (b := q) hX d_M_settle_40 ?_
  refine zr_iconst (v := 1) hX rfl d_M_settle_41 ?_
  refine zr_zastN hX (hk22.ar 15 rfl) ((4096 * p) + q) rfl (by omega) (by decide) rfl d_M_settle_42 ?_
  refine zr_aload_n hX rfl d_M_settle_43 ?_
  refine zr_iload_n hX rfl d_M_settle_44 ?_
  refine zr_aload_n hX rfl d_M_settle_45 ?_
  refine zr_get hX k_M 10 (by decide) q663 rfl (zput_k (zne hk22.m (hk22.ar 15 rfl) rfl) hk22.m) rfl d_M_settle_46 ?_
  refine zr_sipush (v := 4096) hX rfl d_M_settle_49 ?_
  refine zr_iload_n hX rfl d_M_settle_52 ?_
  refine zn_imul (a := 4096) (b := p) hX d_M_settle_53 ?_
  refine zr_iload_n hX rfl d_M_settle_54 ?_
  refine zn_iadd (a := (4096 * p)) (b := q) hX d_M_settle_55 ?_
  refine zr_ialdV hX (zput_k (hk22.ne 10 15 rfl rfl (by decide)) (hk22.ar 10 rfl)) (4096 * p + q) rfl (by omega) (by decide) (v := (nI ct)) hct d_M_settle_56 ?_
  refine zr_iload_n hX rfl d_M_settle_57 ?_
  refine zr_mV0 hX (c_M_give g (d - 1) _ (zua (zuc u 0 0) 15 (upd ((zuc u 0 0).ar 15) ((4096 * p) + q) 1)) m (zMv.arr hk22 15 rfl _) p ct w (by omega) (by omega)) l_M_127 im_M_give se_M_give f_M_give rfl (Nat.le_of_ble_eq_true rfl) (by omega) (Nat.zero_le _) (Nat.zero_le _) d_M_settle_58 (Nat.zero_le _) (Nat.zero_le _) (zMv.m (zMv.arr hk22 15 rfl _)) (fun G58 hk58 fk58 ek58 => ?_)
  refine zr_aload_n hX rfl d_M_settle_61 ?_
  refine zr_iload_n hX rfl d_M_settle_62 ?_
  refine zr_mV1 hX (c_M_unsettled g (d - 1) _ (zgive (zua (zuc u 0 0) 15 (upd ((zuc u 0 0).ar 15) ((4096 * p) + q) 1)) p ct w) m hk58 p (by omega) e9 he hl) l_M_138 im_M_unsettled se_M_unsettled f_M_unsettled rfl (Nat.le_of_ble_eq_true rfl) (by omega) (Nat.zero_le _) (Nat.zero_le _) d_M_settle_63 (Nat.zero_le _) (Nat.zero_le _) (zMv.m hk58) (fun G63 hk63 fk63 ek63 => ?_)
  exact zr_iret hX d_M_settle_66 ⟨(by rw [show (zfor e9 (st_M_unsettled (zgive (zua (zuc u 0 0) 15 (upd ((zuc u 0 0).ar 15) ((4096 * p) + q) 1)) p ct w) p) 0) = s_M_settle u p q w ct e9 from by unfold s_M_settle; rfl]), (by unfold t_M_settle; exact hk63), (zMf.tr (zMf.tr (zMf.arr (zMf.tr zMf.rf fk22 rfl) 15 rfl (congrFun (Eq.trans ek22 rfl) 15) _) fk58 (Eq.trans ek22 rfl)) fk63 (Eq.trans ek58 (Eq.trans ek22 rfl))), (by unfold t_M_settle; exact (Eq.trans ek63 (Eq.trans ek58 (Eq.trans ek22 rfl))))⟩
