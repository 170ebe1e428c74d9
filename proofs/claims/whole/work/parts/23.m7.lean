theorem zdn {n j : Nat} (h : j < n) : nI (n - j) + Int32.ofInt (-1) = nI (n - (j + 1)) := by
  rw [show n - j = (n - (j + 1)) + 1 by omega]
  exact pk_m1 _
def st_M_ancestors (u : zU) (cm : Nat) (j : Nat) (s : Int32) : Int32 := if ((s >>> ((nI (cm - 1 - j)) &&& 31)) &&& 1) = 0 then s else if ((u.ar 5) (cm - 1 - j)) < 0 then (s ||| (1 <<< (((u.ar 4) (cm - 1 - j)) &&& 31))) else ((s ||| (1 <<< (((u.ar 4) (cm - 1 - j)) &&& 31))) ||| (1 <<< (((u.ar 5) (cm - 1 - j)) &&& 31)))
def s_M_ancestors (u : zU) (p : Int32) (cm : Nat) : Int32 := (zfor (cm - 1) (st_M_ancestors u cm) p)
theorem c_M_ancestors (g : zGt) (d : Nat) (G : zG) (u : zU) (m : Nat) (h : zMv u m G) (p : Int32) (cm : Nat) (hc : u.i 6 = nI cm) (h1 : 1 ≤ cm) (h2 : cm ≤ 24)  : zMet g y_M_ancestors b_M_ancestors 4 (some .int) [] d 0 0 [.ref m, .int p] G (zD1 (.int (s_M_ancestors u p cm)) G) := by
  refine zMet.of (by decide) (Nat.le_of_ble_eq_true rfl) rfl (fun X hX => ?_)
  refine zr_iload_n hX rfl d_M_ancestors_0 ?_
  refine zs_istore_n hX (by decide) rfl d_M_ancestors_1 ?_
  refine zr_aload_n hX rfl d_M_ancestors_2 ?_
  refine zr_get hX k_M 6 (by decide) q659 rfl h.m (zml6 hc) d_M_ancestors_3 ?_
  refine zr_iconst (v := 1) hX rfl d_M_ancestors_6 ?_
  refine zn_isub (a := cm) (b := 1) hX (by omega) d_M_ancestors_7 ?_
  refine zs_istore_n hX (by decide) rfl d_M_ancestors_8 ?_
  have L9 : ∀ j, j ≤ cm - 1 → ∀ (s : Int32), s = zfor j (st_M_ancestors u cm) p → zw g X (zD1 (.int (s_M_ancestors u p cm)) G) 9 [some (.ref m), some (.int p), some (.int s), some (.int (nI (cm - 1 - j)))] [] G 0 0 := by
    refine zup (cm - 1) (fun j hj_s ih_s => ?_)
    intro s hs_s
    by_cases hlt_s : j < cm - 1
    · skip
      refine zr_iload_n hX rfl d_M_ancestors_9 ?_
      refine zr_if_le hX (tgt := 61) d_M_ancestors_10 (by decide) (fun h9 => absurd h9 (nI_nle (n := (cm - 1 - j)) (by omega) (by omega))) (fun _ => ?_)
      refine zr_iload_n hX rfl d_M_ancestors_13 ?_
      refine zr_iload_n hX rfl d_M_ancestors_14 ?_
      refine zr_ishr hX d_M_ancestors_15 ?_
      refine zr_iconst (v := 1) hX rfl d_M_ancestors_16 ?_
      refine zr_iand hX d_M_ancestors_17 ?_
      refine zr_if_ne hX (tgt := 24) d_M_ancestors_18 (by decide) (fun h18 => ?_) (fun h18 => ?_)
      · skip
        refine zr_iload_n hX rfl d_M_ancestors_24 ?_
        refine zr_iconst (v := 1) hX rfl d_M_ancestors_25 ?_
        refine zr_aload_n hX rfl d_M_ancestors_26 ?_
        refine zr_get hX k_M 4 (by decide) q657 rfl h.m rfl d_M_ancestors_27 ?_
        refine zr_iload_n hX rfl d_M_ancestors_30 ?_
        refine zr_ialdN hX (h.ar 4 rfl) (cm - 1 - j) rfl (by omega) (by decide) d_M_ancestors_31 ?_
        refine zr_ishl hX d_M_ancestors_32 ?_
        refine zr_ior hX d_M_ancestors_33 ?_
        refine zs_istore_n hX (by decide) rfl d_M_ancestors_34 ?_
        refine zr_aload_n hX rfl d_M_ancestors_35 ?_
        refine zr_get hX k_M 5 (by decide) q658 rfl h.m rfl d_M_ancestors_36 ?_
        refine zr_iload_n hX rfl d_M_ancestors_39 ?_
        refine zr_ialdN hX (h.ar 5 rfl) (cm - 1 - j) rfl (by omega) (by decide) d_M_ancestors_40 ?_
        refine zr_if_lt hX (tgt := 55) d_M_ancestors_41 (by decide) (fun h41 => ?_) (fun h41 => ?_)
        · skip
          refine zs_iinc (v := nI (cm - 1 - (j + 1))) hX rfl (zdn (by omega)) (by decide) rfl d_M_ancestors_55 ?_
          refine zr_goto hX (tgt := 9) (by decide) d_M_ancestors_58 ?_
          exact ih_s hlt_s (s ||| (1 <<< (((u.ar 4) (cm - 1 - j)) &&& 31))) (by rw [zfor_s, ← hs_s]; unfold st_M_ancestors; rw [if_neg h18]; rw [if_pos h41])
        · skip
          refine zr_iload_n hX rfl d_M_ancestors_44 ?_
          refine zr_iconst (v := 1) hX rfl d_M_ancestors_45 ?_
          refine zr_aload_n hX rfl d_M_ancestors_46 ?_
          refine zr_get hX k_M 5 (by decide) q658 rfl h.m rfl d_M_ancestors_47 ?_
          refine zr_iload_n hX rfl d_M_ancestors_50 ?_
          refine zr_ialdN hX (h.ar 5 rfl) (cm - 1 - j) rfl (by omega) (by decide) d_M_ancestors_51 ?_
          refine zr_ishl hX d_M_ancestors_52 ?_
          refine zr_ior hX d_M_ancestors_53 ?_
          refine zs_istore_n hX (by decide) rfl d_M_ancestors_54 ?_
          refine zs_iinc (v := nI (cm - 1 - (j + 1))) hX rfl (zdn (by omega)) (by decide) rfl d_M_ancestors_55 ?_
          refine zr_goto hX (tgt := 9) (by decide) d_M_ancestors_58 ?_
          exact ih_s hlt_s ((s ||| (1 <<< (((u.ar 4) (cm - 1 - j)) &&& 31))) ||| (1 <<< (((u.ar 5) (cm - 1 - j)) &&& 31))) (by rw [zfor_s, ← hs_s]; unfold st_M_ancestors; rw [if_neg h18]; rw [if_neg h41])
      · skip
        refine zr_goto hX (tgt := 55) (by decide) d_M_ancestors_21 ?_
        refine zs_iinc (v := nI (cm - 1 - (j + 1))) hX rfl (zdn (by omega)) (by decide) rfl d_M_ancestors_55 ?_
        refine zr_goto hX (tgt := 9) (by decide) d_M_ancestors_58 ?_
        exact ih_s hlt_s s (by rw [zfor_s, ← hs_s]; unfold st_M_ancestors; rw [if_pos h18])
    · skip
      have ej_s : j = cm - 1 := by omega
      rw [ej_s] at hs_s
      refine zr_iload_n hX rfl d_M_ancestors_9 ?_
      refine zr_if_le hX (tgt := 61) d_M_ancestors_10 (by decide) (fun _ => ?_) (fun h9 => absurd h9 (zq_le0T (a := (cm - 1 - j)) (by omega)))
      refine zr_iload_n hX rfl d_M_ancestors_61 ?_
      exact zr_iret hX d_M_ancestors_62 ⟨(by unfold s_M_ancestors; rw [← hs_s]), rfl⟩
  exact L9 0 (Nat.zero_le _) _ rfl
def st_M_nearestOf_i (u : zU) (cm : Nat) (p q : Int32) (j : Nat) (i : Nat) (t : Int32) : Int32 := if t = 0 then if ((((s_M_ancestors u p cm) &&& (s_M_ancestors u (1 <<< (q &&& 31)) cm)) >>> ((nI (j + 1 + i)) &&& 31)) &&& 1) = 1 then if (((s_M_ancestors u (1 <<< ((nI (j + 1 + i)) &&& 31)) cm) >>> ((nI j) &&& 31)) &&& 1) = 1 then 1 else 0 else 0 else 1
def st_M_nearestOf_k (u : zU) (cm : Nat) (p q : Int32) (j : Nat) (s : Int32) : Int32 := if ((((s_M_ancestors u p cm) &&& (s_M_ancestors u (1 <<< (q &&& 31)) cm)) >>> ((nI j) &&& 31)) &&& 1) = 0 then s else if (zfor (cm - (j + 1)) (st_M_nearestOf_i u cm p q j) 0) = 0 then (s ||| (1 <<< ((nI j) &&& 31))) else s
def s_M_nearestOf (u : zU) (p q : Int32) (cm : Nat) : Int32 := (zfor cm (st_M_nearestOf_k u cm p q) 0)
theorem c_M_nearestOf (g : zGt) (d : Nat) (hd : 1 ≤ d) (G : zG) (u : zU) (m : Nat) (h : zMv u m G) (p : Int32) (q : Int32) (cm : Nat) (hc : u.i 6 = nI cm) (h1 : 1 ≤ cm) (h2 : cm ≤ 24)  : zMet g y_M_nearestOf b_M_nearestOf 8 (some .int) [] d 0 0 [.ref m, .int p, .int q] G (zD1 (.int (s_M_nearestOf u p q cm)) G) := by
  refine zMet.of (by decide) (Nat.le_of_ble_eq_true rfl) rfl (fun X hX => ?_)
  refine zr_aload_n hX rfl d_M_nearestOf_0 ?_
  refine zr_iload_n hX rfl d_M_nearestOf_1 ?_
  refine zr_pV hX (c_M_ancestors g (d - 1) _ u m h p cm hc h1 h2) l_M_142 im_M_ancestors se_M_ancestors f_M_ancestors k_M.1 h.m rfl (Nat.le_of_ble_eq_true rfl) (by omega) (Nat.zero_le _) (Nat.zero_le _) d_M_nearestOf_2 ?_
  refine zr_aload_n hX rfl d_M_nearestOf_5 ?_
  refine zr_iconst (v := 1) hX rfl d_M_nearestOf_6 ?_
  refine zr_iload_n hX rfl d_M_nearestOf_7 ?_
  refine zr_ishl hX d_M_nearestOf_8 ?_
  refine zr_pV hX (c_M_ancestors g (d - 1) _ u m h (1 <<< (q &&& 31)) cm hc h1 h2) l_M_142 im_M_ancestors se_M_ancestors f_M_ancestors k_M.1 h.m rfl (Nat.le_of_ble_eq_true rfl) (by omega) (Nat.zero_le _) (Nat.zero_le _) d_M_nearestOf_9 ?_
  refine zr_iand hX d_M_nearestOf_12 ?_
  refine zs_istore_n hX (by decide) rfl d_M_nearestOf_13 ?_
  refine zr_iconst (v := 0) hX rfl d_M_nearestOf_14 ?_
  refine zs_istore hX (by decide) rfl d_M_nearestOf_15 ?_
  refine zr_iconst (v := 0) hX rfl d_M_nearestOf_17 ?_
  refine zs_istore hX (by decide) rfl d_M_nearestOf_18 ?_
  have L20 : ∀ j, j ≤ cm → ∀ (s : Int32), s = zfor j (st_M_nearestOf_k u cm p q) 0 → zw g X (zD1 (.int (s_M_nearestOf u p q cm)) G) 20 [some (.ref m), some (.int p), some (.int q), some (.int ((s_M_ancestors u p cm) &&& (s_M_ancestors u (1 <<< (q &&& 31)) cm))), some (.int s), some (.int (nI j)), none, none] [] G 0 0 := by
    refine zup cm (fun j hj_s ih_s => ?_)
    intro s hs_s
    by_cases hlt_s : j < cm
    · skip
      refine zr_iload hX rfl d_M_nearestOf_20 ?_
      refine zr_aload_n hX rfl d_M_nearestOf_22 ?_
      refine zr_get hX k_M 6 (by decide) q659 rfl h.m (zml6 hc) d_M_nearestOf_23 ?_
      refine zr_icmp_ge hX (tgt := 124) d_M_nearestOf_26 (by decide) (fun h9 => absurd h9 (nI_ge (a := j) (b := cm) (by omega) (by omega))) (fun _ => ?_)
      refine zr_iload_n hX rfl d_M_nearestOf_29 ?_
      refine zr_iload hX rfl d_M_nearestOf_30 ?_
      refine zr_ishr hX d_M_nearestOf_32 ?_
      refine zr_iconst (v := 1) hX rfl d_M_nearestOf_33 ?_
      refine zr_iand hX d_M_nearestOf_34 ?_
      refine zr_if_ne hX (tgt := 41) d_M_nearestOf_35 (by decide) (fun h35 => ?_) (fun h35 => ?_)
      · skip
        refine zr_iconst (v := 0) hX rfl d_M_nearestOf_41 ?_
        refine zs_istore hX (by decide) rfl d_M_nearestOf_42 ?_
        refine zr_iload hX rfl d_M_nearestOf_44 ?_
        refine zr_iconst (v := 1) hX rfl d_M_nearestOf_46 ?_
        refine zn_iadd (a := j) (b := 1) hX d_M_nearestOf_47 ?_
        refine zs_istore hX (by decide) rfl d_M_nearestOf_48 ?_
        have L50 : ∀ i, i ≤ cm - (j + 1) → ∀ (t : Int32), t = zfor i (st_M_nearestOf_i u cm p q j) 0 → zw g X (zD1 (.int (s_M_nearestOf u p q cm)) G) 50 [some (.ref m), some (.int p), some (.int q), some (.int ((s_M_ancestors u p cm) &&& (s_M_ancestors u (1 <<< (q &&& 31)) cm))), some (.int s), some (.int (nI j)), some (.int t), some (.int (nI (j + 1 + i)))] [] G 0 0 := by
          refine zup (cm - (j + 1)) (fun i hj_t ih_t => ?_)
          intro t hs_t
          by_cases hlt_t : i < cm - (j + 1)
          · skip
            refine zr_iload hX rfl d_M_nearestOf_50 ?_
            refine zr_aload_n hX rfl d_M_nearestOf_52 ?_
            refine zr_get hX k_M 6 (by decide) q659 rfl h.m (zml6 hc) d_M_nearestOf_53 ?_
            refine zr_icmp_ge hX (tgt := 104) d_M_nearestOf_56 (by decide) (fun h9 => absurd h9 (nI_ge (a := (j + 1 + i)) (b := cm) (by omega) (by omega))) (fun _ => ?_)
            refine zr_iload hX rfl d_M_nearestOf_59 ?_
            refine zr_if_ne hX (tgt := 91) d_M_nearestOf_61 (by decide) (fun h61 => ?_) (fun h61 => ?_)
            · skip
              refine zr_iconst (v := 1) hX rfl d_M_nearestOf_91 ?_
              refine zr_goto hX (tgt := 96) (by decide) d_M_nearestOf_92 ?_
              refine zs_istore hX (by decide) rfl d_M_nearestOf_96 ?_
              refine zs_iinc (v := nI ((j + 1 + i) + 1)) hX rfl (nI_add _ 1) (by decide) rfl d_M_nearestOf_98 ?_
              refine zr_goto hX (tgt := 50) (by decide) d_M_nearestOf_101 ?_
              exact ih_t hlt_t 1 (by rw [zfor_s, ← hs_t]; unfold st_M_nearestOf_i; rw [if_neg h61])
            · skip
              refine zr_iload_n hX rfl d_M_nearestOf_64 ?_
              refine zr_iload hX rfl d_M_nearestOf_65 ?_
              refine zr_ishr hX d_M_nearestOf_67 ?_
              refine zr_iconst (v := 1) hX rfl d_M_nearestOf_68 ?_
              refine zr_iand hX d_M_nearestOf_69 ?_
              refine zr_iconst (v := 1) hX rfl d_M_nearestOf_70 ?_
              refine zr_icmp_ne hX (tgt := 95) d_M_nearestOf_71 (by decide) (fun h71 => ?_) (fun h71 => ?_)
              · skip
                refine zr_iconst (v := 0) hX rfl d_M_nearestOf_95 ?_
                refine zs_istore hX (by decide) rfl d_M_nearestOf_96 ?_
                refine zs_iinc (v := nI ((j + 1 + i) + 1)) hX rfl (nI_add _ 1) (by decide) rfl d_M_nearestOf_98 ?_
                refine zr_goto hX (tgt := 50) (by decide) d_M_nearestOf_101 ?_
                exact ih_t hlt_t 0 (by rw [zfor_s, ← hs_t]; unfold st_M_nearestOf_i; rw [if_pos h61]; rw [if_neg h71])
              · skip
                refine zr_aload_n hX rfl d_M_nearestOf_74 ?_
                refine zr_iconst (v := 1) hX rfl d_M_nearestOf_75 ?_
                refine zr_iload hX rfl d_M_nearestOf_76 ?_
                refine zr_ishl hX d_M_nearestOf_78 ?_
                refine zr_pV hX (c_M_ancestors g (d - 1) _ u m h (1 <<< ((nI (j + 1 + i)) &&& 31)) cm hc h1 h2) l_M_142 im_M_ancestors se_M_ancestors f_M_ancestors k_M.1 h.m rfl (Nat.le_of_ble_eq_true rfl) (by omega) (Nat.zero_le _) (Nat.zero_le _) d_M_nearestOf_79 ?_
                refine zr_iload hX rfl d_M_nearestOf_82 ?_
                refine zr_ishr hX d_M_nearestOf_84 ?_
                refine zr_iconst (v := 1) hX rfl d_M_nearestOf_85 ?_
                refine zr_iand hX d_M_nearestOf_86 ?_
                refine zr_iconst (v := 1) hX rfl d_M_nearestOf_87 ?_
                refine zr_icmp_ne hX (tgt := 95) d_M_nearestOf_88 (by decide) (fun h88 => ?_) (fun h88 => ?_)
                · skip
                  refine zr_iconst (v := 0) hX rfl d_M_nearestOf_95 ?_
                  refine zs_istore hX (by decide) rfl d_M_nearestOf_96 ?_
                  refine zs_iinc (v := nI ((j + 1 + i) + 1)) hX rfl (nI_add _ 1) (by decide) rfl d_M_nearestOf_98 ?_
                  refine zr_goto hX (tgt := 50) (by decide) d_M_nearestOf_101 ?_
                  exact ih_t hlt_t 0 (by rw [zfor_s, ← hs_t]; unfold st_M_nearestOf_i; rw [if_pos h61]; rw [if_pos h71]; rw [if_neg h88])
                · skip
                  refine zr_iconst (v := 1) hX rfl d_M_nearestOf_91 ?_
                  refine zr_goto hX (tgt := 96) (by decide) d_M_nearestOf_92 ?_
                  refine zs_istore hX (by decide) rfl d_M_nearestOf_96 ?_
                  refine zs_iinc (v := nI ((j + 1 + i) + 1)) hX rfl (nI_add _ 1) (by decide) rfl d_M_nearestOf_98 ?_
                  refine zr_goto hX (tgt := 50) (by decide) d_M_nearestOf_101 ?_
                  exact ih_t hlt_t 1 (by rw [zfor_s, ← hs_t]; unfold st_M_nearestOf_i; rw [if_pos h61]; rw [if_pos h71]; rw [if_pos h88])
          · skip
            have ej_t : i = cm - (j + 1) := by omega
            rw [ej_t] at hs_t
            refine zr_iload hX rfl d_M_nearestOf_50 ?_
            refine zr_aload_n hX rfl d_M_nearestOf_52 ?_
            refine zr_get hX k_M 6 (by decide) q659 rfl h.m (zml6 hc) d_M_nearestOf_53 ?_
            refine zr_icmp_ge hX (tgt := 104) d_M_nearestOf_56 (by decide) (fun _ => ?_) (fun h9 => absurd h9 (zq_leT (a := cm) (b := (j + 1 + i)) (by omega) (by omega)))
            refine zr_iload hX rfl d_M_nearestOf_104 ?_
            refine zr_if_ne hX (tgt := 118) d_M_nearestOf_106 (by decide) (fun h106 => ?_) (fun h106 => ?_)
            · skip
              refine zs_iinc (v := nI (j + 1)) hX rfl (nI_add _ 1) (by decide) rfl d_M_nearestOf_118 ?_
              refine zr_goto hX (tgt := 20) (by decide) d_M_nearestOf_121 ?_
              refine zw_drop 6 ?_
              refine zw_drop 7 ?_
              exact ih_s hlt_s s (by rw [zfor_s, ← hs_s]; unfold st_M_nearestOf_k; rw [← hs_t]; rw [if_neg h35]; rw [if_neg h106])
            · skip
              refine zr_iload hX rfl d_M_nearestOf_109 ?_
              refine zr_iconst (v := 1) hX rfl d_M_nearestOf_111 ?_
              refine zr_iload hX rfl d_M_nearestOf_112 ?_
              refine zr_ishl hX d_M_nearestOf_114 ?_
              refine zr_ior hX d_M_nearestOf_115 ?_
              refine zs_istore hX (by decide) rfl d_M_nearestOf_116 ?_
              refine zs_iinc (v := nI (j + 1)) hX rfl (nI_add _ 1) (by decide) rfl d_M_nearestOf_118 ?_
              refine zr_goto hX (tgt := 20) (by decide) d_M_nearestOf_121 ?_
              refine zw_drop 6 ?_
              refine zw_drop 7 ?_
              exact ih_s hlt_s (s ||| (1 <<< ((nI j) &&& 31))) (by rw [zfor_s, ← hs_s]; unfold st_M_nearestOf_k; rw [← hs_t]; rw [if_neg h35]; rw [if_pos h106])
        exact L50 0 (Nat.zero_le _) _ rfl
      · skip
        refine zr_goto hX (tgt := 118) (by decide) d_M_nearestOf_38 ?_
        refine zs_iinc (v := nI (j + 1)) hX rfl (nI_add _ 1) (by decide) rfl d_M_nearestOf_118 ?_
        refine zr_goto hX (tgt := 20) (by decide) d_M_nearestOf_121 ?_
        exact ih_s hlt_s s (by rw [zfor_s, ← hs_s]; unfold st_M_nearestOf_k; rw [if_pos h35])
    · skip
      have ej_s : j = cm := by omega
      rw [ej_s] at hs_s
      refine zr_iload hX rfl d_M_nearestOf_20 ?_
      refine zr_aload_n hX rfl d_M_nearestOf_22 ?_
      refine zr_get hX k_M 6 (by decide) q659 rfl h.m (zml6 hc) d_M_nearestOf_23 ?_
      refine zr_icmp_ge hX (tgt := 124) d_M_nearestOf_26 (by decide) (fun _ => ?_) (fun h9 => absurd h9 (zq_leT (a := cm) (b := j) (by omega) (by omega)))
      refine zr_iload hX rfl d_M_nearestOf_124 ?_
      exact zr_iret hX d_M_nearestOf_126 ⟨(by unfold s_M_nearestOf; rw [← hs_s]), rfl⟩
  exact L20 0 (Nat.zero_le _) _ rfl
