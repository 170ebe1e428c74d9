theorem zm1 (l : Nat) : nI (l + 1) + Int32.ofInt (-1) = nI l := by
  have h := pk_m1 l
  exact h
theorem z_joinB_i (u : zU) (l c : Nat) : (t_M_joinBase u l c).2.1 = u.2.1 := by
  unfold t_M_joinBase
  refine zfor_inv (N := 4096) (fun _ (s : zU) => s.2.1 = u.2.1) rfl (fun j s _ hs => ?_) 4096 (Nat.le_refl _)
  unfold st_M_joinBase
  refine zite (fun s : zU => s.2.1 = u.2.1) hs (zite (fun s : zU => s.2.1 = u.2.1) hs (zite (fun s : zU => s.2.1 = u.2.1) hs hs))
theorem zB_ret {g : zGt} {X : zX} {d : Nat} {Post : zRes → zG → Prop} (hX : zOK g X b_M_base y_M_base none [] 6 d 0 0) (hd : 4 ≤ d) {G : zG} {u : zU} {m : Nat} (h : zMv u m G) {p q : Int32} (cm : Nat) (hc : u.i 6 = nI cm) (h1 : 1 ≤ cm) (h2 : cm ≤ 24) (W D : Int32) (hW : u.ar 24 0 = W) (hD : u.ar 25 0 = D) (hn : s_M_next W D = nI 24) (kk : ∀ G2, zMv u m G2 → zMf u m G G2 → Post (.inl none) G2) : zw g X Post 11 [some (.ref m), some (.int p), some (.int q), some (.int (nI 0)), none, none] [] G 0 0 := by
  refine zr_iload_n hX rfl d_M_base_11 ?_
  refine zr_if_lt hX (tgt := 177) d_M_base_12 (by decide) (fun h9 => absurd h9 (nI_pos (n := 0) (by omega))) (fun _ => ?_)
  refine zr_aload_n hX rfl d_M_base_15 ?_
  refine zr_get hX k_M 24 (by decide) q677 rfl h.m rfl d_M_base_16 ?_
  refine zr_iload_n hX rfl d_M_base_19 ?_
  refine zr_ialdV hX (h.ar 24 rfl) 0 rfl (by omega) (by decide) (v := W) hW d_M_base_20 ?_
  refine zr_aload_n hX rfl d_M_base_21 ?_
  refine zr_get hX k_M 25 (by decide) q678 rfl h.m rfl d_M_base_22 ?_
  refine zr_iload_n hX rfl d_M_base_25 ?_
  refine zr_ialdV hX (h.ar 25 rfl) 0 rfl (by omega) (by decide) (v := D) hD d_M_base_26 ?_
  refine zr_pS hX (c_M_next g (d - 1) _ W D) l_M_152 st_M_next f_M_next rfl (Nat.le_of_ble_eq_true rfl) (by omega) (Nat.zero_le _) (Nat.zero_le _) d_M_base_27 ?_
  rw [show s_M_next W D = nI 24 from hn]
  refine zs_istore hX (by decide) rfl d_M_base_30 ?_
  refine zr_iload hX rfl d_M_base_32 ?_
  refine zr_bipush (v := 24) hX rfl d_M_base_34 ?_
  refine zr_icmp_ne hX (tgt := 87) d_M_base_36 (by decide) (fun h9 => absurd h9 (zq_eqT (a := 24) (b := 24) (by omega))) (fun _ => ?_)
  refine zs_iinc (v := (-1)) hX rfl rfl (by decide) rfl d_M_base_39 ?_
  refine zr_iload_n hX rfl d_M_base_42 ?_
  refine zr_if_ge hX (tgt := 47) d_M_base_43 (by decide) (fun h9 => absurd h9 (by decide)) (fun _ => ?_)
  exact zr_vret hX d_M_base_46 (kk _ h zMf.rf)
def st_M_bcopy (l n : Nat) (j : Nat) (s : zU) : zU := (zua s 26 (upd (s.ar 26) ((4096 * l) + j) ((s.ar 1) ((4096 * n) + j))))
theorem zB_copy {g : zGt} {X : zX} {d : Nat} {Post : zRes → zG → Prop} (hX : zOK g X b_M_base y_M_base none [] 6 d 0 0) (hd : 4 ≤ d) {G : zG} {u : zU} {m : Nat} (h : zMv u m G) {p q : Int32} (cm : Nat) (hc : u.i 6 = nI cm) (h1 : 1 ≤ cm) (h2 : cm ≤ 24) (l : Nat) (hl : l < 24) (W D : Int32) (hW : u.ar 24 l = W) (hD : u.ar 25 l = D) (n : Nat) (hn9 : n < 24) (hn : s_M_next W D = nI n) (h0 : D = 0) (kk : ∀ (u2 : zU) (G2 : zG), u2 = (zua (zfor 4096 (st_M_bcopy l n) u) 25 (upd ((zfor 4096 (st_M_bcopy l n) u).ar 25) l ((((zfor 4096 (st_M_bcopy l n) u).ar 25) l) ||| (1 <<< ((nI n) &&& 31))))) → zMv u2 m G2 → zMf u m G G2 → u2.1 = u.1 → u2.2.1 = u.2.1 → zw g X Post 11 [some (.ref m), some (.int p), some (.int q), some (.int (nI l)), none, none] [] G2 0 0) : zw g X Post 11 [some (.ref m), some (.int p), some (.int q), some (.int (nI l)), none, none] [] G 0 0 := by
  refine zr_iload_n hX rfl d_M_base_11 ?_
  refine zr_if_lt hX (tgt := 177) d_M_base_12 (by decide) (fun h9 => absurd h9 (nI_pos (n := l) (by omega))) (fun _ => ?_)
  refine zr_aload_n hX rfl d_M_base_15 ?_
  refine zr_get hX k_M 24 (by decide) q677 rfl h.m rfl d_M_base_16 ?_
  refine zr_iload_n hX rfl d_M_base_19 ?_
  refine zr_ialdV hX (h.ar 24 rfl) l rfl (by omega) (by decide) (v := W) hW d_M_base_20 ?_
  refine zr_aload_n hX rfl d_M_base_21 ?_
  refine zr_get hX k_M 25 (by decide) q678 rfl h.m rfl d_M_base_22 ?_
  refine zr_iload_n hX rfl d_M_base_25 ?_
  refine zr_ialdV hX (h.ar 25 rfl) l rfl (by omega) (by decide) (v := D) hD d_M_base_26 ?_
  refine zr_pS hX (c_M_next g (d - 1) _ W D) l_M_152 st_M_next f_M_next rfl (Nat.le_of_ble_eq_true rfl) (by omega) (Nat.zero_le _) (Nat.zero_le _) d_M_base_27 ?_
  rw [show s_M_next W D = nI n from hn]
  refine zs_istore hX (by decide) rfl d_M_base_30 ?_
  refine zr_iload hX rfl d_M_base_32 ?_
  refine zr_bipush (v := 24) hX rfl d_M_base_34 ?_
  refine zr_icmp_ne hX (tgt := 87) d_M_base_36 (by decide) (fun _ => ?_) (fun h9 => absurd h9 (zq_eqF (a := n) (b := 24) (by omega) (by omega) (by decide)))
  refine zr_aload_n hX rfl d_M_base_87 ?_
  refine zr_get hX k_M 25 (by decide) q678 rfl h.m rfl d_M_base_88 ?_
  refine zr_iload_n hX rfl d_M_base_91 ?_
  refine zr_ialdV hX (h.ar 25 rfl) l rfl (by omega) (by decide) (v := D) hD d_M_base_92 ?_
  refine zr_if_ne hX (tgt := 156) d_M_base_93 (by decide) (fun h9 => absurd h9 (not_not_intro h0)) (fun _ => ?_)
  refine zr_iconst (v := 0) hX rfl d_M_base_96 ?_
  refine zs_istore hX (by decide) rfl d_M_base_97 ?_
  have L99 : ∀ j, j ≤ 4096 → ∀ (s : zU) (G_s : zG), s = zfor j (st_M_bcopy l n) u → zMv s m G_s → zMf u m G G_s → s.1 = u.1 → s.2.1 = u.2.1 → zw g X Post 99 [some (.ref m), some (.int p), some (.int q), some (.int (nI l)), some (.int (nI n)), some (.int (nI j))] [] G_s 0 0 := by
    refine zup 4096 (fun j hj_s ih_s => ?_)
    intro s G_s hs_s hk_s fk_s ek_s ik_s
    by_cases hlt_s : j < 4096
    · skip
      refine zr_iload hX rfl d_M_base_99 ?_
      refine zr_sipush (v := 4096) hX rfl d_M_base_101 ?_
      refine zr_icmp_ge hX (tgt := 140) d_M_base_104 (by decide) (fun h9 => absurd h9 (nI_ge (a := j) (b := 4096) (by omega) (by decide))) (fun _ => ?_)
      refine zr_aload_n hX rfl d_M_base_107 ?_
      refine zr_get hX k_M 26 (by decide) q679 rfl hk_s.m rfl d_M_base_108 ?_
      refine zr_sipush (v := 4096) hX rfl d_M_base_111 ?_
      refine zr_iload_n hX rfl d_M_base_114 ?_
      refine zn_imul (a := 4096) (b := l) hX d_M_base_115 ?_
      refine zr_iload hX rfl d_M_base_116 ?_
      refine zn_iadd (a := (4096 * l)) (b := j) hX d_M_base_118 ?_
      refine zr_aload_n hX rfl d_M_base_119 ?_
      refine zr_get hX k_M 1 (by decide) q654 rfl hk_s.m rfl d_M_base_120 ?_
      refine zr_sipush (v := 4096) hX rfl d_M_base_123 ?_
      refine zr_iload hX rfl d_M_base_126 ?_
      refine zn_imul (a := 4096) (b := n) hX d_M_base_128 ?_
      refine zr_iload hX rfl d_M_base_129 ?_
      refine zn_iadd (a := (4096 * n)) (b := j) hX d_M_base_131 ?_
      refine zr_ialdN hX (hk_s.ar 1 rfl) ((4096 * n) + j) rfl (by omega) (by decide) d_M_base_132 ?_
      refine zr_iastN hX (hk_s.ar 26 rfl) ((4096 * l) + j) rfl (by omega) (by decide) d_M_base_133 ?_
      refine zs_iinc (v := nI (j + 1)) hX rfl (nI_add _ 1) (by decide) rfl d_M_base_134 ?_
      refine zr_goto hX (tgt := 99) (by decide) d_M_base_137 ?_
      exact ih_s hlt_s (zua s 26 (upd (s.ar 26) ((4096 * l) + j) ((s.ar 1) ((4096 * n) + j)))) _ (by rw [zfor_s, ← hs_s]; unfold st_M_bcopy; rfl) (zMv.arr hk_s 26 rfl _) (zMf.arr fk_s 26 rfl (congrFun ek_s 26) _) ek_s ik_s
    · skip
      have ej_s : j = 4096 := by omega
      rw [ej_s] at hs_s
      refine zr_iload hX rfl d_M_base_99 ?_
      refine zr_sipush (v := 4096) hX rfl d_M_base_101 ?_
      refine zr_icmp_ge hX (tgt := 140) d_M_base_104 (by decide) (fun _ => ?_) (fun h9 => absurd h9 (zq_leT (a := 4096) (b := j) (by omega) (by omega)))
      refine zr_aload_n hX rfl d_M_base_140 ?_
      refine zr_get hX k_M 25 (by decide) q678 rfl hk_s.m rfl d_M_base_141 ?_
      refine zr_iload_n hX rfl d_M_base_144 ?_
      refine zr_dup2 hX rfl rfl d_M_base_145 ?_
      refine zr_ialdN hX (hk_s.ar 25 rfl) l rfl (by omega) (by decide) d_M_base_146 ?_
      refine zr_iconst (v := 1) hX rfl d_M_base_147 ?_
      refine zr_iload hX rfl d_M_base_148 ?_
      refine zr_ishl hX d_M_base_150 ?_
      refine zr_ior hX d_M_base_151 ?_
      refine zr_iastN hX (hk_s.ar 25 rfl) l rfl (by omega) (by decide) d_M_base_152 ?_
      refine zr_goto hX (tgt := 174) (by decide) d_M_base_153 ?_
      refine zr_goto hX (tgt := 11) (by decide) d_M_base_174 ?_
      refine zw_drop 4 ?_
      refine zw_drop 5 ?_
      exact kk _ _ (by rw [hs_s]) (zMv.arr hk_s 25 rfl _) (zMf.arr fk_s 25 rfl (congrFun ek_s 25) _) ek_s ik_s
  exact L99 0 (Nat.zero_le _) _ _ rfl h zMf.rf rfl rfl
theorem zB_push {g : zGt} {X : zX} {d : Nat} {Post : zRes → zG → Prop} (hX : zOK g X b_M_base y_M_base none [] 6 d 0 0) (hd : 4 ≤ d) {G : zG} {u : zU} {m : Nat} (h : zMv u m G) {p q : Int32} (cm : Nat) (hc : u.i 6 = nI cm) (h1 : 1 ≤ cm) (h2 : cm ≤ 24) (l : Nat) (hl : l < 24) (W D : Int32) (hW : u.ar 24 l = W) (hD : u.ar 25 l = D) (n : Nat) (hn9 : n < 24) (hn : s_M_next W D = nI n) (h0 : ¬ D = 0) (kk : ∀ (u2 : zU) (G2 : zG), u2 = (t_M_beginBase u (l + 1) D (nI n) cm) → zMv u2 m G2 → zMf u m G G2 → u2.1 = u.1 → u2.2.1 = u.2.1 → zw g X Post 11 [some (.ref m), some (.int p), some (.int q), some (.int (nI (l + 1))), none, none] [] G2 0 0) : zw g X Post 11 [some (.ref m), some (.int p), some (.int q), some (.int (nI l)), none, none] [] G 0 0 := by
  refine zr_iload_n hX rfl d_M_base_11 ?_
  refine zr_if_lt hX (tgt := 177) d_M_base_12 (by decide) (fun h9 => absurd h9 (nI_pos (n := l) (by omega))) (fun _ => ?_)
  refine zr_aload_n hX rfl d_M_base_15 ?_
  refine zr_get hX k_M 24 (by decide) q677 rfl h.m rfl d_M_base_16 ?_
  refine zr_iload_n hX rfl d_M_base_19 ?_
  refine zr_ialdV hX (h.ar 24 rfl) l rfl (by omega) (by decide) (v := W) hW d_M_base_20 ?_
  refine zr_aload_n hX rfl d_M_base_21 ?_
  refine zr_get hX k_M 25 (by decide) q678 rfl h.m rfl d_M_base_22 ?_
  refine zr_iload_n hX rfl d_M_base_25 ?_
  refine zr_ialdV hX (h.ar 25 rfl) l rfl (by omega) (by decide) (v := D) hD d_M_base_26 ?_
  refine zr_pS hX (c_M_next g (d - 1) _ W D) l_M_152 st_M_next f_M_next rfl (Nat.le_of_ble_eq_true rfl) (by omega) (Nat.zero_le _) (Nat.zero_le _) d_M_base_27 ?_
  rw [show s_M_next W D = nI n from hn]
  refine zs_istore hX (by decide) rfl d_M_base_30 ?_
  refine zr_iload hX rfl d_M_base_32 ?_
  refine zr_bipush (v := 24) hX rfl d_M_base_34 ?_
  refine zr_icmp_ne hX (tgt := 87) d_M_base_36 (by decide) (fun _ => ?_) (fun h9 => absurd h9 (zq_eqF (a := n) (b := 24) (by omega) (by omega) (by decide)))
  refine zr_aload_n hX rfl d_M_base_87 ?_
  refine zr_get hX k_M 25 (by decide) q678 rfl h.m rfl d_M_base_88 ?_
  refine zr_iload_n hX rfl d_M_base_91 ?_
  refine zr_ialdV hX (h.ar 25 rfl) l rfl (by omega) (by decide) (v := D) hD d_M_base_92 ?_
  refine zr_if_ne hX (tgt := 156) d_M_base_93 (by decide) (fun _ => ?_) (fun h9 => absurd h9 h0)
  refine zr_aload_n hX rfl d_M_base_156 ?_
  refine zr_iload_n hX rfl d_M_base_157 ?_
  refine zr_iconst (v := 1) hX rfl d_M_base_158 ?_
  refine zn_iadd (a := l) (b := 1) hX d_M_base_159 ?_
  refine zr_aload_n hX rfl d_M_base_160 ?_
  refine zr_get hX k_M 25 (by decide) q678 rfl h.m rfl d_M_base_161 ?_
  refine zr_iload_n hX rfl d_M_base_164 ?_
  refine zr_ialdV hX (h.ar 25 rfl) l rfl (by omega) (by decide) (v := D) hD d_M_base_165 ?_
  refine zr_iload hX rfl d_M_base_166 ?_
  refine zr_mV0 hX (c_M_beginBase g (d - 1) (by omega) _ u m h (l + 1) D (nI n) cm hc h1 h2 (by omega)) l_M_149 im_M_beginBase se_M_beginBase f_M_beginBase rfl (Nat.le_of_ble_eq_true rfl) (by omega) (Nat.zero_le _) (Nat.zero_le _) d_M_base_168 (Nat.zero_le _) (Nat.zero_le _) (zMv.m h) (fun G168 hk168 fk168 ek168 => ?_)
  refine zs_iinc (v := nI (l + 1)) hX rfl (nI_add _ 1) (by decide) rfl d_M_base_171 ?_
  refine zr_goto hX (tgt := 11) (by decide) d_M_base_174 ?_
  refine zw_drop 4 ?_
  exact kk _ _ rfl hk168 (zMf.tr zMf.rf fk168 rfl) (Eq.trans ek168 rfl) rfl
theorem zB_pop {g : zGt} {X : zX} {d : Nat} {Post : zRes → zG → Prop} (hX : zOK g X b_M_base y_M_base none [] 6 d 0 0) (hd : 4 ≤ d) {G : zG} {u : zU} {m : Nat} (h : zMv u m G) {p q : Int32} (cm : Nat) (hc : u.i 6 = nI cm) (h1 : 1 ≤ cm) (h2 : cm ≤ 24) (l : Nat) (hl : l < 24) (W D : Int32) (hW : u.ar 24 (l + 1) = W) (hD : u.ar 25 (l + 1) = D) (W2 D2 : Int32) (hW2 : u.ar 24 l = W2) (hD2 : u.ar 25 l = D2) (n : Nat) (hn9 : n < 24) (hn : s_M_next W D = nI 24) (hn2 : s_M_next W2 D2 = nI n) (kk : ∀ (u2 : zU) (G2 : zG), u2 = (zua (t_M_joinBase u l n) 25 (upd ((t_M_joinBase u l n).ar 25) l ((((t_M_joinBase u l n).ar 25) l) ||| (1 <<< ((nI n) &&& 31))))) → zMv u2 m G2 → zMf u m G G2 → u2.1 = u.1 → u2.2.1 = u.2.1 → zw g X Post 11 [some (.ref m), some (.int p), some (.int q), some (.int (nI l)), none, none] [] G2 0 0) : zw g X Post 11 [some (.ref m), some (.int p), some (.int q), some (.int (nI (l + 1))), none, none] [] G 0 0 := by
  refine zr_iload_n hX rfl d_M_base_11 ?_
  refine zr_if_lt hX (tgt := 177) d_M_base_12 (by decide) (fun h9 => absurd h9 (nI_pos (n := (l + 1)) (by omega))) (fun _ => ?_)
  refine zr_aload_n hX rfl d_M_base_15 ?_
  refine zr_get hX k_M 24 (by decide) q677 rfl h.m rfl d_M_base_16 ?_
  refine zr_iload_n hX rfl d_M_base_19 ?_
  refine zr_ialdV hX (h.ar 24 rfl) (l + 1) rfl (by omega) (by decide) (v := W) hW d_M_base_20 ?_
  refine zr_aload_n hX rfl d_M_base_21 ?_
  refine zr_get hX k_M 25 (by decide) q678 rfl h.m rfl d_M_base_22 ?_
  refine zr_iload_n hX rfl d_M_base_25 ?_
  refine zr_ialdV hX (h.ar 25 rfl) (l + 1) rfl (by omega) (by decide) (v := D) hD d_M_base_26 ?_
  refine zr_pS hX (c_M_next g (d - 1) _ W D) l_M_152 st_M_next f_M_next rfl (Nat.le_of_ble_eq_true rfl) (by omega) (Nat.zero_le _) (Nat.zero_le _) d_M_base_27 ?_
  rw [show s_M_next W D = nI 24 from hn]
  refine zs_istore hX (by decide) rfl d_M_base_30 ?_
  refine zr_iload hX rfl d_M_base_32 ?_
  refine zr_bipush (v := 24) hX rfl d_M_base_34 ?_
  refine zr_icmp_ne hX (tgt := 87) d_M_base_36 (by decide) (fun h9 => absurd h9 (zq_eqT (a := 24) (b := 24) (by omega))) (fun _ => ?_)
  refine zs_iinc (v := nI l) hX rfl (zm1 l) (by decide) rfl d_M_base_39 ?_
  refine zr_iload_n hX rfl d_M_base_42 ?_
  refine zr_if_ge hX (tgt := 47) d_M_base_43 (by decide) (fun _ => ?_) (fun h9 => absurd h9 (zq_ge0T (a := l) (by omega)))
  refine zr_aload_n hX rfl d_M_base_47 ?_
  refine zr_get hX k_M 24 (by decide) q677 rfl h.m rfl d_M_base_48 ?_
  refine zr_iload_n hX rfl d_M_base_51 ?_
  refine zr_ialdV hX (h.ar 24 rfl) l rfl (by omega) (by decide) (v := W2) hW2 d_M_base_52 ?_
  refine zr_aload_n hX rfl d_M_base_53 ?_
  refine zr_get hX k_M 25 (by decide) q678 rfl h.m rfl d_M_base_54 ?_
  refine zr_iload_n hX rfl d_M_base_57 ?_
  refine zr_ialdV hX (h.ar 25 rfl) l rfl (by omega) (by decide) (v := D2) hD2 d_M_base_58 ?_
  refine zr_pS hX (c_M_next g (d - 1) _ W2 D2) l_M_152 st_M_next f_M_next rfl (Nat.le_of_ble_eq_true rfl) (by omega) (Nat.zero_le _) (Nat.zero_le _) d_M_base_59 ?_
  rw [show s_M_next W2 D2 = nI n from hn2]
  refine zs_istore hX (by decide) rfl d_M_base_62 ?_
  refine zr_aload_n hX rfl d_M_base_64 ?_
  refine zr_iload_n hX rfl d_M_base_65 ?_
  refine zr_iload hX rfl d_M_base_66 ?_
  refine zr_mV0 hX (c_M_joinBase g (d - 1) _ u m h l n (by omega) (by omega)) l_M_155 im_M_joinBase se_M_joinBase f_M_joinBase rfl (Nat.le_of_ble_eq_true rfl) (by omega) (Nat.zero_le _) (Nat.zero_le _) d_M_base_68 (Nat.zero_le _) (Nat.zero_le _) (zMv.m h) (fun G68 hk68 fk68 ek68 => ?_)
  obtain ⟨u68, hu68⟩ : ∃ w, w = (t_M_joinBase u l n) := ⟨_, rfl⟩
  rw [← hu68] at hk68 ek68
  refine zr_aload_n hX rfl d_M_base_71 ?_
  refine zr_get hX k_M 25 (by decide) q678 rfl hk68.m rfl d_M_base_72 ?_
  refine zr_iload_n hX rfl d_M_base_75 ?_
  refine zr_dup2 hX rfl rfl d_M_base_76 ?_
  refine zr_ialdN hX (hk68.ar 25 rfl) l rfl (by omega) (by decide) d_M_base_77 ?_
  refine zr_iconst (v := 1) hX rfl d_M_base_78 ?_
  refine zr_iload hX rfl d_M_base_79 ?_
  refine zr_ishl hX d_M_base_81 ?_
  refine zr_ior hX d_M_base_82 ?_
  refine zr_iastN hX (hk68.ar 25 rfl) l rfl (by omega) (by decide) d_M_base_83 ?_
  refine zr_goto hX (tgt := 174) (by decide) d_M_base_84 ?_
  refine zr_goto hX (tgt := 11) (by decide) d_M_base_174 ?_
  refine zw_drop 4 ?_
  refine zw_drop 5 ?_
  exact kk _ _ (by rw [hu68]) (zMv.arr hk68 25 rfl _) (zMf.arr (zMf.tr zMf.rf fk68 rfl) 25 rfl (congrFun (Eq.trans ek68 rfl) 25) _) (Eq.trans ek68 rfl) (by show u68.2.1 = u.2.1; rw [hu68]; exact z_joinB_i _ _ _)
