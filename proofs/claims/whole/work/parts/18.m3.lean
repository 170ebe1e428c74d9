theorem zcellM (l x y : Nat) : s_M_cellOf (nI l) (nI x) (nI y) = nI (1024 * l + 32 * y + x) := by
  unfold s_M_cellOf
  rw [zl1024, zl32, pk_mul, pk_mul, nI_add, nI_add]
theorem c_M_cellN (g : zGt) (d : Nat) (G : zG) (l x y : Nat) : zMet g y_M_cellOf b_M_cellOf 3 (some .int) [] d 0 0 [.int (nI l), .int (nI x), .int (nI y)] G (zD1 (.int (nI (1024 * l + 32 * y + x))) G) := by
  rw [← zcellM]
  exact c_M_cellOf g d G _ _ _
theorem c_M_paint_bad (g : zGt) (d : Nat) (hd : 1 ≤ d) (G : zG) (u : zU) (m : Nat) (h : zMv u m G) (p : Int32) (q : Int32) (w : Int32) (hbad : s_M_isBranch u p = 0 ∨ s_M_isLayer q = 0 ∨ s_M_isValue w = 0) : zMet g y_M_paint b_M_paint 6 none [] d 0 0 [.ref m, .int p, .int q, .int w] G (zMq none (zuc u 0 1) u m G) := by
  refine zMet.of (by decide) (Nat.le_of_ble_eq_true rfl) rfl (fun X hX => ?_)
  refine zr_aload_n hX rfl d_M_paint_0 ?_
  refine zr_aload_n hX rfl d_M_paint_1 ?_
  refine zr_iload_n hX rfl d_M_paint_2 ?_
  refine zr_pV hX (c_M_isBranch g (d - 1) _ u m h p) l_M_97 im_M_isBranch se_M_isBranch f_M_isBranch k_M.1 h.m rfl (Nat.le_of_ble_eq_true rfl) (by omega) (Nat.zero_le _) (Nat.zero_le _) d_M_paint_3 ?_
  refine zr_if_eq hX (tgt := 23) d_M_paint_6 (by decide) (fun h6 => ?_) (fun h6 => ?_)
  · skip
    refine zr_iconst (v := 1) hX rfl d_M_paint_23 ?_
    refine zr_goto hX (tgt := 28) (by decide) d_M_paint_24 ?_
    refine zr_mV1 hX (c_M_fails1 g (d - 1) _ u m h ) l_M_119 im_M_fails se_M_fails f_M_fails rfl (Nat.le_of_ble_eq_true rfl) (by omega) (Nat.zero_le _) (Nat.zero_le _) d_M_paint_28 (Nat.zero_le _) (Nat.zero_le _) (zMv.m h) (fun G28 hk28 fk28 ek28 => ?_)
    refine zr_if_eq hX (tgt := 35) d_M_paint_31 (by decide) (fun h => absurd h (by decide)) (fun _ => ?_)
    exact zr_vret hX d_M_paint_34 ⟨rfl, hk28, (zMf.tr zMf.rf fk28 rfl), rfl⟩
  · skip
    refine zr_iload_n hX rfl d_M_paint_9 ?_
    refine zr_pS hX (c_M_isLayer g (d - 1) _ q) l_M_102 st_M_isLayer f_M_isLayer rfl (Nat.le_of_ble_eq_true rfl) (by omega) (Nat.zero_le _) (Nat.zero_le _) d_M_paint_10 ?_
    refine zr_if_eq hX (tgt := 23) d_M_paint_13 (by decide) (fun h13 => ?_) (fun h13 => ?_)
    · skip
      refine zr_iconst (v := 1) hX rfl d_M_paint_23 ?_
      refine zr_goto hX (tgt := 28) (by decide) d_M_paint_24 ?_
      refine zr_mV1 hX (c_M_fails1 g (d - 1) _ u m h ) l_M_119 im_M_fails se_M_fails f_M_fails rfl (Nat.le_of_ble_eq_true rfl) (by omega) (Nat.zero_le _) (Nat.zero_le _) d_M_paint_28 (Nat.zero_le _) (Nat.zero_le _) (zMv.m h) (fun G28 hk28 fk28 ek28 => ?_)
      refine zr_if_eq hX (tgt := 35) d_M_paint_31 (by decide) (fun h => absurd h (by decide)) (fun _ => ?_)
      exact zr_vret hX d_M_paint_34 ⟨rfl, hk28, (zMf.tr zMf.rf fk28 rfl), rfl⟩
    · skip
      refine zr_iload_n hX rfl d_M_paint_16 ?_
      refine zr_pS hX (c_M_isValue g (d - 1) _ w) l_M_116 st_M_isValue f_M_isValue rfl (Nat.le_of_ble_eq_true rfl) (by omega) (Nat.zero_le _) (Nat.zero_le _) d_M_paint_17 ?_
      refine zr_if_ne hX (tgt := 27) d_M_paint_20 (by decide) (fun h20 => ?_) (fun h20 => ?_)
      · skip
        exact False.elim ((fun z => z.elim h6 (fun z => z.elim h13 h20)) hbad)
      · skip
        refine zr_iconst (v := 1) hX rfl d_M_paint_23 ?_
        refine zr_goto hX (tgt := 28) (by decide) d_M_paint_24 ?_
        refine zr_mV1 hX (c_M_fails1 g (d - 1) _ u m h ) l_M_119 im_M_fails se_M_fails f_M_fails rfl (Nat.le_of_ble_eq_true rfl) (by omega) (Nat.zero_le _) (Nat.zero_le _) d_M_paint_28 (Nat.zero_le _) (Nat.zero_le _) (zMv.m h) (fun G28 hk28 fk28 ek28 => ?_)
        refine zr_if_eq hX (tgt := 35) d_M_paint_31 (by decide) (fun h => absurd h (by decide)) (fun _ => ?_)
        exact zr_vret hX d_M_paint_34 ⟨rfl, hk28, (zMf.tr zMf.rf fk28 rfl), rfl⟩
def st_M_paint_x (p q : Nat) (w : Int32) (lf wd tp : Nat) (j : Nat) (i : Nat) (t : zU) : zU := (zgive t p (1024 * q + 32 * (tp + j) + (lf + i)) w)
def st_M_paint_y (p q : Nat) (w : Int32) (lf wd tp : Nat) (j : Nat) (s : zU) : zU := (zfor wd (st_M_paint_x p q w lf wd tp j) s)
theorem c_M_paint_ok (g : zGt) (d : Nat) (hd : 1 ≤ d) (G : zG) (u : zU) (m : Nat) (h : zMv u m G) (p : Nat) (q : Nat) (w : Int32) (lf tp wd hg : Nat) (hlf : u.i 16 = nI lf) (htp : u.i 17 = nI tp) (hwd : u.i 18 = nI wd) (hhg : u.i 19 = nI hg) (hr1 : lf + wd ≤ 32) (hr2 : tp + hg ≤ 32) (hp : p < 4) (hq : q < 4) (ho1 : ¬ s_M_isBranch u (nI p) = 0) (ho2 : ¬ s_M_isLayer (nI q) = 0) (ho3 : ¬ s_M_isValue w = 0) : zMet g y_M_paint b_M_paint 6 none [] d 0 0 [.ref m, .int (nI p), .int (nI q), .int w] G (zMq none (zfor hg (st_M_paint_y p q w lf wd tp) (zuc u 0 0)) u m G) := by
  refine zMet.of (by decide) (Nat.le_of_ble_eq_true rfl) rfl (fun X hX => ?_)
  refine zr_aload_n hX rfl d_M_paint_0 ?_
  refine zr_aload_n hX rfl d_M_paint_1 ?_
  refine zr_iload_n hX rfl d_M_paint_2 ?_
  refine zr_pV hX (c_M_isBranch g (d - 1) _ u m h (nI p)) l_M_97 im_M_isBranch se_M_isBranch f_M_isBranch k_M.1 h.m rfl (Nat.le_of_ble_eq_true rfl) (by omega) (Nat.zero_le _) (Nat.zero_le _) d_M_paint_3 ?_
  refine zr_if_eq hX (tgt := 23) d_M_paint_6 (by decide) (fun h9 => absurd h9 ho1) (fun _ => ?_)
  refine zr_iload_n hX rfl d_M_paint_9 ?_
  refine zr_pS hX (c_M_isLayer g (d - 1) _ (nI q)) l_M_102 st_M_isLayer f_M_isLayer rfl (Nat.le_of_ble_eq_true rfl) (by omega) (Nat.zero_le _) (Nat.zero_le _) d_M_paint_10 ?_
  refine zr_if_eq hX (tgt := 23) d_M_paint_13 (by decide) (fun h9 => absurd h9 ho2) (fun _ => ?_)
  refine zr_iload_n hX rfl d_M_paint_16 ?_
  refine zr_pS hX (c_M_isValue g (d - 1) _ w) l_M_116 st_M_isValue f_M_isValue rfl (Nat.le_of_ble_eq_true rfl) (by omega) (Nat.zero_le _) (Nat.zero_le _) d_M_paint_17 ?_
  refine zr_if_ne hX (tgt := 27) d_M_paint_20 (by decide) (fun _ => ?_) (fun h9 => absurd h9 (fun z => ho3 z))
  refine zr_iconst (v := 0) hX rfl d_M_paint_27 ?_
  refine zr_mV1 hX (c_M_fails0 g (d - 1) _ u m h ) l_M_119 im_M_fails se_M_fails f_M_fails rfl (Nat.le_of_ble_eq_true rfl) (by omega) (Nat.zero_le _) (Nat.zero_le _) d_M_paint_28 (Nat.zero_le _) (Nat.zero_le _) (zMv.m h) (fun G28 hk28 fk28 ek28 => ?_)
  refine zr_if_eq hX (tgt := 35) d_M_paint_31 (by decide) (fun _ => ?_) (fun h => absurd h (by decide))
  refine zr_aload_n hX rfl d_M_paint_35 ?_
  refine zr_get hX k_M 17 (by decide) q670 rfl hk28.m (zml17 htp) d_M_paint_36 ?_
  refine zs_istore hX (by decide) rfl d_M_paint_39 ?_
  have L41 : ∀ j, j ≤ hg → ∀ (s : zU) (G_s : zG), s = zfor j (st_M_paint_y p q w lf wd tp) (zuc u 0 0) → zMv s m G_s → zMf u m G G_s → s.1 = u.1 → s.2.1 = (zuc u 0 0).2.1 → zw g X (zMq none (zfor hg (st_M_paint_y p q w lf wd tp) (zuc u 0 0)) u m G) 41 [some (.ref m), some (.int (nI p)), some (.int (nI q)), some (.int w), some (.int (nI (tp + j))), none] [] G_s 0 0 := by
    refine zup hg (fun j hj_s ih_s => ?_)
    intro s G_s hs_s hk_s fk_s ek_s ik_s
    by_cases hlt_s : j < hg
    · skip
      refine zr_iload hX rfl d_M_paint_41 ?_
      refine zr_aload_n hX rfl d_M_paint_43 ?_
      refine zr_get hX k_M 17 (by decide) q670 rfl hk_s.m (zml17 (Eq.trans (congrFun ik_s 17) htp)) d_M_paint_44 ?_
      refine zr_aload_n hX rfl d_M_paint_47 ?_
      refine zr_get hX k_M 19 (by decide) q672 rfl hk_s.m (zml19 (Eq.trans (congrFun ik_s 19) hhg)) d_M_paint_48 ?_
      refine zr_iadd hX d_M_paint_51 ?_
      refine zr_icmp_ge hX (tgt := 101) d_M_paint_52 (by decide) (fun h9 => absurd h9 (zci hlt_s (by omega))) (fun _ => ?_)
      refine zr_aload_n hX rfl d_M_paint_55 ?_
      refine zr_get hX k_M 16 (by decide) q669 rfl hk_s.m (zml16 (Eq.trans (congrFun ik_s 16) hlf)) d_M_paint_56 ?_
      refine zs_istore hX (by decide) rfl d_M_paint_59 ?_
      have L61 : ∀ i, i ≤ wd → ∀ (t : zU) (G_t : zG), t = zfor i (st_M_paint_x p q w lf wd tp j) s → zMv t m G_t → zMf u m G G_t → t.1 = u.1 → t.2.1 = s.2.1 → zw g X (zMq none (zfor hg (st_M_paint_y p q w lf wd tp) (zuc u 0 0)) u m G) 61 [some (.ref m), some (.int (nI p)), some (.int (nI q)), some (.int w), some (.int (nI (tp + j))), some (.int (nI (lf + i)))] [] G_t 0 0 := by
        refine zup wd (fun i hj_t ih_t => ?_)
        intro t G_t hs_t hk_t fk_t ek_t ik_t
        by_cases hlt_t : i < wd
        · skip
          refine zr_iload hX rfl d_M_paint_61 ?_
          refine zr_aload_n hX rfl d_M_paint_63 ?_
          refine zr_get hX k_M 16 (by decide) q669 rfl hk_t.m (zml16 (Eq.trans (congrFun ik_t 16) (Eq.trans (congrFun ik_s 16) hlf))) d_M_paint_64 ?_
          refine zr_aload_n hX rfl d_M_paint_67 ?_
          refine zr_get hX k_M 18 (by decide) q671 rfl hk_t.m (zml18 (Eq.trans (congrFun ik_t 18) (Eq.trans (congrFun ik_s 18) hwd))) d_M_paint_68 ?_
          refine zr_iadd hX d_M_paint_71 ?_
          refine zr_icmp_ge hX (tgt := 95) d_M_paint_72 (by decide) (fun h9 => absurd h9 (zci hlt_t (by omega))) (fun _ => ?_)
          refine zr_aload_n hX rfl d_M_paint_75 ?_
          refine zr_iload_n hX rfl d_M_paint_76 ?_
          refine zr_iload_n hX rfl d_M_paint_77 ?_
          refine zr_iload hX rfl d_M_paint_78 ?_
          refine zr_iload hX rfl d_M_paint_80 ?_
          refine zr_pS hX (c_M_cellN g (d - 1) _ q (lf + i) (tp + j)) l_M_123 st_M_cellOf f_M_cellOf rfl (Nat.le_of_ble_eq_true rfl) (by omega) (Nat.zero_le _) (Nat.zero_le _) d_M_paint_82 ?_
          refine zr_iload_n hX rfl d_M_paint_85 ?_
          refine zr_mV0 hX (c_M_give g (d - 1) _ t m hk_t p (1024 * q + 32 * (tp + j) + (lf + i)) w (by omega) (by omega)) l_M_127 im_M_give se_M_give f_M_give rfl (Nat.le_of_ble_eq_true rfl) (by omega) (Nat.zero_le _) (Nat.zero_le _) d_M_paint_86 (Nat.zero_le _) (Nat.zero_le _) (zMv.m hk_t) (fun G86 hk86 fk86 ek86 => ?_)
          refine zs_iinc (v := nI (lf + (i + 1))) hX rfl (znI1 _) (by decide) rfl d_M_paint_89 ?_
          refine zr_goto hX (tgt := 61) (by decide) d_M_paint_92 ?_
          exact ih_t hlt_t (zgive t p (1024 * q + 32 * (tp + j) + (lf + i)) w) _ (by rw [zfor_s, ← hs_t]; unfold st_M_paint_x; rfl) hk86 (zMf.tr fk_t fk86 ek_t) (Eq.trans ek86 ek_t) ik_t
        · skip
          have ej_t : i = wd := by omega
          rw [ej_t] at hs_t
          refine zr_iload hX rfl d_M_paint_61 ?_
          refine zr_aload_n hX rfl d_M_paint_63 ?_
          refine zr_get hX k_M 16 (by decide) q669 rfl hk_t.m (zml16 (Eq.trans (congrFun ik_t 16) (Eq.trans (congrFun ik_s 16) hlf))) d_M_paint_64 ?_
          refine zr_aload_n hX rfl d_M_paint_67 ?_
          refine zr_get hX k_M 18 (by decide) q671 rfl hk_t.m (zml18 (Eq.trans (congrFun ik_t 18) (Eq.trans (congrFun ik_s 18) hwd))) d_M_paint_68 ?_
          refine zr_iadd hX d_M_paint_71 ?_
          refine zr_icmp_ge hX (tgt := 95) d_M_paint_72 (by decide) (fun _ => ?_) (fun h9 => absurd h9 (not_not_intro (zco hlt_t (by omega))))
          refine zs_iinc (v := nI (tp + (j + 1))) hX rfl (znI1 _) (by decide) rfl d_M_paint_95 ?_
          refine zr_goto hX (tgt := 41) (by decide) d_M_paint_98 ?_
          refine zw_drop 5 ?_
          exact ih_s hlt_s t _ (by rw [zfor_s, ← hs_s]; unfold st_M_paint_y; rw [← hs_t]) hk_t fk_t ek_t (Eq.trans ik_t ik_s)
      exact L61 0 (Nat.zero_le _) _ _ rfl hk_s fk_s ek_s rfl
    · skip
      have ej_s : j = hg := by omega
      rw [ej_s] at hs_s
      refine zr_iload hX rfl d_M_paint_41 ?_
      refine zr_aload_n hX rfl d_M_paint_43 ?_
      refine zr_get hX k_M 17 (by decide) q670 rfl hk_s.m (zml17 (Eq.trans (congrFun ik_s 17) htp)) d_M_paint_44 ?_
      refine zr_aload_n hX rfl d_M_paint_47 ?_
      refine zr_get hX k_M 19 (by decide) q672 rfl hk_s.m (zml19 (Eq.trans (congrFun ik_s 19) hhg)) d_M_paint_48 ?_
      refine zr_iadd hX d_M_paint_51 ?_
      refine zr_icmp_ge hX (tgt := 101) d_M_paint_52 (by decide) (fun _ => ?_) (fun h9 => absurd h9 (not_not_intro (zco hlt_s (by omega))))
      exact zr_vret hX d_M_paint_101 ⟨rfl, hs_s ▸ hk_s, fk_s, hs_s ▸ ek_s⟩
  exact L41 0 (Nat.zero_le _) _ _ rfl hk28 (zMf.tr zMf.rf fk28 rfl) (Eq.trans ek28 rfl) rfl
