theorem c_M_polygon_bad (g : zGt) (d : Nat) (hd : 1 ≤ d) (G : zG) (u : zU) (m : Nat) (h : zMv u m G) (p : Int32) (q : Int32) (n : Int32) (w : Int32) (hbad : s_M_isBranch u p = 0 ∨ s_M_isLayer q = 0 ∨ n < 3 ∨ 6 < n ∨ s_M_isValue w = 0) : zMet g y_M_polygon b_M_polygon 9 none [] d 0 0 [.ref m, .int p, .int q, .int n, .int w] G (zMq none (zuc u 0 1) u m G) := by
  refine zMet.of (by decide) (Nat.le_of_ble_eq_true rfl) rfl (fun X hX => ?_)
  refine zr_aload_n hX rfl d_M_polygon_0 ?_
  refine zr_aload_n hX rfl d_M_polygon_1 ?_
  refine zr_iload_n hX rfl d_M_polygon_2 ?_
  refine zr_pV hX (c_M_isBranch g (d - 1) _ u m h p) l_M_97 im_M_isBranch se_M_isBranch f_M_isBranch k_M.1 h.m rfl (Nat.le_of_ble_eq_true rfl) (by omega) (Nat.zero_le _) (Nat.zero_le _) d_M_polygon_3 ?_
  refine zr_if_eq hX (tgt := 35) d_M_polygon_6 (by decide) (fun h6 => ?_) (fun h6 => ?_)
  · skip
    refine zr_iconst (v := 1) hX rfl d_M_polygon_35 ?_
    refine zr_goto hX (tgt := 40) (by decide) d_M_polygon_36 ?_
    refine zr_mV1 hX (c_M_fails1 g (d - 1) _ u m h ) l_M_119 im_M_fails se_M_fails f_M_fails rfl (Nat.le_of_ble_eq_true rfl) (by omega) (Nat.zero_le _) (Nat.zero_le _) d_M_polygon_40 (Nat.zero_le _) (Nat.zero_le _) (zMv.m h) (fun G40 hk40 fk40 ek40 => ?_)
    refine zr_if_eq hX (tgt := 47) d_M_polygon_43 (by decide) (fun h => absurd h (by decide)) (fun _ => ?_)
    exact zr_vret hX d_M_polygon_46 ⟨rfl, hk40, (zMf.tr zMf.rf fk40 rfl), rfl⟩
  · skip
    refine zr_iload_n hX rfl d_M_polygon_9 ?_
    refine zr_pS hX (c_M_isLayer g (d - 1) _ q) l_M_102 st_M_isLayer f_M_isLayer rfl (Nat.le_of_ble_eq_true rfl) (by omega) (Nat.zero_le _) (Nat.zero_le _) d_M_polygon_10 ?_
    refine zr_if_eq hX (tgt := 35) d_M_polygon_13 (by decide) (fun h13 => ?_) (fun h13 => ?_)
    · skip
      refine zr_iconst (v := 1) hX rfl d_M_polygon_35 ?_
      refine zr_goto hX (tgt := 40) (by decide) d_M_polygon_36 ?_
      refine zr_mV1 hX (c_M_fails1 g (d - 1) _ u m h ) l_M_119 im_M_fails se_M_fails f_M_fails rfl (Nat.le_of_ble_eq_true rfl) (by omega) (Nat.zero_le _) (Nat.zero_le _) d_M_polygon_40 (Nat.zero_le _) (Nat.zero_le _) (zMv.m h) (fun G40 hk40 fk40 ek40 => ?_)
      refine zr_if_eq hX (tgt := 47) d_M_polygon_43 (by decide) (fun h => absurd h (by decide)) (fun _ => ?_)
      exact zr_vret hX d_M_polygon_46 ⟨rfl, hk40, (zMf.tr zMf.rf fk40 rfl), rfl⟩
    · skip
      refine zr_iload_n hX rfl d_M_polygon_16 ?_
      refine zr_iconst (v := 3) hX rfl d_M_polygon_17 ?_
      refine zr_icmp_lt hX (tgt := 35) d_M_polygon_18 (by decide) (fun h18 => ?_) (fun h18 => ?_)
      · skip
        refine zr_iconst (v := 1) hX rfl d_M_polygon_35 ?_
        refine zr_goto hX (tgt := 40) (by decide) d_M_polygon_36 ?_
        refine zr_mV1 hX (c_M_fails1 g (d - 1) _ u m h ) l_M_119 im_M_fails se_M_fails f_M_fails rfl (Nat.le_of_ble_eq_true rfl) (by omega) (Nat.zero_le _) (Nat.zero_le _) d_M_polygon_40 (Nat.zero_le _) (Nat.zero_le _) (zMv.m h) (fun G40 hk40 fk40 ek40 => ?_)
        refine zr_if_eq hX (tgt := 47) d_M_polygon_43 (by decide) (fun h => absurd h (by decide)) (fun _ => ?_)
        exact zr_vret hX d_M_polygon_46 ⟨rfl, hk40, (zMf.tr zMf.rf fk40 rfl), rfl⟩
      · skip
        refine zr_iload_n hX rfl d_M_polygon_21 ?_
        refine zr_bipush (v := 6) hX rfl d_M_polygon_22 ?_
        refine zr_icmp_gt hX (tgt := 35) d_M_polygon_24 (by decide) (fun h24 => ?_) (fun h24 => ?_)
        · skip
          refine zr_iconst (v := 1) hX rfl d_M_polygon_35 ?_
          refine zr_goto hX (tgt := 40) (by decide) d_M_polygon_36 ?_
          refine zr_mV1 hX (c_M_fails1 g (d - 1) _ u m h ) l_M_119 im_M_fails se_M_fails f_M_fails rfl (Nat.le_of_ble_eq_true rfl) (by omega) (Nat.zero_le _) (Nat.zero_le _) d_M_polygon_40 (Nat.zero_le _) (Nat.zero_le _) (zMv.m h) (fun G40 hk40 fk40 ek40 => ?_)
          refine zr_if_eq hX (tgt := 47) d_M_polygon_43 (by decide) (fun h => absurd h (by decide)) (fun _ => ?_)
          exact zr_vret hX d_M_polygon_46 ⟨rfl, hk40, (zMf.tr zMf.rf fk40 rfl), rfl⟩
        · skip
          refine zr_iload hX rfl d_M_polygon_27 ?_
          refine zr_pS hX (c_M_isValue g (d - 1) _ w) l_M_116 st_M_isValue f_M_isValue rfl (Nat.le_of_ble_eq_true rfl) (by omega) (Nat.zero_le _) (Nat.zero_le _) d_M_polygon_29 ?_
          refine zr_if_ne hX (tgt := 39) d_M_polygon_32 (by decide) (fun h32 => ?_) (fun h32 => ?_)
          · skip
            exact False.elim ((fun z => z.elim h6 (fun z => z.elim h13 (fun z => z.elim h18 (fun z => z.elim h24 h32)))) hbad)
          · skip
            refine zr_iconst (v := 1) hX rfl d_M_polygon_35 ?_
            refine zr_goto hX (tgt := 40) (by decide) d_M_polygon_36 ?_
            refine zr_mV1 hX (c_M_fails1 g (d - 1) _ u m h ) l_M_119 im_M_fails se_M_fails f_M_fails rfl (Nat.le_of_ble_eq_true rfl) (by omega) (Nat.zero_le _) (Nat.zero_le _) d_M_polygon_40 (Nat.zero_le _) (Nat.zero_le _) (zMv.m h) (fun G40 hk40 fk40 ek40 => ?_)
            refine zr_if_eq hX (tgt := 47) d_M_polygon_43 (by decide) (fun h => absurd h (by decide)) (fun _ => ?_)
            exact zr_vret hX d_M_polygon_46 ⟨rfl, hk40, (zMf.tr zMf.rf fk40 rfl), rfl⟩
def st_M_polygon_i (t : zU) (n j i : Nat) (k : Nat) (r : Int32) : Int32 := if (s_M_meets t (nI k) (nI ((k + 1) % n)) (nI i) (nI j)) = 0 then (r + 0) else (r + 1)
def st_M_polygon_x (p q n : Nat) (w : Int32) (j : Nat) (i : Nat) (t : zU) : zU := if ((zfor n (st_M_polygon_i t n j i) 0) - (zfor n (st_M_polygon_i t n j i) 0) / 2 * 2) = 1 then (zgive t p (1024 * q + 32 * j + i) w) else t
def st_M_polygon_y (p q n : Nat) (w : Int32) (j : Nat) (s : zU) : zU := (zfor 32 (st_M_polygon_x p q n w j) s)
def t_M_polygon (u : zU) (p : Nat) (q : Nat) (n : Nat) (w : Int32) : zU := (zfor 32 (st_M_polygon_y p q n w) (zuc u 0 0))
theorem c_M_polygon_ok (g : zGt) (d : Nat) (hd : 1 ≤ d) (G : zG) (u : zU) (m : Nat) (h : zMv u m G) (p : Nat) (q : Nat) (n : Nat) (w : Int32) (hp : p < 4) (hq : q < 4) (hn1 : 3 ≤ n) (hn2 : n ≤ 6) (ho0 : ¬ s_M_isBranch u (nI p) = 0) (ho1 : ¬ s_M_isLayer (nI q) = 0) (ho4 : ¬ s_M_isValue w = 0) : zMet g y_M_polygon b_M_polygon 9 none [] d 0 0 [.ref m, .int (nI p), .int (nI q), .int (nI n), .int w] G (zMq none (t_M_polygon u p q n w) u m G) := by
  refine zMet.of (by decide) (Nat.le_of_ble_eq_true rfl) rfl (fun X hX => ?_)
  refine zr_aload_n hX rfl d_M_polygon_0 ?_
  refine zr_aload_n hX rfl d_M_polygon_1 ?_
  refine zr_iload_n hX rfl d_M_polygon_2 ?_
  refine zr_pV hX (c_M_isBranch g (d - 1) _ u m h (nI p)) l_M_97 im_M_isBranch se_M_isBranch f_M_isBranch k_M.1 h.m rfl (Nat.le_of_ble_eq_true rfl) (by omega) (Nat.zero_le _) (Nat.zero_le _) d_M_polygon_3 ?_
  refine zr_if_eq hX (tgt := 35) d_M_polygon_6 (by decide) (fun h9 => absurd h9 ho0) (fun _ => ?_)
  refine zr_iload_n hX rfl d_M_polygon_9 ?_
  refine zr_pS hX (c_M_isLayer g (d - 1) _ (nI q)) l_M_102 st_M_isLayer f_M_isLayer rfl (Nat.le_of_ble_eq_true rfl) (by omega) (Nat.zero_le _) (Nat.zero_le _) d_M_polygon_10 ?_
  refine zr_if_eq hX (tgt := 35) d_M_polygon_13 (by decide) (fun h9 => absurd h9 ho1) (fun _ => ?_)
  refine zr_iload_n hX rfl d_M_polygon_16 ?_
  refine zr_iconst (v := 3) hX rfl d_M_polygon_17 ?_
  refine zr_icmp_lt hX (tgt := 35) d_M_polygon_18 (by decide) (fun h9 => absurd h9 (nI_nlt (a := n) (b := 3) (by omega) (by omega))) (fun _ => ?_)
  refine zr_iload_n hX rfl d_M_polygon_21 ?_
  refine zr_bipush (v := 6) hX rfl d_M_polygon_22 ?_
  refine zr_icmp_gt hX (tgt := 35) d_M_polygon_24 (by decide) (fun h9 => absurd h9 (nI_nlt (a := 6) (b := n) (by omega) (by decide))) (fun _ => ?_)
  refine zr_iload hX rfl d_M_polygon_27 ?_
  refine zr_pS hX (c_M_isValue g (d - 1) _ w) l_M_116 st_M_isValue f_M_isValue rfl (Nat.le_of_ble_eq_true rfl) (by omega) (Nat.zero_le _) (Nat.zero_le _) d_M_polygon_29 ?_
  refine zr_if_ne hX (tgt := 39) d_M_polygon_32 (by decide) (fun _ => ?_) (fun h9 => absurd h9 ho4)
  refine zr_iconst (v := 0) hX rfl d_M_polygon_39 ?_
  refine zr_mV1 hX (c_M_fails0 g (d - 1) _ u m h ) l_M_119 im_M_fails se_M_fails f_M_fails rfl (Nat.le_of_ble_eq_true rfl) (by omega) (Nat.zero_le _) (Nat.zero_le _) d_M_polygon_40 (Nat.zero_le _) (Nat.zero_le _) (zMv.m h) (fun G40 hk40 fk40 ek40 => ?_)
  refine zr_if_eq hX (tgt := 47) d_M_polygon_43 (by decide) (fun _ => ?_) (fun h => absurd h (by decide))
  refine zr_iconst (v := 0) hX rfl d_M_polygon_47 ?_
  refine zs_istore hX (by decide) rfl d_M_polygon_48 ?_
  have L50 : ∀ j, j ≤ 32 → ∀ (s : zU) (G_s : zG), s = zfor j (st_M_polygon_y p q n w) (zuc u 0 0) → zMv s m G_s → zMf u m G G_s → s.1 = u.1 → s.2.1 = (zuc u 0 0).2.1 → zw g X (zMq none (t_M_polygon u p q n w) u m G) 50 [some (.ref m), some (.int (nI p)), some (.int (nI q)), some (.int (nI n)), some (.int w), some (.int (nI j)), none, none, none] [] G_s 0 0 := by
    refine zup 32 (fun j hj_s ih_s => ?_)
    intro s G_s hs_s hk_s fk_s ek_s ik_s
    by_cases hlt_s : j < 32
    · skip
      refine zr_iload hX rfl d_M_polygon_50 ?_
      refine zr_bipush (v := 32) hX rfl d_M_polygon_52 ?_
      refine zr_icmp_ge hX (tgt := 149) d_M_polygon_54 (by decide) (fun h9 => absurd h9 (nI_ge (a := j) (b := 32) (by omega) (by decide))) (fun _ => ?_)
      refine zr_iconst (v := 0) hX rfl d_M_polygon_57 ?_
      refine zs_istore hX (by decide) rfl d_M_polygon_58 ?_
      have L60 : ∀ i, i ≤ 32 → ∀ (t : zU) (G_t : zG), t = zfor i (st_M_polygon_x p q n w j) s → zMv t m G_t → zMf u m G G_t → t.1 = u.1 → t.2.1 = s.2.1 → zw g X (zMq none (t_M_polygon u p q n w) u m G) 60 [some (.ref m), some (.int (nI p)), some (.int (nI q)), some (.int (nI n)), some (.int w), some (.int (nI j)), some (.int (nI i)), none, none] [] G_t 0 0 := by
        refine zup 32 (fun i hj_t ih_t => ?_)
        intro t G_t hs_t hk_t fk_t ek_t ik_t
        by_cases hlt_t : i < 32
        · skip
          refine zr_iload hX rfl d_M_polygon_60 ?_
          refine zr_bipush (v := 32) hX rfl d_M_polygon_62 ?_
          refine zr_icmp_ge hX (tgt := 143) d_M_polygon_64 (by decide) (fun h9 => absurd h9 (nI_ge (a := i) (b := 32) (by omega) (by decide))) (fun _ => ?_)
          refine zr_iconst (v := 0) hX rfl d_M_polygon_67 ?_
          refine zs_istore hX (by decide) rfl d_M_polygon_68 ?_
          refine zr_iconst (v := 0) hX rfl d_M_polygon_70 ?_
          refine zs_istore hX (by decide) rfl d_M_polygon_71 ?_
          have L73 : ∀ k, k ≤ n → ∀ (r : Int32) (G_r : zG), r = zfor k (st_M_polygon_i t n j i) 0 → zMv t m G_r → zMf u m G G_r → zw g X (zMq none (t_M_polygon u p q n w) u m G) 73 [some (.ref m), some (.int (nI p)), some (.int (nI q)), some (.int (nI n)), some (.int w), some (.int (nI j)), some (.int (nI i)), some (.int r), some (.int (nI k))] [] G_r 0 0 := by
            refine zup n (fun k hj_r ih_r => ?_)
            intro r G_r hs_r hk_r fk_r
            by_cases hlt_r : k < n
            · skip
              refine zr_iload hX rfl d_M_polygon_73 ?_
              refine zr_iload_n hX rfl d_M_polygon_75 ?_
              refine zr_icmp_ge hX (tgt := 114) d_M_polygon_76 (by decide) (fun h9 => absurd h9 (nI_ge (a := k) (b := n) (by omega) (by omega))) (fun _ => ?_)
              refine zr_iload hX rfl d_M_polygon_79 ?_
              refine zr_aload_n hX rfl d_M_polygon_81 ?_
              refine zr_iload hX rfl d_M_polygon_82 ?_
              refine zr_iload hX rfl d_M_polygon_84 ?_
              refine zr_iconst (v := 1) hX rfl d_M_polygon_86 ?_
              refine zn_iadd (a := k) (b := 1) hX d_M_polygon_87 ?_
              refine zr_iload_n hX rfl d_M_polygon_88 ?_
              refine zn_irem (a := (k + 1)) (b := n) hX (by omega) (by omega) (by omega) d_M_polygon_89 ?_
              refine zr_iload hX rfl d_M_polygon_90 ?_
              refine zr_iload hX rfl d_M_polygon_92 ?_
              refine zr_pV hX (c_M_meets g (d - 1) _ t m hk_r (nI k) (nI ((k + 1) % n)) (nI i) (nI j) (vp_in_nI (by omega) (by decide)) (vp_in_nI (zmodlt (by omega) (by omega)) (by decide))) l_M_131 im_M_meets se_M_meets f_M_meets k_M.1 hk_r.m rfl (Nat.le_of_ble_eq_true rfl) (by omega) (Nat.zero_le _) (Nat.zero_le _) d_M_polygon_94 ?_
              refine zr_if_eq hX (tgt := 104) d_M_polygon_97 (by decide) (fun h97 => ?_) (fun h97 => ?_)
              · skip
                refine zr_iconst (v := 0) hX rfl d_M_polygon_104 ?_
                refine zr_iadd hX d_M_polygon_105 ?_
                refine zs_istore hX (by decide) rfl d_M_polygon_106 ?_
                refine zs_iinc (v := nI (k + 1)) hX rfl (nI_add _ 1) (by decide) rfl d_M_polygon_108 ?_
                refine zr_goto hX (tgt := 73) (by decide) d_M_polygon_111 ?_
                exact ih_r hlt_r (r + 0) _ (by rw [zfor_s, ← hs_r]; unfold st_M_polygon_i; rw [if_pos h97]) hk_r fk_r
              · skip
                refine zr_iconst (v := 1) hX rfl d_M_polygon_100 ?_
                refine zr_goto hX (tgt := 105) (by decide) d_M_polygon_101 ?_
                refine zr_iadd hX d_M_polygon_105 ?_
                refine zs_istore hX (by decide) rfl d_M_polygon_106 ?_
                refine zs_iinc (v := nI (k + 1)) hX rfl (nI_add _ 1) (by decide) rfl d_M_polygon_108 ?_
                refine zr_goto hX (tgt := 73) (by decide) d_M_polygon_111 ?_
                exact ih_r hlt_r (r + 1) _ (by rw [zfor_s, ← hs_r]; unfold st_M_polygon_i; rw [if_neg h97]) hk_r fk_r
            · skip
              have ej_r : k = n := by omega
              rw [ej_r] at hs_r
              refine zr_iload hX rfl d_M_polygon_73 ?_
              refine zr_iload_n hX rfl d_M_polygon_75 ?_
              refine zr_icmp_ge hX (tgt := 114) d_M_polygon_76 (by decide) (fun _ => ?_) (fun h9 => absurd h9 (zq_leT (a := n) (b := k) (by omega) (by omega)))
              refine zr_iload hX rfl d_M_polygon_114 ?_
              refine zr_iconst (v := 2) hX rfl d_M_polygon_116 ?_
              refine zr_irem hX (by decide) d_M_polygon_117 ?_
              refine zr_iconst (v := 1) hX rfl d_M_polygon_118 ?_
              refine zr_icmp_ne hX (tgt := 137) d_M_polygon_119 (by decide) (fun h119 => ?_) (fun h119 => ?_)
              · skip
                refine zs_iinc (v := nI (i + 1)) hX rfl (nI_add _ 1) (by decide) rfl d_M_polygon_137 ?_
                refine zr_goto hX (tgt := 60) (by decide) d_M_polygon_140 ?_
                refine zw_drop 7 ?_
                refine zw_drop 8 ?_
                exact ih_t hlt_t t _ (by rw [zfor_s, ← hs_t]; unfold st_M_polygon_x; rw [← hs_r]; rw [if_neg h119]) hk_r fk_r ek_t ik_t
              · skip
                refine zr_aload_n hX rfl d_M_polygon_122 ?_
                refine zr_iload_n hX rfl d_M_polygon_123 ?_
                refine zr_iload_n hX rfl d_M_polygon_124 ?_
                refine zr_iload hX rfl d_M_polygon_125 ?_
                refine zr_iload hX rfl d_M_polygon_127 ?_
                refine zr_pS hX (c_M_cellN g (d - 1) _ q i j) l_M_123 st_M_cellOf f_M_cellOf rfl (Nat.le_of_ble_eq_true rfl) (by omega) (Nat.zero_le _) (Nat.zero_le _) d_M_polygon_129 ?_
                refine zr_iload hX rfl d_M_polygon_132 ?_
                refine zr_mV0 hX (c_M_give g (d - 1) _ t m hk_r p (1024 * q + 32 * j + i) w (by omega) (by omega)) l_M_127 im_M_give se_M_give f_M_give rfl (Nat.le_of_ble_eq_true rfl) (by omega) (Nat.zero_le _) (Nat.zero_le _) d_M_polygon_134 (Nat.zero_le _) (Nat.zero_le _) (zMv.m hk_r) (fun G134 hk134 fk134 ek134 => ?_)
                refine zs_iinc (v := nI (i + 1)) hX rfl (nI_add _ 1) (by decide) rfl d_M_polygon_137 ?_
                refine zr_goto hX (tgt := 60) (by decide) d_M_polygon_140 ?_
                refine zw_drop 7 ?_
                refine zw_drop 8 ?_
                exact ih_t hlt_t (zgive t p (1024 * q + 32 * j + i) w) _ (by rw [zfor_s, ← hs_t]; unfold st_M_polygon_x; rw [← hs_r]; rw [if_pos h119]) hk134 (zMf.tr fk_r fk134 ek_t) (Eq.trans ek134 ek_t) ik_t
          exact L73 0 (Nat.zero_le _) _ _ rfl hk_t fk_t
        · skip
          have ej_t : i = 32 := by omega
          rw [ej_t] at hs_t
          refine zr_iload hX rfl d_M_polygon_60 ?_
          refine zr_bipush (v := 32) hX rfl d_M_polygon_62 ?_
          refine zr_icmp_ge hX (tgt := 143) d_M_polygon_64 (by decide) (fun _ => ?_) (fun h9 => absurd h9 (zq_leT (a := 32) (b := i) (by omega) (by omega)))
          refine zs_iinc (v := nI (j + 1)) hX rfl (nI_add _ 1) (by decide) rfl d_M_polygon_143 ?_
          refine zr_goto hX (tgt := 50) (by decide) d_M_polygon_146 ?_
          refine zw_drop 6 ?_
          exact ih_s hlt_s t _ (by rw [zfor_s, ← hs_s]; unfold st_M_polygon_y; rw [← hs_t]) hk_t fk_t ek_t (Eq.trans ik_t ik_s)
      exact L60 0 (Nat.zero_le _) _ _ rfl hk_s fk_s ek_s rfl
    · skip
      have ej_s : j = 32 := by omega
      rw [ej_s] at hs_s
      refine zr_iload hX rfl d_M_polygon_50 ?_
      refine zr_bipush (v := 32) hX rfl d_M_polygon_52 ?_
      refine zr_icmp_ge hX (tgt := 149) d_M_polygon_54 (by decide) (fun _ => ?_) (fun h9 => absurd h9 (zq_leT (a := 32) (b := j) (by omega) (by omega)))
      exact zr_vret hX d_M_polygon_149 ⟨rfl, (by unfold t_M_polygon; rw [← hs_s]; exact hk_s), fk_s, (by unfold t_M_polygon; rw [← hs_s]; exact ek_s)⟩
  exact L50 0 (Nat.zero_le _) _ _ rfl hk40 (zMf.tr zMf.rf fk40 rfl) (Eq.trans ek40 rfl) rfl
theorem c_M_copy_bad (g : zGt) (d : Nat) (hd : 1 ≤ d) (G : zG) (u : zU) (m : Nat) (h : zMv u m G) (p : Int32) (q : Int32) (c : Int32) (f : Int32) (x : Int32) (y : Int32) (hbad : s_M_isBranch u p = 0 ∨ s_M_isLayer q = 0 ∨ s_M_isCommit u c = 0 ∨ s_M_isLayer f = 0 ∨ x < 0 ∨ y < 0 ∨ 32 ≤ x ∨ 32 ≤ y ∨ 32 - x < u.i 18 ∨ 32 - y < u.i 19) : zMet g y_M_copy b_M_copy 12 none [] d 0 0 [.ref m, .int p, .int q, .int c, .int f, .int x, .int y] G (zMq none (zuc u 0 1) u m G) := by
  refine zMet.of (by decide) (Nat.le_of_ble_eq_true rfl) rfl (fun X hX => ?_)
  refine zr_aload_n hX rfl d_M_copy_0 ?_
  refine zr_iload_n hX rfl d_M_copy_1 ?_
  refine zr_pV hX (c_M_isBranch g (d - 1) _ u m h p) l_M_97 im_M_isBranch se_M_isBranch f_M_isBranch k_M.1 h.m rfl (Nat.le_of_ble_eq_true rfl) (by omega) (Nat.zero_le _) (Nat.zero_le _) d_M_copy_2 ?_
  refine zr_if_eq hX (tgt := 83) d_M_copy_5 (by decide) (fun h5 => ?_) (fun h5 => ?_)
  · skip
    refine zr_iconst (v := 0) hX rfl d_M_copy_83 ?_
    refine zs_istore hX (by decide) rfl d_M_copy_84 ?_
    refine zr_aload_n hX rfl d_M_copy_86 ?_
    refine zr_iload hX rfl d_M_copy_87 ?_
    refine zr_if_ne hX (tgt := 96) d_M_copy_89 (by decide) (fun h => absurd h (by decide)) (fun _ => ?_)
    refine zr_iconst (v := 1) hX rfl d_M_copy_92 ?_
    refine zr_goto hX (tgt := 97) (by decide) d_M_copy_93 ?_
    refine zr_mV1 hX (c_M_fails1 g (d - 1) _ u m h ) l_M_119 im_M_fails se_M_fails f_M_fails rfl (Nat.le_of_ble_eq_true rfl) (by omega) (Nat.zero_le _) (Nat.zero_le _) d_M_copy_97 (Nat.zero_le _) (Nat.zero_le _) (zMv.m h) (fun G97 hk97 fk97 ek97 => ?_)
    refine zr_if_eq hX (tgt := 104) d_M_copy_100 (by decide) (fun h => absurd h (by decide)) (fun _ => ?_)
    exact zr_vret hX d_M_copy_103 ⟨rfl, hk97, (zMf.tr zMf.rf fk97 rfl), rfl⟩
  · skip
    refine zr_iload_n hX rfl d_M_copy_8 ?_
    refine zr_pS hX (c_M_isLayer g (d - 1) _ q) l_M_102 st_M_isLayer f_M_isLayer rfl (Nat.le_of_ble_eq_true rfl) (by omega) (Nat.zero_le _) (Nat.zero_le _) d_M_copy_9 ?_
    refine zr_if_eq hX (tgt := 83) d_M_copy_12 (by decide) (fun h12 => ?_) (fun h12 => ?_)
    · skip
      refine zr_iconst (v := 0) hX rfl d_M_copy_83 ?_
      refine zs_istore hX (by decide) rfl d_M_copy_84 ?_
      refine zr_aload_n hX rfl d_M_copy_86 ?_
      refine zr_iload hX rfl d_M_copy_87 ?_
      refine zr_if_ne hX (tgt := 96) d_M_copy_89 (by decide) (fun h => absurd h (by decide)) (fun _ => ?_)
      refine zr_iconst (v := 1) hX rfl d_M_copy_92 ?_
      refine zr_goto hX (tgt := 97) (by decide) d_M_copy_93 ?_
      refine zr_mV1 hX (c_M_fails1 g (d - 1) _ u m h ) l_M_119 im_M_fails se_M_fails f_M_fails rfl (Nat.le_of_ble_eq_true rfl) (by omega) (Nat.zero_le _) (Nat.zero_le _) d_M_copy_97 (Nat.zero_le _) (Nat.zero_le _) (zMv.m h) (fun G97 hk97 fk97 ek97 => ?_)
      refine zr_if_eq hX (tgt := 104) d_M_copy_100 (by decide) (fun h => absurd h (by decide)) (fun _ => ?_)
      exact zr_vret hX d_M_copy_103 ⟨rfl, hk97, (zMf.tr zMf.rf fk97 rfl), rfl⟩
    · skip
      refine zr_aload_n hX rfl d_M_copy_15 ?_
      refine zr_iload_n hX rfl d_M_copy_16 ?_
      refine zr_pV hX (c_M_isCommit g (d - 1) _ u m h c) l_M_93 im_M_isCommit se_M_isCommit f_M_isCommit k_M.1 h.m rfl (Nat.le_of_ble_eq_true rfl) (by omega) (Nat.zero_le _) (Nat.zero_le _) d_M_copy_17 ?_
      refine zr_if_eq hX (tgt := 83) d_M_copy_20 (by decide) (fun h20 => ?_) (fun h20 => ?_)
      · skip
        refine zr_iconst (v := 0) hX rfl d_M_copy_83 ?_
        refine zs_istore hX (by decide) rfl d_M_copy_84 ?_
        refine zr_aload_n hX rfl d_M_copy_86 ?_
        refine zr_iload hX rfl d_M_copy_87 ?_
        refine zr_if_ne hX (tgt := 96) d_M_copy_89 (by decide) (fun h => absurd h (by decide)) (fun _ => ?_)
        refine zr_iconst (v := 1) hX rfl d_M_copy_92 ?_
        refine zr_goto hX (tgt := 97) (by decide) d_M_copy_93 ?_
        refine zr_mV1 hX (c_M_fails1 g (d - 1) _ u m h ) l_M_119 im_M_fails se_M_fails f_M_fails rfl (Nat.le_of_ble_eq_true rfl) (by omega) (Nat.zero_le _) (Nat.zero_le _) d_M_copy_97 (Nat.zero_le _) (Nat.zero_le _) (zMv.m h) (fun G97 hk97 fk97 ek97 => ?_)
        refine zr_if_eq hX (tgt := 104) d_M_copy_100 (by decide) (fun h => absurd h (by decide)) (fun _ => ?_)
        exact zr_vret hX d_M_copy_103 ⟨rfl, hk97, (zMf.tr zMf.rf fk97 rfl), rfl⟩
      · skip
        refine zr_iload hX rfl d_M_copy_23 ?_
        refine zr_pS hX (c_M_isLayer g (d - 1) _ f) l_M_102 st_M_isLayer f_M_isLayer rfl (Nat.le_of_ble_eq_true rfl) (by omega) (Nat.zero_le _) (Nat.zero_le _) d_M_copy_25 ?_
        refine zr_if_eq hX (tgt := 83) d_M_copy_28 (by decide) (fun h28 => ?_) (fun h28 => ?_)
        · skip
          refine zr_iconst (v := 0) hX rfl d_M_copy_83 ?_
          refine zs_istore hX (by decide) rfl d_M_copy_84 ?_
          refine zr_aload_n hX rfl d_M_copy_86 ?_
          refine zr_iload hX rfl d_M_copy_87 ?_
          refine zr_if_ne hX (tgt := 96) d_M_copy_89 (by decide) (fun h => absurd h (by decide)) (fun _ => ?_)
          refine zr_iconst (v := 1) hX rfl d_M_copy_92 ?_
          refine zr_goto hX (tgt := 97) (by decide) d_M_copy_93 ?_
          refine zr_mV1 hX (c_M_fails1 g (d - 1) _ u m h ) l_M_119 im_M_fails se_M_fails f_M_fails rfl (Nat.le_of_ble_eq_true rfl) (by omega) (Nat.zero_le _) (Nat.zero_le _) d_M_copy_97 (Nat.zero_le _) (Nat.zero_le _) (zMv.m h) (fun G97 hk97 fk97 ek97 => ?_)
          refine zr_if_eq hX (tgt := 104) d_M_copy_100 (by decide) (fun h => absurd h (by decide)) (fun _ => ?_)
          exact zr_vret hX d_M_copy_103 ⟨rfl, hk97, (zMf.tr zMf.rf fk97 rfl), rfl⟩
        · skip
          refine zr_iload hX rfl d_M_copy_31 ?_
          refine zr_if_lt hX (tgt := 83) d_M_copy_33 (by decide) (fun h33 => ?_) (fun h33 => ?_)
          · skip
            refine zr_iconst (v := 0) hX rfl d_M_copy_83 ?_
            refine zs_istore hX (by decide) rfl d_M_copy_84 ?_
            refine zr_aload_n hX rfl d_M_copy_86 ?_
            refine zr_iload hX rfl d_M_copy_87 ?_
            refine zr_if_ne hX (tgt := 96) d_M_copy_89 (by decide) (fun h => absurd h (by decide)) (fun _ => ?_)
            refine zr_iconst (v := 1) hX rfl d_M_copy_92 ?_
            refine zr_goto hX (tgt := 97) (by decide) d_M_copy_93 ?_
            refine zr_mV1 hX (c_M_fails1 g (d - 1) _ u m h ) l_M_119 im_M_fails se_M_fails f_M_fails rfl (Nat.le_of_ble_eq_true rfl) (by omega) (Nat.zero_le _) (Nat.zero_le _) d_M_copy_97 (Nat.zero_le _) (Nat.zero_le _) (zMv.m h) (fun G97 hk97 fk97 ek97 => ?_)
            refine zr_if_eq hX (tgt := 104) d_M_copy_100 (by decide) (fun h => absurd h (by decide)) (fun _ => ?_)
            exact zr_vret hX d_M_copy_103 ⟨rfl, hk97, (zMf.tr zMf.rf fk97 rfl), rfl⟩
          · skip
            refine zr_iload hX rfl d_M_copy_36 ?_
            refine zr_if_lt hX (tgt := 83) d_M_copy_38 (by decide) (fun h38 => ?_) (fun h38 => ?_)
            · skip
              refine zr_iconst (v := 0) hX rfl d_M_copy_83 ?_
              refine zs_istore hX (by decide) rfl d_M_copy_84 ?_
              refine zr_aload_n hX rfl d_M_copy_86 ?_
              refine zr_iload hX rfl d_M_copy_87 ?_
              refine zr_if_ne hX (tgt := 96) d_M_copy_89 (by decide) (fun h => absurd h (by decide)) (fun _ => ?_)
              refine zr_iconst (v := 1) hX rfl d_M_copy_92 ?_
              refine zr_goto hX (tgt := 97) (by decide) d_M_copy_93 ?_
              refine zr_mV1 hX (c_M_fails1 g (d - 1) _ u m h ) l_M_119 im_M_fails se_M_fails f_M_fails rfl (Nat.le_of_ble_eq_true rfl) (by omega) (Nat.zero_le _) (Nat.zero_le _) d_M_copy_97 (Nat.zero_le _) (Nat.zero_le _) (zMv.m h) (fun G97 hk97 fk97 ek97 => ?_)
              refine zr_if_eq hX (tgt := 104) d_M_copy_100 (by decide) (fun h => absurd h (by decide)) (fun _ => ?_)
              exact zr_vret hX d_M_copy_103 ⟨rfl, hk97, (zMf.tr zMf.rf fk97 rfl), rfl⟩
            · skip
              refine zr_iload hX rfl d_M_copy_41 ?_
              refine zr_bipush (v := 32) hX rfl d_M_copy_43 ?_
              refine zr_icmp_ge hX (tgt := 83) d_M_copy_45 (by decide) (fun h45 => ?_) (fun h45 => ?_)
              · skip
                refine zr_iconst (v := 0) hX rfl d_M_copy_83 ?_
                refine zs_istore hX (by decide) rfl d_M_copy_84 ?_
                refine zr_aload_n hX rfl d_M_copy_86 ?_
                refine zr_iload hX rfl d_M_copy_87 ?_
                refine zr_if_ne hX (tgt := 96) d_M_copy_89 (by decide) (fun h => absurd h (by decide)) (fun _ => ?_)
                refine zr_iconst (v := 1) hX rfl d_M_copy_92 ?_
                refine zr_goto hX (tgt := 97) (by decide) d_M_copy_93 ?_
                refine zr_mV1 hX (c_M_fails1 g (d - 1) _ u m h ) l_M_119 im_M_fails se_M_fails f_M_fails rfl (Nat.le_of_ble_eq_true rfl) (by omega) (Nat.zero_le _) (Nat.zero_le _) d_M_copy_97 (Nat.zero_le _) (Nat.zero_le _) (zMv.m h) (fun G97 hk97 fk97 ek97 => ?_)
                refine zr_if_eq hX (tgt := 104) d_M_copy_100 (by decide) (fun h => absurd h (by decide)) (fun _ => ?_)
                exact zr_vret hX d_M_copy_103 ⟨rfl, hk97, (zMf.tr zMf.rf fk97 rfl), rfl⟩
              · skip
                refine zr_iload hX rfl d_M_copy_48 ?_
                refine zr_bipush (v := 32) hX rfl d_M_copy_50 ?_
                refine zr_icmp_ge hX (tgt := 83) d_M_copy_52 (by decide) (fun h52 => ?_) (fun h52 => ?_)
                · skip
                  refine zr_iconst (v := 0) hX rfl d_M_copy_83 ?_
                  refine zs_istore hX (by decide) rfl d_M_copy_84 ?_
                  refine zr_aload_n hX rfl d_M_copy_86 ?_
                  refine zr_iload hX rfl d_M_copy_87 ?_
                  refine zr_if_ne hX (tgt := 96) d_M_copy_89 (by decide) (fun h => absurd h (by decide)) (fun _ => ?_)
                  refine zr_iconst (v := 1) hX rfl d_M_copy_92 ?_
                  refine zr_goto hX (tgt := 97) (by decide) d_M_copy_93 ?_
                  refine zr_mV1 hX (c_M_fails1 g (d - 1) _ u m h ) l_M_119 im_M_fails se_M_fails f_M_fails rfl (Nat.le_of_ble_eq_true rfl) (by omega) (Nat.zero_le _) (Nat.zero_le _) d_M_copy_97 (Nat.zero_le _) (Nat.zero_le _) (zMv.m h) (fun G97 hk97 fk97 ek97 => ?_)
                  refine zr_if_eq hX (tgt := 104) d_M_copy_100 (by decide) (fun h => absurd h (by decide)) (fun _ => ?_)
                  exact zr_vret hX d_M_copy_103 ⟨rfl, hk97, (zMf.tr zMf.rf fk97 rfl), rfl⟩
                · skip
                  refine zr_aload_n hX rfl d_M_copy_55 ?_
                  refine zr_get hX k_M 18 (by decide) q671 rfl h.m rfl d_M_copy_56 ?_
                  refine zr_bipush (v := 32) hX rfl d_M_copy_59 ?_
                  refine zr_iload hX rfl d_M_copy_61 ?_
                  refine zr_isub hX d_M_copy_63 ?_
                  refine zr_icmp_gt hX (tgt := 83) d_M_copy_64 (by decide) (fun h64 => ?_) (fun h64 => ?_)
                  · skip
                    refine zr_iconst (v := 0) hX rfl d_M_copy_83 ?_
                    refine zs_istore hX (by decide) rfl d_M_copy_84 ?_
                    refine zr_aload_n hX rfl d_M_copy_86 ?_
                    refine zr_iload hX rfl d_M_copy_87 ?_
                    refine zr_if_ne hX (tgt := 96) d_M_copy_89 (by decide) (fun h => absurd h (by decide)) (fun _ => ?_)
                    refine zr_iconst (v := 1) hX rfl d_M_copy_92 ?_
                    refine zr_goto hX (tgt := 97) (by decide) d_M_copy_93 ?_
                    refine zr_mV1 hX (c_M_fails1 g (d - 1) _ u m h ) l_M_119 im_M_fails se_M_fails f_M_fails rfl (Nat.le_of_ble_eq_true rfl) (by omega) (Nat.zero_le _) (Nat.zero_le _) d_M_copy_97 (Nat.zero_le _) (Nat.zero_le _) (zMv.m h) (fun G97 hk97 fk97 ek97 => ?_)
                    refine zr_if_eq hX (tgt := 104) d_M_copy_100 (by decide) (fun h => absurd h (by decide)) (fun _ => ?_)
                    exact zr_vret hX d_M_copy_103 ⟨rfl, hk97, (zMf.tr zMf.rf fk97 rfl), rfl⟩
                  · skip
                    refine zr_aload_n hX rfl d_M_copy_67 ?_
                    refine zr_get hX k_M 19 (by decide) q672 rfl h.m rfl d_M_copy_68 ?_
                    refine zr_bipush (v := 32) hX rfl d_M_copy_71 ?_
                    refine zr_iload hX rfl d_M_copy_73 ?_
                    refine zr_isub hX d_M_copy_75 ?_
                    refine zr_icmp_gt hX (tgt := 83) d_M_copy_76 (by decide) (fun h76 => ?_) (fun h76 => ?_)
                    · skip
                      refine zr_iconst (v := 0) hX rfl d_M_copy_83 ?_
                      refine zs_istore hX (by decide) rfl d_M_copy_84 ?_
                      refine zr_aload_n hX rfl d_M_copy_86 ?_
                      refine zr_iload hX rfl d_M_copy_87 ?_
                      refine zr_if_ne hX (tgt := 96) d_M_copy_89 (by decide) (fun h => absurd h (by decide)) (fun _ => ?_)
                      refine zr_iconst (v := 1) hX rfl d_M_copy_92 ?_
                      refine zr_goto hX (tgt := 97) (by decide) d_M_copy_93 ?_
                      refine zr_mV1 hX (c_M_fails1 g (d - 1) _ u m h ) l_M_119 im_M_fails se_M_fails f_M_fails rfl (Nat.le_of_ble_eq_true rfl) (by omega) (Nat.zero_le _) (Nat.zero_le _) d_M_copy_97 (Nat.zero_le _) (Nat.zero_le _) (zMv.m h) (fun G97 hk97 fk97 ek97 => ?_)
                      refine zr_if_eq hX (tgt := 104) d_M_copy_100 (by decide) (fun h => absurd h (by decide)) (fun _ => ?_)
                      exact zr_vret hX d_M_copy_103 ⟨rfl, hk97, (zMf.tr zMf.rf fk97 rfl), rfl⟩
                    · skip
                      exact False.elim ((fun z => z.elim h5 (fun z => z.elim h12 (fun z => z.elim h20 (fun z => z.elim h28 (fun z => z.elim h33 (fun z => z.elim h38 (fun z => z.elim h45 (fun z => z.elim h52 (fun z => z.elim h64 h76))))))))) hbad)
def st_M_copy_x (p q c f x y lf tp j : Nat) (i : Nat) (t : zU) : zU := (zua (zua t 1 (upd (t.ar 1) ((4096 * (24 + p)) + (1024 * q + 32 * (y + j) + (x + i))) ((t.ar 1) ((4096 * c) + (1024 * f + 32 * (tp + j) + (lf + i)))))) 2 (upd (t.ar 2) ((4096 * (24 + p)) + (1024 * q + 32 * (y + j) + (x + i))) ((t.ar 2) ((4096 * c) + (1024 * f + 32 * (tp + j) + (lf + i))))))
def st_M_copy_y (p q c f x y lf tp wd : Nat) (j : Nat) (s : zU) : zU := (zfor wd (st_M_copy_x p q c f x y lf tp j) s)
def t_M_copy (u : zU) (p q c f x y lf tp wd hg : Nat) : zU := (zfor hg (st_M_copy_y p q c f x y lf tp wd) (zuc u 0 0))
theorem c_M_copy_ok (g : zGt) (d : Nat) (hd : 1 ≤ d) (G : zG) (u : zU) (m : Nat) (h : zMv u m G) (p : Nat) (q : Nat) (c : Nat) (f : Nat) (x : Nat) (y : Nat) (lf tp wd hg : Nat) (hlf : u.i 16 = nI lf) (htp : u.i 17 = nI tp) (hwd : u.i 18 = nI wd) (hhg : u.i 19 = nI hg) (hr1 : lf + wd ≤ 32) (hr2 : tp + hg ≤ 32) (hp : p < 4) (hq : q < 4) (hc : c < 24) (hf : f < 4) (hx1 : x < 32) (hy1 : y < 32) (hx2 : wd ≤ 32 - x) (hy2 : hg ≤ 32 - y) (ho0 : ¬ s_M_isBranch u (nI p) = 0) (ho1 : ¬ s_M_isLayer (nI q) = 0) (ho2 : ¬ s_M_isCommit u (nI c) = 0) (ho3 : ¬ s_M_isLayer (nI f) = 0) : zMet g y_M_copy b_M_copy 12 none [] d 0 0 [.ref m, .int (nI p), .int (nI q), .int (nI c), .int (nI f), .int (nI x), .int (nI y)] G (zMq none (t_M_copy u p q c f x y lf tp wd hg) u m G) := by
  refine zMet.of (by decide) (Nat.le_of_ble_eq_true rfl) rfl (fun X hX => ?_)
  refine zr_aload_n hX rfl d_M_copy_0 ?_
  refine zr_iload_n hX rfl d_M_copy_1 ?_
  refine zr_pV hX (c_M_isBranch g (d - 1) _ u m h (nI p)) l_M_97 im_M_isBranch se_M_isBranch f_M_isBranch k_M.1 h.m rfl (Nat.le_of_ble_eq_true rfl) (by omega) (Nat.zero_le _) (Nat.zero_le _) d_M_copy_2 ?_
  refine zr_if_eq hX (tgt := 83) d_M_copy_5 (by decide) (fun h9 => absurd h9 ho0) (fun _ => ?_)
  refine zr_iload_n hX rfl d_M_copy_8 ?_
  refine zr_pS hX (c_M_isLayer g (d - 1) _ (nI q)) l_M_102 st_M_isLayer f_M_isLayer rfl (Nat.le_of_ble_eq_true rfl) (by omega) (Nat.zero_le _) (Nat.zero_le _) d_M_copy_9 ?_
  refine zr_if_eq hX (tgt := 83) d_M_copy_12 (by decide) (fun h9 => absurd h9 ho1) (fun _ => ?_)
  refine zr_aload_n hX rfl d_M_copy_15 ?_
  refine zr_iload_n hX rfl d_M_copy_16 ?_
  refine zr_pV hX (c_M_isCommit g (d - 1) _ u m h (nI c)) l_M_93 im_M_isCommit se_M_isCommit f_M_isCommit k_M.1 h.m rfl (Nat.le_of_ble_eq_true rfl) (by omega) (Nat.zero_le _) (Nat.zero_le _) d_M_copy_17 ?_
  refine zr_if_eq hX (tgt := 83) d_M_copy_20 (by decide) (fun h9 => absurd h9 ho2) (fun _ => ?_)
  refine zr_iload hX rfl d_M_copy_23 ?_
  refine zr_pS hX (c_M_isLayer g (d - 1) _ (nI f)) l_M_102 st_M_isLayer f_M_isLayer rfl (Nat.le_of_ble_eq_true rfl) (by omega) (Nat.zero_le _) (Nat.zero_le _) d_M_copy_25 ?_
  refine zr_if_eq hX (tgt := 83) d_M_copy_28 (by decide) (fun h9 => absurd h9 ho3) (fun _ => ?_)
  refine zr_iload hX rfl d_M_copy_31 ?_
  refine zr_if_lt hX (tgt := 83) d_M_copy_33 (by decide) (fun h9 => absurd h9 (nI_pos (n := x) (by omega))) (fun _ => ?_)
  refine zr_iload hX rfl d_M_copy_36 ?_
  refine zr_if_lt hX (tgt := 83) d_M_copy_38 (by decide) (fun h9 => absurd h9 (nI_pos (n := y) (by omega))) (fun _ => ?_)
  refine zr_iload hX rfl d_M_copy_41 ?_
  refine zr_bipush (v := 32) hX rfl d_M_copy_43 ?_
  refine zr_icmp_ge hX (tgt := 83) d_M_copy_45 (by decide) (fun h9 => absurd h9 (nI_ge (a := x) (b := 32) (by omega) (by decide))) (fun _ => ?_)
  refine zr_iload hX rfl d_M_copy_48 ?_
  refine zr_bipush (v := 32) hX rfl d_M_copy_50 ?_
  refine zr_icmp_ge hX (tgt := 83) d_M_copy_52 (by decide) (fun h9 => absurd h9 (nI_ge (a := y) (b := 32) (by omega) (by decide))) (fun _ => ?_)
  refine zr_aload_n hX rfl d_M_copy_55 ?_
  refine zr_get hX k_M 18 (by decide) q671 rfl h.m (zml18 hwd) d_M_copy_56 ?_
  refine zr_bipush (v := 32) hX rfl d_M_copy_59 ?_
  refine zr_iload hX rfl d_M_copy_61 ?_
  refine zn_isub (a := 32) (b := x) hX (by omega) d_M_copy_63 ?_
  refine zr_icmp_gt hX (tgt := 83) d_M_copy_64 (by decide) (fun h9 => absurd h9 (nI_nlt (a := (32 - x)) (b := wd) (by omega) (by omega))) (fun _ => ?_)
  refine zr_aload_n hX rfl d_M_copy_67 ?_
  refine zr_get hX k_M 19 (by decide) q672 rfl h.m (zml19 hhg) d_M_copy_68 ?_
  refine zr_bipush (v := 32) hX rfl d_M_copy_71 ?_
  refine zr_iload hX rfl d_M_copy_73 ?_
  refine zn_isub (a := 32) (b := y) hX (by omega) d_M_copy_75 ?_
  refine zr_icmp_gt hX (tgt := 83) d_M_copy_76 (by decide) (fun h9 => absurd h9 (nI_nlt (a := (32 - y)) (b := hg) (by omega) (by omega))) (fun _ => ?_)
  refine zr_iconst (v := 1) hX rfl d_M_copy_79 ?_
  refine zr_goto hX (tgt := 84) (by decide) d_M_copy_80 ?_
  refine zs_istore hX (by decide) rfl d_M_copy_84 ?_
  refine zr_aload_n hX rfl d_M_copy_86 ?_
  refine zr_iload hX rfl d_M_copy_87 ?_
  refine zr_if_ne hX (tgt := 96) d_M_copy_89 (by decide) (fun _ => ?_) (fun h => absurd h (by decide))
  refine zr_iconst (v := 0) hX rfl d_M_copy_96 ?_
  refine zr_mV1 hX (c_M_fails0 g (d - 1) _ u m h ) l_M_119 im_M_fails se_M_fails f_M_fails rfl (Nat.le_of_ble_eq_true rfl) (by omega) (Nat.zero_le _) (Nat.zero_le _) d_M_copy_97 (Nat.zero_le _) (Nat.zero_le _) (zMv.m h) (fun G97 hk97 fk97 ek97 => ?_)
  refine zr_if_eq hX (tgt := 104) d_M_copy_100 (by decide) (fun _ => ?_) (fun h => absurd h (by decide))
  refine zr_iconst (v := 0) hX rfl d_M_copy_104 ?_
  refine zs_istore hX (by decide) rfl d_M_copy_105 ?_
  have L107 : ∀ j, j ≤ hg → ∀ (s : zU) (G_s : zG), s = zfor j (st_M_copy_y p q c f x y lf tp wd) (zuc u 0 0) → zMv s m G_s → zMf u m G G_s → s.1 = u.1 → s.2.1 = (zuc u 0 0).2.1 → zw g X (zMq none (t_M_copy u p q c f x y lf tp wd hg) u m G) 107 [some (.ref m), some (.int (nI p)), some (.int (nI q)), some (.int (nI c)), some (.int (nI f)), some (.int (nI x)), some (.int (nI y)), some (.int 1), some (.int (nI j)), none, none, none] [] G_s 0 0 := by
    refine zup hg (fun j hj_s ih_s => ?_)
    intro s G_s hs_s hk_s fk_s ek_s ik_s
    by_cases hlt_s : j < hg
    · skip
      refine zr_iload hX rfl d_M_copy_107 ?_
      refine zr_aload_n hX rfl d_M_copy_109 ?_
      refine zr_get hX k_M 19 (by decide) q672 rfl hk_s.m (zml19 (Eq.trans (congrFun ik_s 19) hhg)) d_M_copy_110 ?_
      refine zr_icmp_ge hX (tgt := 220) d_M_copy_113 (by decide) (fun h9 => absurd h9 (nI_ge (a := j) (b := hg) (by omega) (by omega))) (fun _ => ?_)
      refine zr_iconst (v := 0) hX rfl d_M_copy_116 ?_
      refine zs_istore hX (by decide) rfl d_M_copy_117 ?_
      have L119 : ∀ i, i ≤ wd → ∀ (t : zU) (G_t : zG), t = zfor i (st_M_copy_x p q c f x y lf tp j) s → zMv t m G_t → zMf u m G G_t → t.1 = u.1 → t.2.1 = s.2.1 → zw g X (zMq none (t_M_copy u p q c f x y lf tp wd hg) u m G) 119 [some (.ref m), some (.int (nI p)), some (.int (nI q)), some (.int (nI c)), some (.int (nI f)), some (.int (nI x)), some (.int (nI y)), some (.int 1), some (.int (nI j)), some (.int (nI i)), none, none] [] G_t 0 0 := by
        refine zup wd (fun i hj_t ih_t => ?_)
        intro t G_t hs_t hk_t fk_t ek_t ik_t
        by_cases hlt_t : i < wd
        · skip
          refine zr_iload hX rfl d_M_copy_119 ?_
          refine zr_aload_n hX rfl d_M_copy_121 ?_
          refine zr_get hX k_M 18 (by decide) q671 rfl hk_t.m (zml18 (Eq.trans (congrFun ik_t 18) (Eq.trans (congrFun ik_s 18) hwd))) d_M_copy_122 ?_
          refine zr_icmp_ge hX (tgt := 214) d_M_copy_125 (by decide) (fun h9 => absurd h9 (nI_ge (a := i) (b := wd) (by omega) (by omega))) (fun _ => ?_)
          refine zr_sipush (v := 4096) hX rfl d_M_copy_128 ?_
          refine zr_iload_n hX rfl d_M_copy_131 ?_
          refine zn_imul (a := 4096) (b := c) hX d_M_copy_132 ?_
          refine zr_iload hX rfl d_M_copy_133 ?_
          refine zr_aload_n hX rfl d_M_copy_135 ?_
          refine zr_get hX k_M 16 (by decide) q669 rfl hk_t.m (zml16 (Eq.trans (congrFun ik_t 16) (Eq.trans (congrFun ik_s 16) hlf))) d_M_copy_136 ?_
          refine zr_iload hX rfl d_M_copy_139 ?_
          refine zn_iadd (a := lf) (b := i) hX d_M_copy_141 ?_
          refine zr_aload_n hX rfl d_M_copy_142 ?_
          refine zr_get hX k_M 17 (by decide) q670 rfl hk_t.m (zml17 (Eq.trans (congrFun ik_t 17) (Eq.trans (congrFun ik_s 17) htp))) d_M_copy_143 ?_
          refine zr_iload hX rfl d_M_copy_146 ?_
          refine zn_iadd (a := tp) (b := j) hX d_M_copy_148 ?_
          refine zr_pS hX (c_M_cellN g (d - 1) _ f (lf + i) (tp + j)) l_M_123 st_M_cellOf f_M_cellOf rfl (Nat.le_of_ble_eq_true rfl) (by omega) (Nat.zero_le _) (Nat.zero_le _) d_M_copy_149 ?_
          refine zn_iadd (a := (4096 * c)) (b := (1024 * f + 32 * (tp + j) + (lf + i))) hX d_M_copy_152 ?_
          refine zs_istore hX (by decide) rfl d_M_copy_153 ?_
          refine zr_sipush (v := 4096) hX rfl d_M_copy_155 ?_
          refine zr_bipush (v := 24) hX rfl d_M_copy_158 ?_
          refine zr_iload_n hX rfl d_M_copy_160 ?_
          refine zn_iadd (a := 24) (b := p) hX d_M_copy_161 ?_
          refine zn_imul (a := 4096) (b := (24 + p)) hX d_M_copy_162 ?_
          refine zr_iload_n hX rfl d_M_copy_163 ?_
          refine zr_iload hX rfl d_M_copy_164 ?_
          refine zr_iload hX rfl d_M_copy_166 ?_
          refine zn_iadd (a := x) (b := i) hX d_M_copy_168 ?_
          refine zr_iload hX rfl d_M_copy_169 ?_
          refine zr_iload hX rfl d_M_copy_171 ?_
          refine zn_iadd (a := y) (b := j) hX d_M_copy_173 ?_
          refine zr_pS hX (c_M_cellN g (d - 1) _ q (x + i) (y + j)) l_M_123 st_M_cellOf f_M_cellOf rfl (Nat.le_of_ble_eq_true rfl) (by omega) (Nat.zero_le _) (Nat.zero_le _) d_M_copy_174 ?_
          refine zn_iadd (a := (4096 * (24 + p))) (b := (1024 * q + 32 * (y + j) + (x + i))) hX d_M_copy_177 ?_
          refine zs_istore hX (by decide) rfl d_M_copy_178 ?_
          refine zr_aload_n hX rfl d_M_copy_180 ?_
          refine zr_get hX k_M 1 (by decide) q654 rfl hk_t.m rfl d_M_copy_181 ?_
          refine zr_iload hX rfl d_M_copy_184 ?_
          refine zr_aload_n hX rfl d_M_copy_186 ?_
          refine zr_get hX k_M 1 (by decide) q654 rfl hk_t.m rfl d_M_copy_187 ?_
          refine zr_iload hX rfl d_M_copy_190 ?_
          refine zr_ialdN hX (hk_t.ar 1 rfl) ((4096 * c) + (1024 * f + 32 * (tp + j) + (lf + i))) rfl (by omega) (by decide) d_M_copy_192 ?_
          refine zr_iastN hX (hk_t.ar 1 rfl) ((4096 * (24 + p)) + (1024 * q + 32 * (y + j) + (x + i))) rfl (by omega) (by decide) d_M_copy_193 ?_
          refine zr_aload_n hX rfl d_M_copy_194 ?_
          refine zr_get hX k_M 2 (by decide) q655 rfl (zput_k (zne hk_t.m (hk_t.ar 1 rfl) rfl) hk_t.m) rfl d_M_copy_195 ?_
          refine zr_iload hX rfl d_M_copy_198 ?_
          refine zr_aload_n hX rfl d_M_copy_200 ?_
          refine zr_get hX k_M 2 (by decide) q655 rfl (zput_k (zne hk_t.m (hk_t.ar 1 rfl) rfl) hk_t.m) rfl d_M_copy_201 ?_
          refine zr_iload hX rfl d_M_copy_204 ?_
          refine zr_ialdN hX (zput_k (hk_t.ne 2 1 rfl rfl (by decide)) (hk_t.ar 2 rfl)) ((4096 * c) + (1024 * f + 32 * (tp + j) + (lf + i))) rfl (by omega) (by decide) d_M_copy_206 ?_
          refine zr_iastN hX (zput_k (hk_t.ne 2 1 rfl rfl (by decide)) (hk_t.ar 2 rfl)) ((4096 * (24 + p)) + (1024 * q + 32 * (y + j) + (x + i))) rfl (by omega) (by decide) d_M_copy_207 ?_
          refine zs_iinc (v := nI (i + 1)) hX rfl (nI_add _ 1) (by decide) rfl d_M_copy_208 ?_
          refine zr_goto hX (tgt := 119) (by decide) d_M_copy_211 ?_
          refine zw_drop 10 ?_
          refine zw_drop 11 ?_
          exact ih_t hlt_t (zua (zua t 1 (upd (t.ar 1) ((4096 * (24 + p)) + (1024 * q + 32 * (y + j) + (x + i))) ((t.ar 1) ((4096 * c) + (1024 * f + 32 * (tp + j) + (lf + i)))))) 2 (upd (t.ar 2) ((4096 * (24 + p)) + (1024 * q + 32 * (y + j) + (x + i))) ((t.ar 2) ((4096 * c) + (1024 * f + 32 * (tp + j) + (lf + i)))))) _ (by rw [zfor_s, ← hs_t]; unfold st_M_copy_x; rfl) (zMv.arr (zMv.arr hk_t 1 rfl _) 2 rfl _) (zMf.arr (zMf.arr fk_t 1 rfl (congrFun ek_t 1) _) 2 rfl (congrFun ek_t 2) _) ek_t ik_t
        · skip
          have ej_t : i = wd := by omega
          rw [ej_t] at hs_t
          refine zr_iload hX rfl d_M_copy_119 ?_
          refine zr_aload_n hX rfl d_M_copy_121 ?_
          refine zr_get hX k_M 18 (by decide) q671 rfl hk_t.m (zml18 (Eq.trans (congrFun ik_t 18) (Eq.trans (congrFun ik_s 18) hwd))) d_M_copy_122 ?_
          refine zr_icmp_ge hX (tgt := 214) d_M_copy_125 (by decide) (fun _ => ?_) (fun h9 => absurd h9 (zq_leT (a := wd) (b := i) (by omega) (by omega)))
          refine zs_iinc (v := nI (j + 1)) hX rfl (nI_add _ 1) (by decide) rfl d_M_copy_214 ?_
          refine zr_goto hX (tgt := 107) (by decide) d_M_copy_217 ?_
          refine zw_drop 9 ?_
          exact ih_s hlt_s t _ (by rw [zfor_s, ← hs_s]; unfold st_M_copy_y; rw [← hs_t]) hk_t fk_t ek_t (Eq.trans ik_t ik_s)
      exact L119 0 (Nat.zero_le _) _ _ rfl hk_s fk_s ek_s rfl
    · skip
      have ej_s : j = hg := by omega
      rw [ej_s] at hs_s
      refine zr_iload hX rfl d_M_copy_107 ?_
      refine zr_aload_n hX rfl d_M_copy_109 ?_
      refine zr_get hX k_M 19 (by decide) q672 rfl hk_s.m (zml19 (Eq.trans (congrFun ik_s 19) hhg)) d_M_copy_110 ?_
      refine zr_icmp_ge hX (tgt := 220) d_M_copy_113 (by decide) (fun _ => ?_) (fun h9 => absurd h9 (zq_leT (a := hg) (b := j) (by omega) (by omega)))
      exact zr_vret hX d_M_copy_220 ⟨rfl, (by unfold t_M_copy; rw [← hs_s]; exact hk_s), fk_s, (by unfold t_M_copy; rw [← hs_s]; exact ek_s)⟩
  exact L107 0 (Nat.zero_le _) _ _ rfl hk97 (zMf.tr zMf.rf fk97 rfl) (Eq.trans ek97 rfl) rfl
theorem c_M_map_bad (g : zGt) (d : Nat) (hd : 1 ≤ d) (G : zG) (u : zU) (m : Nat) (h : zMv u m G) (p : Int32) (q : Int32) (hbad : s_M_isBranch u p = 0 ∨ s_M_isLayer q = 0) : zMet g y_M_map b_M_map 9 none [] d 0 0 [.ref m, .int p, .int q] G (zMq none (zuc u 0 1) u m G) := by
  refine zMet.of (by decide) (Nat.le_of_ble_eq_true rfl) rfl (fun X hX => ?_)
  refine zr_aload_n hX rfl d_M_map_0 ?_
  refine zr_aload_n hX rfl d_M_map_1 ?_
  refine zr_iload_n hX rfl d_M_map_2 ?_
  refine zr_pV hX (c_M_isBranch g (d - 1) _ u m h p) l_M_97 im_M_isBranch se_M_isBranch f_M_isBranch k_M.1 h.m rfl (Nat.le_of_ble_eq_true rfl) (by omega) (Nat.zero_le _) (Nat.zero_le _) d_M_map_3 ?_
  refine zr_if_eq hX (tgt := 16) d_M_map_6 (by decide) (fun h6 => ?_) (fun h6 => ?_)
  · skip
    refine zr_iconst (v := 1) hX rfl d_M_map_16 ?_
    refine zr_goto hX (tgt := 21) (by decide) d_M_map_17 ?_
    refine zr_mV1 hX (c_M_fails1 g (d - 1) _ u m h ) l_M_119 im_M_fails se_M_fails f_M_fails rfl (Nat.le_of_ble_eq_true rfl) (by omega) (Nat.zero_le _) (Nat.zero_le _) d_M_map_21 (Nat.zero_le _) (Nat.zero_le _) (zMv.m h) (fun G21 hk21 fk21 ek21 => ?_)
    refine zr_if_eq hX (tgt := 28) d_M_map_24 (by decide) (fun h => absurd h (by decide)) (fun _ => ?_)
    exact zr_vret hX d_M_map_27 ⟨rfl, hk21, (zMf.tr zMf.rf fk21 rfl), rfl⟩
  · skip
    refine zr_iload_n hX rfl d_M_map_9 ?_
    refine zr_pS hX (c_M_isLayer g (d - 1) _ q) l_M_102 st_M_isLayer f_M_isLayer rfl (Nat.le_of_ble_eq_true rfl) (by omega) (Nat.zero_le _) (Nat.zero_le _) d_M_map_10 ?_
    refine zr_if_ne hX (tgt := 20) d_M_map_13 (by decide) (fun h13 => ?_) (fun h13 => ?_)
    · skip
      exact False.elim ((fun z => z.elim h6 h13) hbad)
    · skip
      refine zr_iconst (v := 1) hX rfl d_M_map_16 ?_
      refine zr_goto hX (tgt := 21) (by decide) d_M_map_17 ?_
      refine zr_mV1 hX (c_M_fails1 g (d - 1) _ u m h ) l_M_119 im_M_fails se_M_fails f_M_fails rfl (Nat.le_of_ble_eq_true rfl) (by omega) (Nat.zero_le _) (Nat.zero_le _) d_M_map_21 (Nat.zero_le _) (Nat.zero_le _) (zMv.m h) (fun G21 hk21 fk21 ek21 => ?_)
      refine zr_if_eq hX (tgt := 28) d_M_map_24 (by decide) (fun h => absurd h (by decide)) (fun _ => ?_)
      exact zr_vret hX d_M_map_27 ⟨rfl, hk21, (zMf.tr zMf.rf fk21 rfl), rfl⟩
def st_M_map_i (t : zU) (p q lf tp j i : Nat) (k : Nat) (r : Int32) : Int32 := if ((t.ar 22) (7 - k)) = ((t.ar 1) ((4096 * (24 + p)) + (1024 * q + 32 * (tp + j) + (lf + i)))) then (7 - nI k) else r
theorem z_mapf {t : zU} {p q lf tp j i : Nat} {f : Int32} (e : f = zfor 8 (st_M_map_i t p q lf tp j i) 8) : ¬ f < 0 := by
  subst e
  refine zfor_inv (N := 8) (fun _ s => ¬ s < 0) (by decide) (fun k s hk hs => ?_) 8 (Nat.le_refl _)
  unfold st_M_map_i
  split
  · exact zdn7p k hk
  · exact hs
def st_M_map_x (p q lf wd tp : Nat) (j : Nat) (i : Nat) (t : zU) : zU := if 8 ≤ (zfor 8 (st_M_map_i t p q lf tp j i) 8) then t else if ((t.ar 23) (zfor 8 (st_M_map_i t p q lf tp j i) 8).toNatClampNeg) = ((t.ar 1) ((4096 * (24 + p)) + (1024 * q + 32 * (tp + j) + (lf + i)))) then t else (zgive t p (1024 * q + 32 * (tp + j) + (lf + i)) ((t.ar 23) (zfor 8 (st_M_map_i t p q lf tp j i) 8).toNatClampNeg))
def st_M_map_y (p q lf wd tp : Nat) (j : Nat) (s : zU) : zU := (zfor wd (st_M_map_x p q lf wd tp j) s)
def t_M_map (u : zU) (p q lf tp wd hg : Nat) : zU := (zfor hg (st_M_map_y p q lf wd tp) (zuc u 0 0))
theorem c_M_map_ok (g : zGt) (d : Nat) (hd : 1 ≤ d) (G : zG) (u : zU) (m : Nat) (h : zMv u m G) (p : Nat) (q : Nat) (lf tp wd hg : Nat) (hlf : u.i 16 = nI lf) (htp : u.i 17 = nI tp) (hwd : u.i 18 = nI wd) (hhg : u.i 19 = nI hg) (hr1 : lf + wd ≤ 32) (hr2 : tp + hg ≤ 32) (hp : p < 4) (hq : q < 4) (ho0 : ¬ s_M_isBranch u (nI p) = 0) (ho1 : ¬ s_M_isLayer (nI q) = 0) : zMet g y_M_map b_M_map 9 none [] d 0 0 [.ref m, .int (nI p), .int (nI q)] G (zMq none (t_M_map u p q lf tp wd hg) u m G) := by
  refine zMet.of (by decide) (Nat.le_of_ble_eq_true rfl) rfl (fun X hX => ?_)
  refine zr_aload_n hX rfl d_M_map_0 ?_
  refine zr_aload_n hX rfl d_M_map_1 ?_
  refine zr_iload_n hX rfl d_M_map_2 ?_
  refine zr_pV hX (c_M_isBranch g (d - 1) _ u m h (nI p)) l_M_97 im_M_isBranch se_M_isBranch f_M_isBranch k_M.1 h.m rfl (Nat.le_of_ble_eq_true rfl) (by omega) (Nat.zero_le _) (Nat.zero_le _) d_M_map_3 ?_
  refine zr_if_eq hX (tgt := 16) d_M_map_6 (by decide) (fun h9 => absurd h9 ho0) (fun _ => ?_)
  refine zr_iload_n hX rfl d_M_map_9 ?_
  refine zr_pS hX (c_M_isLayer g (d - 1) _ (nI q)) l_M_102 st_M_isLayer f_M_isLayer rfl (Nat.le_of_ble_eq_true rfl) (by omega) (Nat.zero_le _) (Nat.zero_le _) d_M_map_10 ?_
  refine zr_if_ne hX (tgt := 20) d_M_map_13 (by decide) (fun _ => ?_) (fun h9 => absurd h9 ho1)
  refine zr_iconst (v := 0) hX rfl d_M_map_20 ?_
  refine zr_mV1 hX (c_M_fails0 g (d - 1) _ u m h ) l_M_119 im_M_fails se_M_fails f_M_fails rfl (Nat.le_of_ble_eq_true rfl) (by omega) (Nat.zero_le _) (Nat.zero_le _) d_M_map_21 (Nat.zero_le _) (Nat.zero_le _) (zMv.m h) (fun G21 hk21 fk21 ek21 => ?_)
  refine zr_if_eq hX (tgt := 28) d_M_map_24 (by decide) (fun _ => ?_) (fun h => absurd h (by decide))
  refine zr_aload_n hX rfl d_M_map_28 ?_
  refine zr_get hX k_M 17 (by decide) q670 rfl hk21.m (zml17 htp) d_M_map_29 ?_
  refine zs_istore_n hX (by decide) rfl d_M_map_32 ?_
  have L33 : ∀ j, j ≤ hg → ∀ (s : zU) (G_s : zG), s = zfor j (st_M_map_y p q lf wd tp) (zuc u 0 0) → zMv s m G_s → zMf u m G G_s → s.1 = u.1 → s.2.1 = (zuc u 0 0).2.1 → zw g X (zMq none (t_M_map u p q lf tp wd hg) u m G) 33 [some (.ref m), some (.int (nI p)), some (.int (nI q)), some (.int (nI (tp + j))), none, none, none, none, none] [] G_s 0 0 := by
    refine zup hg (fun j hj_s ih_s => ?_)
    intro s G_s hs_s hk_s fk_s ek_s ik_s
    by_cases hlt_s : j < hg
    · skip
      refine zr_iload_n hX rfl d_M_map_33 ?_
      refine zr_aload_n hX rfl d_M_map_34 ?_
      refine zr_get hX k_M 17 (by decide) q670 rfl hk_s.m (zml17 (Eq.trans (congrFun ik_s 17) htp)) d_M_map_35 ?_
      refine zr_aload_n hX rfl d_M_map_38 ?_
      refine zr_get hX k_M 19 (by decide) q672 rfl hk_s.m (zml19 (Eq.trans (congrFun ik_s 19) hhg)) d_M_map_39 ?_
      refine zn_iadd (a := tp) (b := hg) hX d_M_map_42 ?_
      refine zr_icmp_ge hX (tgt := 178) d_M_map_43 (by decide) (fun h9 => absurd h9 (nI_ge (a := (tp + j)) (b := (tp + hg)) (by omega) (by omega))) (fun _ => ?_)
      refine zr_aload_n hX rfl d_M_map_46 ?_
      refine zr_get hX k_M 16 (by decide) q669 rfl hk_s.m (zml16 (Eq.trans (congrFun ik_s 16) hlf)) d_M_map_47 ?_
      refine zs_istore hX (by decide) rfl d_M_map_50 ?_
      have L52 : ∀ i, i ≤ wd → ∀ (t : zU) (G_t : zG), t = zfor i (st_M_map_x p q lf wd tp j) s → zMv t m G_t → zMf u m G G_t → t.1 = u.1 → t.2.1 = s.2.1 → zw g X (zMq none (t_M_map u p q lf tp wd hg) u m G) 52 [some (.ref m), some (.int (nI p)), some (.int (nI q)), some (.int (nI (tp + j))), some (.int (nI (lf + i))), none, none, none, none] [] G_t 0 0 := by
        refine zup wd (fun i hj_t ih_t => ?_)
        intro t G_t hs_t hk_t fk_t ek_t ik_t
        by_cases hlt_t : i < wd
        · skip
          refine zr_iload hX rfl d_M_map_52 ?_
          refine zr_aload_n hX rfl d_M_map_54 ?_
          refine zr_get hX k_M 16 (by decide) q669 rfl hk_t.m (zml16 (Eq.trans (congrFun ik_t 16) (Eq.trans (congrFun ik_s 16) hlf))) d_M_map_55 ?_
          refine zr_aload_n hX rfl d_M_map_58 ?_
          refine zr_get hX k_M 18 (by decide) q671 rfl hk_t.m (zml18 (Eq.trans (congrFun ik_t 18) (Eq.trans (congrFun ik_s 18) hwd))) d_M_map_59 ?_
          refine zn_iadd (a := lf) (b := wd) hX d_M_map_62 ?_
          refine zr_icmp_ge hX (tgt := 172) d_M_map_63 (by decide) (fun h9 => absurd h9 (nI_ge (a := (lf + i)) (b := (lf + wd)) (by omega) (by omega))) (fun _ => ?_)
          refine zr_iload_n hX rfl d_M_map_66 ?_
          refine zr_iload hX rfl d_M_map_67 ?_
          refine zr_iload_n hX rfl d_M_map_69 ?_
          refine zr_pS hX (c_M_cellN g (d - 1) _ q (lf + i) (tp + j)) l_M_123 st_M_cellOf f_M_cellOf rfl (Nat.le_of_ble_eq_true rfl) (by omega) (Nat.zero_le _) (Nat.zero_le _) d_M_map_70 ?_
          refine zs_istore hX (by decide) rfl d_M_map_73 ?_
          refine zr_aload_n hX rfl d_M_map_75 ?_
          refine zr_get hX k_M 1 (by decide) q654 rfl hk_t.m rfl d_M_map_76 ?_
          refine zr_sipush (v := 4096) hX rfl d_M_map_79 ?_
          refine zr_bipush (v := 24) hX rfl d_M_map_82 ?_
          refine zr_iload_n hX rfl d_M_map_84 ?_
          refine zn_iadd (a := 24) (b := p) hX d_M_map_85 ?_
          refine zn_imul (a := 4096) (b := (24 + p)) hX d_M_map_86 ?_
          refine zr_iload hX rfl d_M_map_87 ?_
          refine zn_iadd (a := (4096 * (24 + p))) (b := (1024 * q + 32 * (tp + j) + (lf + i))) hX d_M_map_89 ?_
          refine zr_ialdN hX (hk_t.ar 1 rfl) ((4096 * (24 + p)) + (1024 * q + 32 * (tp + j) + (lf + i))) rfl (by omega) (by decide) d_M_map_90 ?_
          refine zs_istore hX (by decide) rfl d_M_map_91 ?_
          refine zr_bipush (v := 8) hX rfl d_M_map_93 ?_
          refine zs_istore hX (by decide) rfl d_M_map_95 ?_
          refine zr_bipush (v := 7) hX rfl d_M_map_97 ?_
          refine zs_istore hX (by decide) rfl d_M_map_99 ?_
          have L101 : ∀ k, k ≤ 8 → ∀ (r : Int32) (G_r : zG), r = zfor k (st_M_map_i t p q lf tp j i) 8 → zMv t m G_r → zMf u m G G_r → zw g X (zMq none (t_M_map u p q lf tp wd hg) u m G) 101 [some (.ref m), some (.int (nI p)), some (.int (nI q)), some (.int (nI (tp + j))), some (.int (nI (lf + i))), some (.int (nI (1024 * q + 32 * (tp + j) + (lf + i)))), some (.int ((t.ar 1) ((4096 * (24 + p)) + (1024 * q + 32 * (tp + j) + (lf + i))))), some (.int r), some (.int (7 - nI k))] [] G_r 0 0 := by
            refine zup 8 (fun k hj_r ih_r => ?_)
            intro r G_r hs_r hk_r fk_r
            by_cases hlt_r : k < 8
            · skip
              refine zr_iload hX rfl d_M_map_101 ?_
              refine zr_if_lt hX (tgt := 133) d_M_map_103 (by decide) (fun h9 => absurd h9 (zdn7p k hlt_r)) (fun _ => ?_)
              refine zr_aload_n hX rfl d_M_map_106 ?_
              refine zr_get hX k_M 22 (by decide) q675 rfl hk_r.m rfl d_M_map_107 ?_
              refine zr_iload hX rfl d_M_map_110 ?_
              refine zr_ialdN hX (hk_r.ar 22 rfl) (7 - k) (pk_sub (a := 7) (by omega)) (by omega) (by decide) d_M_map_112 ?_
              refine zr_iload hX rfl d_M_map_113 ?_
              refine zr_icmp_ne hX (tgt := 123) d_M_map_115 (by decide) (fun h115 => ?_) (fun h115 => ?_)
              · skip
                refine zr_iload hX rfl d_M_map_123 ?_
                refine zs_istore hX (by decide) rfl d_M_map_125 ?_
                refine zs_iinc (v := 7 - nI (k + 1)) hX rfl (zdn7 k hlt_r) (by decide) rfl d_M_map_127 ?_
                refine zr_goto hX (tgt := 101) (by decide) d_M_map_130 ?_
                exact ih_r hlt_r r _ (by rw [zfor_s, ← hs_r]; unfold st_M_map_i; rw [if_neg h115]) hk_r fk_r
              · skip
                refine zr_iload hX rfl d_M_map_118 ?_
                refine zr_goto hX (tgt := 125) (by decide) d_M_map_120 ?_
                refine zs_istore hX (by decide) rfl d_M_map_125 ?_
                refine zs_iinc (v := 7 - nI (k + 1)) hX rfl (zdn7 k hlt_r) (by decide) rfl d_M_map_127 ?_
                refine zr_goto hX (tgt := 101) (by decide) d_M_map_130 ?_
                exact ih_r hlt_r (7 - nI k) _ (by rw [zfor_s, ← hs_r]; unfold st_M_map_i; rw [if_pos h115]) hk_r fk_r
            · skip
              have ej_r : k = 8 := by omega
              rw [ej_r] at hs_r
              refine zr_iload hX rfl d_M_map_101 ?_
              refine zr_if_lt hX (tgt := 133) d_M_map_103 (by decide) (fun _ => ?_) (fun h9 => absurd h9 (by rw [ej_r]; decide))
              refine zr_iload hX rfl d_M_map_133 ?_
              refine zr_bipush (v := 8) hX rfl d_M_map_135 ?_
              refine zr_icmp_ge hX (tgt := 166) d_M_map_137 (by decide) (fun h137 => ?_) (fun h137 => ?_)
              · skip
                refine zs_iinc (v := nI ((lf + i) + 1)) hX rfl (nI_add _ 1) (by decide) rfl d_M_map_166 ?_
                refine zr_goto hX (tgt := 52) (by decide) d_M_map_169 ?_
                refine zw_drop 5 ?_
                refine zw_drop 6 ?_
                refine zw_drop 7 ?_
                refine zw_drop 8 ?_
                exact ih_t hlt_t t _ (by rw [zfor_s, ← hs_t]; unfold st_M_map_x; rw [← hs_r]; rw [if_pos h137]) hk_r fk_r ek_t ik_t
              · skip
                refine zr_aload_n hX rfl d_M_map_140 ?_
                refine zr_get hX k_M 23 (by decide) q676 rfl hk_r.m rfl d_M_map_141 ?_
                refine zr_iload hX rfl d_M_map_144 ?_
                refine zr_iald hX (hk_r.ar 23 rfl) (zix (z_mapf hs_r) h137 rfl) d_M_map_146 ?_
                refine zr_iload hX rfl d_M_map_147 ?_
                refine zr_icmp_eq hX (tgt := 166) d_M_map_149 (by decide) (fun h149 => ?_) (fun h149 => ?_)
                · skip
                  refine zs_iinc (v := nI ((lf + i) + 1)) hX rfl (nI_add _ 1) (by decide) rfl d_M_map_166 ?_
                  refine zr_goto hX (tgt := 52) (by decide) d_M_map_169 ?_
                  refine zw_drop 5 ?_
                  refine zw_drop 6 ?_
                  refine zw_drop 7 ?_
                  refine zw_drop 8 ?_
                  exact ih_t hlt_t t _ (by rw [zfor_s, ← hs_t]; unfold st_M_map_x; rw [← hs_r]; rw [if_neg h137]; rw [if_pos h149]) hk_r fk_r ek_t ik_t
                · skip
                  refine zr_aload_n hX rfl d_M_map_152 ?_
                  refine zr_iload_n hX rfl d_M_map_153 ?_
                  refine zr_iload hX rfl d_M_map_154 ?_
                  refine zr_aload_n hX rfl d_M_map_156 ?_
                  refine zr_get hX k_M 23 (by decide) q676 rfl hk_r.m rfl d_M_map_157 ?_
                  refine zr_iload hX rfl d_M_map_160 ?_
                  refine zr_iald hX (hk_r.ar 23 rfl) (zix (z_mapf hs_r) h137 rfl) d_M_map_162 ?_
                  refine zr_mV0 hX (c_M_give g (d - 1) _ t m hk_r p (1024 * q + 32 * (tp + j) + (lf + i)) ((t.ar 23) r.toNatClampNeg) (by omega) (by omega)) l_M_127 im_M_give se_M_give f_M_give rfl (Nat.le_of_ble_eq_true rfl) (by omega) (Nat.zero_le _) (Nat.zero_le _) d_M_map_163 (Nat.zero_le _) (Nat.zero_le _) (zMv.m hk_r) (fun G163 hk163 fk163 ek163 => ?_)
                  refine zs_iinc (v := nI ((lf + i) + 1)) hX rfl (nI_add _ 1) (by decide) rfl d_M_map_166 ?_
                  refine zr_goto hX (tgt := 52) (by decide) d_M_map_169 ?_
                  refine zw_drop 5 ?_
                  refine zw_drop 6 ?_
                  refine zw_drop 7 ?_
                  refine zw_drop 8 ?_
                  exact ih_t hlt_t (zgive t p (1024 * q + 32 * (tp + j) + (lf + i)) ((t.ar 23) r.toNatClampNeg)) _ (by rw [zfor_s, ← hs_t]; unfold st_M_map_x; rw [← hs_r]; rw [if_neg h137]; rw [if_neg h149]) hk163 (zMf.tr fk_r fk163 ek_t) (Eq.trans ek163 ek_t) ik_t
          exact L101 0 (Nat.zero_le _) _ _ rfl hk_t fk_t
        · skip
          have ej_t : i = wd := by omega
          rw [ej_t] at hs_t
          refine zr_iload hX rfl d_M_map_52 ?_
          refine zr_aload_n hX rfl d_M_map_54 ?_
          refine zr_get hX k_M 16 (by decide) q669 rfl hk_t.m (zml16 (Eq.trans (congrFun ik_t 16) (Eq.trans (congrFun ik_s 16) hlf))) d_M_map_55 ?_
          refine zr_aload_n hX rfl d_M_map_58 ?_
          refine zr_get hX k_M 18 (by decide) q671 rfl hk_t.m (zml18 (Eq.trans (congrFun ik_t 18) (Eq.trans (congrFun ik_s 18) hwd))) d_M_map_59 ?_
          refine zn_iadd (a := lf) (b := wd) hX d_M_map_62 ?_
          refine zr_icmp_ge hX (tgt := 172) d_M_map_63 (by decide) (fun _ => ?_) (fun h9 => absurd h9 (zq_leT (a := (lf + wd)) (b := (lf + i)) (by omega) (by omega)))
          refine zs_iinc (v := nI ((tp + j) + 1)) hX rfl (nI_add _ 1) (by decide) rfl d_M_map_172 ?_
          refine zr_goto hX (tgt := 33) (by decide) d_M_map_175 ?_
          refine zw_drop 4 ?_
          exact ih_s hlt_s t _ (by rw [zfor_s, ← hs_s]; unfold st_M_map_y; rw [← hs_t]) hk_t fk_t ek_t (Eq.trans ik_t ik_s)
      exact L52 0 (Nat.zero_le _) _ _ rfl hk_s fk_s ek_s rfl
    · skip
      have ej_s : j = hg := by omega
      rw [ej_s] at hs_s
      refine zr_iload_n hX rfl d_M_map_33 ?_
      refine zr_aload_n hX rfl d_M_map_34 ?_
      refine zr_get hX k_M 17 (by decide) q670 rfl hk_s.m (zml17 (Eq.trans (congrFun ik_s 17) htp)) d_M_map_35 ?_
      refine zr_aload_n hX rfl d_M_map_38 ?_
      refine zr_get hX k_M 19 (by decide) q672 rfl hk_s.m (zml19 (Eq.trans (congrFun ik_s 19) hhg)) d_M_map_39 ?_
      refine zn_iadd (a := tp) (b := hg) hX d_M_map_42 ?_
      refine zr_icmp_ge hX (tgt := 178) d_M_map_43 (by decide) (fun _ => ?_) (fun h9 => absurd h9 (zq_leT (a := (tp + hg)) (b := (tp + j)) (by omega) (by omega)))
      exact zr_vret hX d_M_map_178 ⟨rfl, (by unfold t_M_map; rw [← hs_s]; exact hk_s), fk_s, (by unfold t_M_map; rw [← hs_s]; exact ek_s)⟩
  exact L33 0 (Nat.zero_le _) _ _ rfl hk21 (zMf.tr zMf.rf fk21 rfl) (Eq.trans ek21 rfl) rfl
theorem c_M_combine_bad (g : zGt) (d : Nat) (hd : 1 ≤ d) (G : zG) (u : zU) (m : Nat) (h : zMv u m G) (p : Int32) (q : Int32) (n : Int32) (w : Int32) (hbad : s_M_isBranch u p = 0 ∨ s_M_isLayer q = 0 ∨ s_M_isLayer n = 0 ∨ w < 0 ∨ ¬ w ≤ 2) : zMet g y_M_combine b_M_combine 12 none [] d 0 0 [.ref m, .int p, .int q, .int n, .int w] G (zMq none (zuc u 0 1) u m G) := by
  refine zMet.of (by decide) (Nat.le_of_ble_eq_true rfl) rfl (fun X hX => ?_)
  refine zr_aload_n hX rfl d_M_combine_0 ?_
  refine zr_aload_n hX rfl d_M_combine_1 ?_
  refine zr_iload_n hX rfl d_M_combine_2 ?_
  refine zr_pV hX (c_M_isBranch g (d - 1) _ u m h p) l_M_97 im_M_isBranch se_M_isBranch f_M_isBranch k_M.1 h.m rfl (Nat.le_of_ble_eq_true rfl) (by omega) (Nat.zero_le _) (Nat.zero_le _) d_M_combine_3 ?_
  refine zr_if_eq hX (tgt := 34) d_M_combine_6 (by decide) (fun h6 => ?_) (fun h6 => ?_)
  · skip
    refine zr_iconst (v := 1) hX rfl d_M_combine_34 ?_
    refine zr_goto hX (tgt := 39) (by decide) d_M_combine_35 ?_
    refine zr_mV1 hX (c_M_fails1 g (d - 1) _ u m h ) l_M_119 im_M_fails se_M_fails f_M_fails rfl (Nat.le_of_ble_eq_true rfl) (by omega) (Nat.zero_le _) (Nat.zero_le _) d_M_combine_39 (Nat.zero_le _) (Nat.zero_le _) (zMv.m h) (fun G39 hk39 fk39 ek39 => ?_)
    refine zr_if_eq hX (tgt := 46) d_M_combine_42 (by decide) (fun h => absurd h (by decide)) (fun _ => ?_)
    exact zr_vret hX d_M_combine_45 ⟨rfl, hk39, (zMf.tr zMf.rf fk39 rfl), rfl⟩
  · skip
    refine zr_iload_n hX rfl d_M_combine_9 ?_
    refine zr_pS hX (c_M_isLayer g (d - 1) _ q) l_M_102 st_M_isLayer f_M_isLayer rfl (Nat.le_of_ble_eq_true rfl) (by omega) (Nat.zero_le _) (Nat.zero_le _) d_M_combine_10 ?_
    refine zr_if_eq hX (tgt := 34) d_M_combine_13 (by decide) (fun h13 => ?_) (fun h13 => ?_)
    · skip
      refine zr_iconst (v := 1) hX rfl d_M_combine_34 ?_
      refine zr_goto hX (tgt := 39) (by decide) d_M_combine_35 ?_
      refine zr_mV1 hX (c_M_fails1 g (d - 1) _ u m h ) l_M_119 im_M_fails se_M_fails f_M_fails rfl (Nat.le_of_ble_eq_true rfl) (by omega) (Nat.zero_le _) (Nat.zero_le _) d_M_combine_39 (Nat.zero_le _) (Nat.zero_le _) (zMv.m h) (fun G39 hk39 fk39 ek39 => ?_)
      refine zr_if_eq hX (tgt := 46) d_M_combine_42 (by decide) (fun h => absurd h (by decide)) (fun _ => ?_)
      exact zr_vret hX d_M_combine_45 ⟨rfl, hk39, (zMf.tr zMf.rf fk39 rfl), rfl⟩
    · skip
      refine zr_iload_n hX rfl d_M_combine_16 ?_
      refine zr_pS hX (c_M_isLayer g (d - 1) _ n) l_M_102 st_M_isLayer f_M_isLayer rfl (Nat.le_of_ble_eq_true rfl) (by omega) (Nat.zero_le _) (Nat.zero_le _) d_M_combine_17 ?_
      refine zr_if_eq hX (tgt := 34) d_M_combine_20 (by decide) (fun h20 => ?_) (fun h20 => ?_)
      · skip
        refine zr_iconst (v := 1) hX rfl d_M_combine_34 ?_
        refine zr_goto hX (tgt := 39) (by decide) d_M_combine_35 ?_
        refine zr_mV1 hX (c_M_fails1 g (d - 1) _ u m h ) l_M_119 im_M_fails se_M_fails f_M_fails rfl (Nat.le_of_ble_eq_true rfl) (by omega) (Nat.zero_le _) (Nat.zero_le _) d_M_combine_39 (Nat.zero_le _) (Nat.zero_le _) (zMv.m h) (fun G39 hk39 fk39 ek39 => ?_)
        refine zr_if_eq hX (tgt := 46) d_M_combine_42 (by decide) (fun h => absurd h (by decide)) (fun _ => ?_)
        exact zr_vret hX d_M_combine_45 ⟨rfl, hk39, (zMf.tr zMf.rf fk39 rfl), rfl⟩
      · skip
        refine zr_iload hX rfl d_M_combine_23 ?_
        refine zr_if_lt hX (tgt := 34) d_M_combine_25 (by decide) (fun h25 => ?_) (fun h25 => ?_)
        · skip
          refine zr_iconst (v := 1) hX rfl d_M_combine_34 ?_
          refine zr_goto hX (tgt := 39) (by decide) d_M_combine_35 ?_
          refine zr_mV1 hX (c_M_fails1 g (d - 1) _ u m h ) l_M_119 im_M_fails se_M_fails f_M_fails rfl (Nat.le_of_ble_eq_true rfl) (by omega) (Nat.zero_le _) (Nat.zero_le _) d_M_combine_39 (Nat.zero_le _) (Nat.zero_le _) (zMv.m h) (fun G39 hk39 fk39 ek39 => ?_)
          refine zr_if_eq hX (tgt := 46) d_M_combine_42 (by decide) (fun h => absurd h (by decide)) (fun _ => ?_)
          exact zr_vret hX d_M_combine_45 ⟨rfl, hk39, (zMf.tr zMf.rf fk39 rfl), rfl⟩
        · skip
          refine zr_iload hX rfl d_M_combine_28 ?_
          refine zr_iconst (v := 2) hX rfl d_M_combine_30 ?_
          refine zr_icmp_le hX (tgt := 38) d_M_combine_31 (by decide) (fun h31 => ?_) (fun h31 => ?_)
          · skip
            exact False.elim ((fun z => z.elim h6 (fun z => z.elim h13 (fun z => z.elim h20 (fun z => z.elim h25 (fun z => z h31))))) hbad)
          · skip
            refine zr_iconst (v := 1) hX rfl d_M_combine_34 ?_
            refine zr_goto hX (tgt := 39) (by decide) d_M_combine_35 ?_
            refine zr_mV1 hX (c_M_fails1 g (d - 1) _ u m h ) l_M_119 im_M_fails se_M_fails f_M_fails rfl (Nat.le_of_ble_eq_true rfl) (by omega) (Nat.zero_le _) (Nat.zero_le _) d_M_combine_39 (Nat.zero_le _) (Nat.zero_le _) (zMv.m h) (fun G39 hk39 fk39 ek39 => ?_)
            refine zr_if_eq hX (tgt := 46) d_M_combine_42 (by decide) (fun h => absurd h (by decide)) (fun _ => ?_)
            exact zr_vret hX d_M_combine_45 ⟨rfl, hk39, (zMf.tr zMf.rf fk39 rfl), rfl⟩
def st_M_combine_x (p q n : Nat) (w : Int32) (lf wd tp : Nat) (j : Nat) (i : Nat) (t : zU) : zU := if ((t.ar 1) ((4096 * (24 + p)) + (1024 * n + 32 * (tp + j) + (lf + i)))) = (-2147483648) then t else if (((t.ar 1) ((4096 * (24 + p)) + (1024 * q + 32 * (tp + j) + (lf + i)))) + ((t.ar 1) ((4096 * (24 + p)) + (1024 * n + 32 * (tp + j) + (lf + i))))) ≤ 1000000 then if (-1000000) ≤ (((t.ar 1) ((4096 * (24 + p)) + (1024 * q + 32 * (tp + j) + (lf + i)))) + ((t.ar 1) ((4096 * (24 + p)) + (1024 * n + 32 * (tp + j) + (lf + i))))) then if ((t.ar 1) ((4096 * (24 + p)) + (1024 * q + 32 * (tp + j) + (lf + i)))) = (-2147483648) then if ((t.ar 1) ((4096 * (24 + p)) + (1024 * n + 32 * (tp + j) + (lf + i)))) = ((t.ar 1) ((4096 * (24 + p)) + (1024 * q + 32 * (tp + j) + (lf + i)))) then t else (zgive t p (1024 * q + 32 * (tp + j) + (lf + i)) ((t.ar 1) ((4096 * (24 + p)) + (1024 * n + 32 * (tp + j) + (lf + i))))) else if w = 0 then if (((t.ar 1) ((4096 * (24 + p)) + (1024 * q + 32 * (tp + j) + (lf + i)))) + ((t.ar 1) ((4096 * (24 + p)) + (1024 * n + 32 * (tp + j) + (lf + i))))) = ((t.ar 1) ((4096 * (24 + p)) + (1024 * q + 32 * (tp + j) + (lf + i)))) then t else (zgive t p (1024 * q + 32 * (tp + j) + (lf + i)) (((t.ar 1) ((4096 * (24 + p)) + (1024 * q + 32 * (tp + j) + (lf + i)))) + ((t.ar 1) ((4096 * (24 + p)) + (1024 * n + 32 * (tp + j) + (lf + i)))))) else if w = 1 then if ((t.ar 1) ((4096 * (24 + p)) + (1024 * q + 32 * (tp + j) + (lf + i)))) ≤ ((t.ar 1) ((4096 * (24 + p)) + (1024 * n + 32 * (tp + j) + (lf + i)))) then if ((t.ar 1) ((4096 * (24 + p)) + (1024 * n + 32 * (tp + j) + (lf + i)))) = ((t.ar 1) ((4096 * (24 + p)) + (1024 * q + 32 * (tp + j) + (lf + i)))) then t else (zgive t p (1024 * q + 32 * (tp + j) + (lf + i)) ((t.ar 1) ((4096 * (24 + p)) + (1024 * n + 32 * (tp + j) + (lf + i))))) else if ((t.ar 1) ((4096 * (24 + p)) + (1024 * q + 32 * (tp + j) + (lf + i)))) = ((t.ar 1) ((4096 * (24 + p)) + (1024 * q + 32 * (tp + j) + (lf + i)))) then t else (zgive t p (1024 * q + 32 * (tp + j) + (lf + i)) ((t.ar 1) ((4096 * (24 + p)) + (1024 * q + 32 * (tp + j) + (lf + i))))) else if ((t.ar 1) ((4096 * (24 + p)) + (1024 * n + 32 * (tp + j) + (lf + i)))) ≤ ((t.ar 1) ((4096 * (24 + p)) + (1024 * q + 32 * (tp + j) + (lf + i)))) then if ((t.ar 1) ((4096 * (24 + p)) + (1024 * n + 32 * (tp + j) + (lf + i)))) = ((t.ar 1) ((4096 * (24 + p)) + (1024 * q + 32 * (tp + j) + (lf + i)))) then t else (zgive t p (1024 * q + 32 * (tp + j) + (lf + i)) ((t.ar 1) ((4096 * (24 + p)) + (1024 * n + 32 * (tp + j) + (lf + i))))) else if ((t.ar 1) ((4096 * (24 + p)) + (1024 * q + 32 * (tp + j) + (lf + i)))) = ((t.ar 1) ((4096 * (24 + p)) + (1024 * q + 32 * (tp + j) + (lf + i)))) then t else (zgive t p (1024 * q + 32 * (tp + j) + (lf + i)) ((t.ar 1) ((4096 * (24 + p)) + (1024 * q + 32 * (tp + j) + (lf + i))))) else if ((t.ar 1) ((4096 * (24 + p)) + (1024 * q + 32 * (tp + j) + (lf + i)))) = (-2147483648) then if ((t.ar 1) ((4096 * (24 + p)) + (1024 * n + 32 * (tp + j) + (lf + i)))) = ((t.ar 1) ((4096 * (24 + p)) + (1024 * q + 32 * (tp + j) + (lf + i)))) then t else (zgive t p (1024 * q + 32 * (tp + j) + (lf + i)) ((t.ar 1) ((4096 * (24 + p)) + (1024 * n + 32 * (tp + j) + (lf + i))))) else if w = 0 then if (-1000000) = ((t.ar 1) ((4096 * (24 + p)) + (1024 * q + 32 * (tp + j) + (lf + i)))) then t else (zgive t p (1024 * q + 32 * (tp + j) + (lf + i)) (-1000000)) else if w = 1 then if ((t.ar 1) ((4096 * (24 + p)) + (1024 * q + 32 * (tp + j) + (lf + i)))) ≤ ((t.ar 1) ((4096 * (24 + p)) + (1024 * n + 32 * (tp + j) + (lf + i)))) then if ((t.ar 1) ((4096 * (24 + p)) + (1024 * n + 32 * (tp + j) + (lf + i)))) = ((t.ar 1) ((4096 * (24 + p)) + (1024 * q + 32 * (tp + j) + (lf + i)))) then t else (zgive t p (1024 * q + 32 * (tp + j) + (lf + i)) ((t.ar 1) ((4096 * (24 + p)) + (1024 * n + 32 * (tp + j) + (lf + i))))) else if ((t.ar 1) ((4096 * (24 + p)) + (1024 * q + 32 * (tp + j) + (lf + i)))) = ((t.ar 1) ((4096 * (24 + p)) + (1024 * q + 32 * (tp + j) + (lf + i)))) then t else (zgive t p (1024 * q + 32 * (tp + j) + (lf + i)) ((t.ar 1) ((4096 * (24 + p)) + (1024 * q + 32 * (tp + j) + (lf + i))))) else if ((t.ar 1) ((4096 * (24 + p)) + (1024 * n + 32 * (tp + j) + (lf + i)))) ≤ ((t.ar 1) ((4096 * (24 + p)) + (1024 * q + 32 * (tp + j) + (lf + i)))) then if ((t.ar 1) ((4096 * (24 + p)) + (1024 * n + 32 * (tp + j) + (lf + i)))) = ((t.ar 1) ((4096 * (24 + p)) + (1024 * q + 32 * (tp + j) + (lf + i)))) then t else (zgive t p (1024 * q + 32 * (tp + j) + (lf + i)) ((t.ar 1) ((4096 * (24 + p)) + (1024 * n + 32 * (tp + j) + (lf + i))))) else if ((t.ar 1) ((4096 * (24 + p)) + (1024 * q + 32 * (tp + j) + (lf + i)))) = ((t.ar 1) ((4096 * (24 + p)) + (1024 * q + 32 * (tp + j) + (lf + i)))) then t else (zgive t p (1024 * q + 32 * (tp + j) + (lf + i)) ((t.ar 1) ((4096 * (24 + p)) + (1024 * q + 32 * (tp + j) + (lf + i))))) else if ((t.ar 1) ((4096 * (24 + p)) + (1024 * q + 32 * (tp + j) + (lf + i)))) = (-2147483648) then if ((t.ar 1) ((4096 * (24 + p)) + (1024 * n + 32 * (tp + j) + (lf + i)))) = ((t.ar 1) ((4096 * (24 + p)) + (1024 * q + 32 * (tp + j) + (lf + i)))) then t else (zgive t p (1024 * q + 32 * (tp + j) + (lf + i)) ((t.ar 1) ((4096 * (24 + p)) + (1024 * n + 32 * (tp + j) + (lf + i))))) else if w = 0 then if 1000000 = ((t.ar 1) ((4096 * (24 + p)) + (1024 * q + 32 * (tp + j) + (lf + i)))) then t else (zgive t p (1024 * q + 32 * (tp + j) + (lf + i)) 1000000) else if w = 1 then if ((t.ar 1) ((4096 * (24 + p)) + (1024 * q + 32 * (tp + j) + (lf + i)))) ≤ ((t.ar 1) ((4096 * (24 + p)) + (1024 * n + 32 * (tp + j) + (lf + i)))) then if ((t.ar 1) ((4096 * (24 + p)) + (1024 * n + 32 * (tp + j) + (lf + i)))) = ((t.ar 1) ((4096 * (24 + p)) + (1024 * q + 32 * (tp + j) + (lf + i)))) then t else (zgive t p (1024 * q + 32 * (tp + j) + (lf + i)) ((t.ar 1) ((4096 * (24 + p)) + (1024 * n + 32 * (tp + j) + (lf + i))))) else if ((t.ar 1) ((4096 * (24 + p)) + (1024 * q + 32 * (tp + j) + (lf + i)))) = ((t.ar 1) ((4096 * (24 + p)) + (1024 * q + 32 * (tp + j) + (lf + i)))) then t else (zgive t p (1024 * q + 32 * (tp + j) + (lf + i)) ((t.ar 1) ((4096 * (24 + p)) + (1024 * q + 32 * (tp + j) + (lf + i))))) else if ((t.ar 1) ((4096 * (24 + p)) + (1024 * n + 32 * (tp + j) + (lf + i)))) ≤ ((t.ar 1) ((4096 * (24 + p)) + (1024 * q + 32 * (tp + j) + (lf + i)))) then if ((t.ar 1) ((4096 * (24 + p)) + (1024 * n + 32 * (tp + j) + (lf + i)))) = ((t.ar 1) ((4096 * (24 + p)) + (1024 * q + 32 * (tp + j) + (lf + i)))) then t else (zgive t p (1024 * q + 32 * (tp + j) + (lf + i)) ((t.ar 1) ((4096 * (24 + p)) + (1024 * n + 32 * (tp + j) + (lf + i))))) else if ((t.ar 1) ((4096 * (24 + p)) + (1024 * q + 32 * (tp + j) + (lf + i)))) = ((t.ar 1) ((4096 * (24 + p)) + (1024 * q + 32 * (tp + j) + (lf + i)))) then t else (zgive t p (1024 * q + 32 * (tp + j) + (lf + i)) ((t.ar 1) ((4096 * (24 + p)) + (1024 * q + 32 * (tp + j) + (lf + i)))))
def st_M_combine_y (p q n : Nat) (w : Int32) (lf wd tp : Nat) (j : Nat) (s : zU) : zU := (zfor wd (st_M_combine_x p q n w lf wd tp j) s)
def t_M_combine (u : zU) (p q n : Nat) (w : Int32) (lf tp wd hg : Nat) : zU := (zfor hg (st_M_combine_y p q n w lf wd tp) (zuc u 0 0))
set_option maxHeartbeats 8000000 in
theorem c_M_combine_ok (g : zGt) (d : Nat) (hd : 1 ≤ d) (G : zG) (u : zU) (m : Nat) (h : zMv u m G) (p : Nat) (q : Nat) (n : Nat) (w : Int32) (lf tp wd hg : Nat) (hlf : u.i 16 = nI lf) (htp : u.i 17 = nI tp) (hwd : u.i 18 = nI wd) (hhg : u.i 19 = nI hg) (hr1 : lf + wd ≤ 32) (hr2 : tp + hg ≤ 32) (hp : p < 4) (hq : q < 4) (hn : n < 4) (ho0 : ¬ s_M_isBranch u (nI p) = 0) (ho1 : ¬ s_M_isLayer (nI q) = 0) (ho2 : ¬ s_M_isLayer (nI n) = 0) (ho3 : ¬ w < 0) (ho4 : ¬ ¬ w ≤ 2) : zMet g y_M_combine b_M_combine 12 none [] d 0 0 [.ref m, .int (nI p), .int (nI q), .int (nI n), .int w] G (zMq none (t_M_combine u p q n w lf tp wd hg) u m G) := by
  refine zMet.of (by decide) (Nat.le_of_ble_eq_true rfl) rfl (fun X hX => ?_)
  refine zr_aload_n hX rfl d_M_combine_0 ?_
  refine zr_aload_n hX rfl d_M_combine_1 ?_
  refine zr_iload_n hX rfl d_M_combine_2 ?_
  refine zr_pV hX (c_M_isBranch g (d - 1) _ u m h (nI p)) l_M_97 im_M_isBranch se_M_isBranch f_M_isBranch k_M.1 h.m rfl (Nat.le_of_ble_eq_true rfl) (by omega) (Nat.zero_le _) (Nat.zero_le _) d_M_combine_3 ?_
  refine zr_if_eq hX (tgt := 34) d_M_combine_6 (by decide) (fun h9 => absurd h9 ho0) (fun _ => ?_)
  refine zr_iload_n hX rfl d_M_combine_9 ?_
  refine zr_pS hX (c_M_isLayer g (d - 1) _ (nI q)) l_M_102 st_M_isLayer f_M_isLayer rfl (Nat.le_of_ble_eq_true rfl) (by omega) (Nat.zero_le _) (Nat.zero_le _) d_M_combine_10 ?_
  refine zr_if_eq hX (tgt := 34) d_M_combine_13 (by decide) (fun h9 => absurd h9 ho1) (fun _ => ?_)
  refine zr_iload_n hX rfl d_M_combine_16 ?_
  refine zr_pS hX (c_M_isLayer g (d - 1) _ (nI n)) l_M_102 st_M_isLayer f_M_isLayer rfl (Nat.le_of_ble_eq_true rfl) (by omega) (Nat.zero_le _) (Nat.zero_le _) d_M_combine_17 ?_
  refine zr_if_eq hX (tgt := 34) d_M_combine_20 (by decide) (fun h9 => absurd h9 ho2) (fun _ => ?_)
  refine zr_iload hX rfl d_M_combine_23 ?_
  refine zr_if_lt hX (tgt := 34) d_M_combine_25 (by decide) (fun h9 => absurd h9 ho3) (fun _ => ?_)
  refine zr_iload hX rfl d_M_combine_28 ?_
  refine zr_iconst (v := 2) hX rfl d_M_combine_30 ?_
  refine zr_icmp_le hX (tgt := 38) d_M_combine_31 (by decide) (fun _ => ?_) (fun h9 => absurd h9 ho4)
  refine zr_iconst (v := 0) hX rfl d_M_combine_38 ?_
  refine zr_mV1 hX (c_M_fails0 g (d - 1) _ u m h ) l_M_119 im_M_fails se_M_fails f_M_fails rfl (Nat.le_of_ble_eq_true rfl) (by omega) (Nat.zero_le _) (Nat.zero_le _) d_M_combine_39 (Nat.zero_le _) (Nat.zero_le _) (zMv.m h) (fun G39 hk39 fk39 ek39 => ?_)
  refine zr_if_eq hX (tgt := 46) d_M_combine_42 (by decide) (fun _ => ?_) (fun h => absurd h (by decide))
  refine zr_aload_n hX rfl d_M_combine_46 ?_
  refine zr_get hX k_M 17 (by decide) q670 rfl hk39.m (zml17 htp) d_M_combine_47 ?_
  refine zs_istore hX (by decide) rfl d_M_combine_50 ?_
  have L52 : ∀ j, j ≤ hg → ∀ (s : zU) (G_s : zG), s = zfor j (st_M_combine_y p q n w lf wd tp) (zuc u 0 0) → zMv s m G_s → zMf u m G G_s → s.1 = u.1 → s.2.1 = (zuc u 0 0).2.1 → zw g X (zMq none (t_M_combine u p q n w lf tp wd hg) u m G) 52 [some (.ref m), some (.int (nI p)), some (.int (nI q)), some (.int (nI n)), some (.int w), some (.int (nI (tp + j))), none, none, none, none, none, none] [] G_s 0 0 := by
    refine zup hg (fun j hj_s ih_s => ?_)
    intro s G_s hs_s hk_s fk_s ek_s ik_s
    by_cases hlt_s : j < hg
    · skip
      refine zr_iload hX rfl d_M_combine_52 ?_
      refine zr_aload_n hX rfl d_M_combine_54 ?_
      refine zr_get hX k_M 17 (by decide) q670 rfl hk_s.m (zml17 (Eq.trans (congrFun ik_s 17) htp)) d_M_combine_55 ?_
      refine zr_aload_n hX rfl d_M_combine_58 ?_
      refine zr_get hX k_M 19 (by decide) q672 rfl hk_s.m (zml19 (Eq.trans (congrFun ik_s 19) hhg)) d_M_combine_59 ?_
      refine zn_iadd (a := tp) (b := hg) hX d_M_combine_62 ?_
      refine zr_icmp_ge hX (tgt := 274) d_M_combine_63 (by decide) (fun h9 => absurd h9 (nI_ge (a := (tp + j)) (b := (tp + hg)) (by omega) (by omega))) (fun _ => ?_)
      refine zr_aload_n hX rfl d_M_combine_66 ?_
      refine zr_get hX k_M 16 (by decide) q669 rfl hk_s.m (zml16 (Eq.trans (congrFun ik_s 16) hlf)) d_M_combine_67 ?_
      refine zs_istore hX (by decide) rfl d_M_combine_70 ?_
      have L72 : ∀ i, i ≤ wd → ∀ (t : zU) (G_t : zG), t = zfor i (st_M_combine_x p q n w lf wd tp j) s → zMv t m G_t → zMf u m G G_t → t.1 = u.1 → t.2.1 = s.2.1 → zw g X (zMq none (t_M_combine u p q n w lf tp wd hg) u m G) 72 [some (.ref m), some (.int (nI p)), some (.int (nI q)), some (.int (nI n)), some (.int w), some (.int (nI (tp + j))), some (.int (nI (lf + i))), none, none, none, none, none] [] G_t 0 0 := by
        refine zup wd (fun i hj_t ih_t => ?_)
        intro t G_t hs_t hk_t fk_t ek_t ik_t
        by_cases hlt_t : i < wd
        · skip
          refine zr_iload hX rfl d_M_combine_72 ?_
          refine zr_aload_n hX rfl d_M_combine_74 ?_
          refine zr_get hX k_M 16 (by decide) q669 rfl hk_t.m (zml16 (Eq.trans (congrFun ik_t 16) (Eq.trans (congrFun ik_s 16) hlf))) d_M_combine_75 ?_
          refine zr_aload_n hX rfl d_M_combine_78 ?_
          refine zr_get hX k_M 18 (by decide) q671 rfl hk_t.m (zml18 (Eq.trans (congrFun ik_t 18) (Eq.trans (congrFun ik_s 18) hwd))) d_M_combine_79 ?_
          refine zn_iadd (a := lf) (b := wd) hX d_M_combine_82 ?_
          refine zr_icmp_ge hX (tgt := 268) d_M_combine_83 (by decide) (fun h9 => absurd h9 (nI_ge (a := (lf + i)) (b := (lf + wd)) (by omega) (by omega))) (fun _ => ?_)
          refine zr_iload_n hX rfl d_M_combine_86 ?_
          refine zr_iload hX rfl d_M_combine_87 ?_
          refine zr_iload hX rfl d_M_combine_89 ?_
          refine zr_pS hX (c_M_cellN g (d - 1) _ q (lf + i) (tp + j)) l_M_123 st_M_cellOf f_M_cellOf rfl (Nat.le_of_ble_eq_true rfl) (by omega) (Nat.zero_le _) (Nat.zero_le _) d_M_combine_91 ?_
          refine zs_istore hX (by decide) rfl d_M_combine_94 ?_
          refine zr_aload_n hX rfl d_M_combine_96 ?_
          refine zr_get hX k_M 1 (by decide) q654 rfl hk_t.m rfl d_M_combine_97 ?_
          refine zr_sipush (v := 4096) hX rfl d_M_combine_100 ?_
          refine zr_bipush (v := 24) hX rfl d_M_combine_103 ?_
          refine zr_iload_n hX rfl d_M_combine_105 ?_
          refine zn_iadd (a := 24) (b := p) hX d_M_combine_106 ?_
          refine zn_imul (a := 4096) (b := (24 + p)) hX d_M_combine_107 ?_
          refine zr_iload hX rfl d_M_combine_108 ?_
          refine zn_iadd (a := (4096 * (24 + p))) (b := (1024 * q + 32 * (tp + j) + (lf + i))) hX d_M_combine_110 ?_
          refine zr_ialdN hX (hk_t.ar 1 rfl) ((4096 * (24 + p)) + (1024 * q + 32 * (tp + j) + (lf + i))) rfl (by omega) (by decide) d_M_combine_111 ?_
          refine zs_istore hX (by decide) rfl d_M_combine_112 ?_
          refine zr_aload_n hX rfl d_M_combine_114 ?_
          refine zr_get hX k_M 1 (by decide) q654 rfl hk_t.m rfl d_M_combine_115 ?_
          refine zr_sipush (v := 4096) hX rfl d_M_combine_118 ?_
          refine zr_bipush (v := 24) hX rfl d_M_combine_121 ?_
          refine zr_iload_n hX rfl d_M_combine_123 ?_
          refine zn_iadd (a := 24) (b := p) hX d_M_combine_124 ?_
          refine zn_imul (a := 4096) (b := (24 + p)) hX d_M_combine_125 ?_
          refine zr_iload_n hX rfl d_M_combine_126 ?_
          refine zr_iload hX rfl d_M_combine_127 ?_
          refine zr_iload hX rfl d_M_combine_129 ?_
          refine zr_pS hX (c_M_cellN g (d - 1) _ n (lf + i) (tp + j)) l_M_123 st_M_cellOf f_M_cellOf rfl (Nat.le_of_ble_eq_true rfl) (by omega) (Nat.zero_le _) (Nat.zero_le _) d_M_combine_131 ?_
          refine zn_iadd (a := (4096 * (24 + p))) (b := (1024 * n + 32 * (tp + j) + (lf + i))) hX d_M_combine_134 ?_
          refine zr_ialdN hX (hk_t.ar 1 rfl) ((4096 * (24 + p)) + (1024 * n + 32 * (tp + j) + (lf + i))) rfl (by omega) (by decide) d_M_combine_135 ?_
          refine zs_istore hX (by decide) rfl d_M_combine_136 ?_
          refine zr_iload hX rfl d_M_combine_138 ?_
          refine zr_ldc hX q652 d_M_combine_140 ?_
          refine zr_icmp_ne hX (tgt := 148) d_M_combine_142 (by decide) (fun h142 => ?_) (fun h142 => ?_)
          · skip
            refine zr_iload hX rfl d_M_combine_148 ?_
            refine zr_iload hX rfl d_M_combine_150 ?_
            refine zr_iadd hX d_M_combine_152 ?_
            refine zr_ldc hX q781 d_M_combine_153 ?_
            refine zr_icmp_le hX (tgt := 163) d_M_combine_155 (by decide) (fun h155 => ?_) (fun h155 => ?_)
            · skip
              refine zr_iload hX rfl d_M_combine_163 ?_
              refine zr_iload hX rfl d_M_combine_165 ?_
              refine zr_iadd hX d_M_combine_167 ?_
              refine zr_ldc hX q780 d_M_combine_168 ?_
              refine zr_icmp_ge hX (tgt := 178) d_M_combine_170 (by decide) (fun h170 => ?_) (fun h170 => ?_)
              · skip
                refine zr_iload hX rfl d_M_combine_178 ?_
                refine zr_iload hX rfl d_M_combine_180 ?_
                refine zr_iadd hX d_M_combine_182 ?_
                refine zs_istore hX (by decide) rfl d_M_combine_183 ?_
                refine zr_iload hX rfl d_M_combine_185 ?_
                refine zr_ldc hX q652 d_M_combine_187 ?_
                refine zr_icmp_ne hX (tgt := 197) d_M_combine_189 (by decide) (fun h189 => ?_) (fun h189 => ?_)
                · skip
                  refine zr_iload hX rfl d_M_combine_197 ?_
                  refine zr_if_ne hX (tgt := 207) d_M_combine_199 (by decide) (fun h199 => ?_) (fun h199 => ?_)
                  · skip
                    refine zr_iload hX rfl d_M_combine_207 ?_
                    refine zr_iconst (v := 1) hX rfl d_M_combine_209 ?_
                    refine zr_icmp_ne hX (tgt := 230) d_M_combine_210 (by decide) (fun h210 => ?_) (fun h210 => ?_)
                    · skip
                      refine zr_iload hX rfl d_M_combine_230 ?_
                      refine zr_iload hX rfl d_M_combine_232 ?_
                      refine zr_icmp_ge hX (tgt := 242) d_M_combine_234 (by decide) (fun h234 => ?_) (fun h234 => ?_)
                      · skip
                        refine zr_iload hX rfl d_M_combine_242 ?_
                        refine zs_istore hX (by decide) rfl d_M_combine_244 ?_
                        refine zr_iload hX rfl d_M_combine_246 ?_
                        refine zr_iload hX rfl d_M_combine_248 ?_
                        refine zr_icmp_eq hX (tgt := 262) d_M_combine_250 (by decide) (fun h250 => ?_) (fun h250 => ?_)
                        · skip
                          refine zs_iinc (v := nI ((lf + i) + 1)) hX rfl (nI_add _ 1) (by decide) rfl d_M_combine_262 ?_
                          refine zr_goto hX (tgt := 72) (by decide) d_M_combine_265 ?_
                          refine zw_drop 7 ?_
                          refine zw_drop 8 ?_
                          refine zw_drop 9 ?_
                          refine zw_drop 10 ?_
                          refine zw_drop 11 ?_
                          exact ih_t hlt_t t _ (by rw [zfor_s, ← hs_t]; unfold st_M_combine_x; rw [if_neg h142]; rw [if_pos h155]; rw [if_pos h170]; rw [if_neg h189]; rw [if_neg h199]; rw [if_neg h210]; rw [if_pos h234]; rw [if_pos h250]) hk_t fk_t ek_t ik_t
                        · skip
                          refine zr_aload_n hX rfl d_M_combine_253 ?_
                          refine zr_iload_n hX rfl d_M_combine_254 ?_
                          refine zr_iload hX rfl d_M_combine_255 ?_
                          refine zr_iload hX rfl d_M_combine_257 ?_
                          refine zr_mV0 hX (c_M_give g (d - 1) _ t m hk_t p (1024 * q + 32 * (tp + j) + (lf + i)) ((t.ar 1) ((4096 * (24 + p)) + (1024 * n + 32 * (tp + j) + (lf + i)))) (by omega) (by omega)) l_M_127 im_M_give se_M_give f_M_give rfl (Nat.le_of_ble_eq_true rfl) (by omega) (Nat.zero_le _) (Nat.zero_le _) d_M_combine_259 (Nat.zero_le _) (Nat.zero_le _) (zMv.m hk_t) (fun G259 hk259 fk259 ek259 => ?_)
                          refine zs_iinc (v := nI ((lf + i) + 1)) hX rfl (nI_add _ 1) (by decide) rfl d_M_combine_262 ?_
                          refine zr_goto hX (tgt := 72) (by decide) d_M_combine_265 ?_
                          refine zw_drop 7 ?_
                          refine zw_drop 8 ?_
                          refine zw_drop 9 ?_
                          refine zw_drop 10 ?_
                          refine zw_drop 11 ?_
                          exact ih_t hlt_t (zgive t p (1024 * q + 32 * (tp + j) + (lf + i)) ((t.ar 1) ((4096 * (24 + p)) + (1024 * n + 32 * (tp + j) + (lf + i))))) _ (by rw [zfor_s, ← hs_t]; unfold st_M_combine_x; rw [if_neg h142]; rw [if_pos h155]; rw [if_pos h170]; rw [if_neg h189]; rw [if_neg h199]; rw [if_neg h210]; rw [if_pos h234]; rw [if_neg h250]) hk259 (zMf.tr fk_t fk259 ek_t) (Eq.trans ek259 ek_t) ik_t
                      · skip
                        refine zr_iload hX rfl d_M_combine_237 ?_
                        refine zr_goto hX (tgt := 244) (by decide) d_M_combine_239 ?_
                        refine zs_istore hX (by decide) rfl d_M_combine_244 ?_
                        refine zr_iload hX rfl d_M_combine_246 ?_
                        refine zr_iload hX rfl d_M_combine_248 ?_
                        refine zr_icmp_eq hX (tgt := 262) d_M_combine_250 (by decide) (fun h250 => ?_) (fun h250 => ?_)
                        · skip
                          refine zs_iinc (v := nI ((lf + i) + 1)) hX rfl (nI_add _ 1) (by decide) rfl d_M_combine_262 ?_
                          refine zr_goto hX (tgt := 72) (by decide) d_M_combine_265 ?_
                          refine zw_drop 7 ?_
                          refine zw_drop 8 ?_
                          refine zw_drop 9 ?_
                          refine zw_drop 10 ?_
                          refine zw_drop 11 ?_
                          exact ih_t hlt_t t _ (by rw [zfor_s, ← hs_t]; unfold st_M_combine_x; rw [if_neg h142]; rw [if_pos h155]; rw [if_pos h170]; rw [if_neg h189]; rw [if_neg h199]; rw [if_neg h210]; rw [if_neg h234]; rw [if_pos h250]) hk_t fk_t ek_t ik_t
                        · skip
                          refine zr_aload_n hX rfl d_M_combine_253 ?_
                          refine zr_iload_n hX rfl d_M_combine_254 ?_
                          refine zr_iload hX rfl d_M_combine_255 ?_
                          refine zr_iload hX rfl d_M_combine_257 ?_
                          refine zr_mV0 hX (c_M_give g (d - 1) _ t m hk_t p (1024 * q + 32 * (tp + j) + (lf + i)) ((t.ar 1) ((4096 * (24 + p)) + (1024 * q + 32 * (tp + j) + (lf + i)))) (by omega) (by omega)) l_M_127 im_M_give se_M_give f_M_give rfl (Nat.le_of_ble_eq_true rfl) (by omega) (Nat.zero_le _) (Nat.zero_le _) d_M_combine_259 (Nat.zero_le _) (Nat.zero_le _) (zMv.m hk_t) (fun G259 hk259 fk259 ek259 => ?_)
                          refine zs_iinc (v := nI ((lf + i) + 1)) hX rfl (nI_add _ 1) (by decide) rfl d_M_combine_262 ?_
                          refine zr_goto hX (tgt := 72) (by decide) d_M_combine_265 ?_
                          refine zw_drop 7 ?_
                          refine zw_drop 8 ?_
                          refine zw_drop 9 ?_
                          refine zw_drop 10 ?_
                          refine zw_drop 11 ?_
                          exact ih_t hlt_t (zgive t p (1024 * q + 32 * (tp + j) + (lf + i)) ((t.ar 1) ((4096 * (24 + p)) + (1024 * q + 32 * (tp + j) + (lf + i))))) _ (by rw [zfor_s, ← hs_t]; unfold st_M_combine_x; rw [if_neg h142]; rw [if_pos h155]; rw [if_pos h170]; rw [if_neg h189]; rw [if_neg h199]; rw [if_neg h210]; rw [if_neg h234]; rw [if_neg h250]) hk259 (zMf.tr fk_t fk259 ek_t) (Eq.trans ek259 ek_t) ik_t
                    · skip
                      refine zr_iload hX rfl d_M_combine_213 ?_
                      refine zr_iload hX rfl d_M_combine_215 ?_
                      refine zr_icmp_le hX (tgt := 225) d_M_combine_217 (by decide) (fun h217 => ?_) (fun h217 => ?_)
                      · skip
                        refine zr_iload hX rfl d_M_combine_225 ?_
                        refine zr_goto hX (tgt := 244) (by decide) d_M_combine_227 ?_
                        refine zs_istore hX (by decide) rfl d_M_combine_244 ?_
                        refine zr_iload hX rfl d_M_combine_246 ?_
                        refine zr_iload hX rfl d_M_combine_248 ?_
                        refine zr_icmp_eq hX (tgt := 262) d_M_combine_250 (by decide) (fun h250 => ?_) (fun h250 => ?_)
                        · skip
                          refine zs_iinc (v := nI ((lf + i) + 1)) hX rfl (nI_add _ 1) (by decide) rfl d_M_combine_262 ?_
                          refine zr_goto hX (tgt := 72) (by decide) d_M_combine_265 ?_
                          refine zw_drop 7 ?_
                          refine zw_drop 8 ?_
                          refine zw_drop 9 ?_
                          refine zw_drop 10 ?_
                          refine zw_drop 11 ?_
                          exact ih_t hlt_t t _ (by rw [zfor_s, ← hs_t]; unfold st_M_combine_x; rw [if_neg h142]; rw [if_pos h155]; rw [if_pos h170]; rw [if_neg h189]; rw [if_neg h199]; rw [if_pos h210]; rw [if_pos h217]; rw [if_pos h250]) hk_t fk_t ek_t ik_t
                        · skip
                          refine zr_aload_n hX rfl d_M_combine_253 ?_
                          refine zr_iload_n hX rfl d_M_combine_254 ?_
                          refine zr_iload hX rfl d_M_combine_255 ?_
                          refine zr_iload hX rfl d_M_combine_257 ?_
                          refine zr_mV0 hX (c_M_give g (d - 1) _ t m hk_t p (1024 * q + 32 * (tp + j) + (lf + i)) ((t.ar 1) ((4096 * (24 + p)) + (1024 * n + 32 * (tp + j) + (lf + i)))) (by omega) (by omega)) l_M_127 im_M_give se_M_give f_M_give rfl (Nat.le_of_ble_eq_true rfl) (by omega) (Nat.zero_le _) (Nat.zero_le _) d_M_combine_259 (Nat.zero_le _) (Nat.zero_le _) (zMv.m hk_t) (fun G259 hk259 fk259 ek259 => ?_)
                          refine zs_iinc (v := nI ((lf + i) + 1)) hX rfl (nI_add _ 1) (by decide) rfl d_M_combine_262 ?_
                          refine zr_goto hX (tgt := 72) (by decide) d_M_combine_265 ?_
                          refine zw_drop 7 ?_
                          refine zw_drop 8 ?_
                          refine zw_drop 9 ?_
                          refine zw_drop 10 ?_
                          refine zw_drop 11 ?_
                          exact ih_t hlt_t (zgive t p (1024 * q + 32 * (tp + j) + (lf + i)) ((t.ar 1) ((4096 * (24 + p)) + (1024 * n + 32 * (tp + j) + (lf + i))))) _ (by rw [zfor_s, ← hs_t]; unfold st_M_combine_x; rw [if_neg h142]; rw [if_pos h155]; rw [if_pos h170]; rw [if_neg h189]; rw [if_neg h199]; rw [if_pos h210]; rw [if_pos h217]; rw [if_neg h250]) hk259 (zMf.tr fk_t fk259 ek_t) (Eq.trans ek259 ek_t) ik_t
                      · skip
                        refine zr_iload hX rfl d_M_combine_220 ?_
                        refine zr_goto hX (tgt := 244) (by decide) d_M_combine_222 ?_
                        refine zs_istore hX (by decide) rfl d_M_combine_244 ?_
                        refine zr_iload hX rfl d_M_combine_246 ?_
                        refine zr_iload hX rfl d_M_combine_248 ?_
                        refine zr_icmp_eq hX (tgt := 262) d_M_combine_250 (by decide) (fun h250 => ?_) (fun h250 => ?_)
                        · skip
                          refine zs_iinc (v := nI ((lf + i) + 1)) hX rfl (nI_add _ 1) (by decide) rfl d_M_combine_262 ?_
                          refine zr_goto hX (tgt := 72) (by decide) d_M_combine_265 ?_
                          refine zw_drop 7 ?_
                          refine zw_drop 8 ?_
                          refine zw_drop 9 ?_
                          refine zw_drop 10 ?_
                          refine zw_drop 11 ?_
                          exact ih_t hlt_t t _ (by rw [zfor_s, ← hs_t]; unfold st_M_combine_x; rw [if_neg h142]; rw [if_pos h155]; rw [if_pos h170]; rw [if_neg h189]; rw [if_neg h199]; rw [if_pos h210]; rw [if_neg h217]; rw [if_pos h250]) hk_t fk_t ek_t ik_t
                        · skip
                          refine zr_aload_n hX rfl d_M_combine_253 ?_
                          refine zr_iload_n hX rfl d_M_combine_254 ?_
                          refine zr_iload hX rfl d_M_combine_255 ?_
                          refine zr_iload hX rfl d_M_combine_257 ?_
                          refine zr_mV0 hX (c_M_give g (d - 1) _ t m hk_t p (1024 * q + 32 * (tp + j) + (lf + i)) ((t.ar 1) ((4096 * (24 + p)) + (1024 * q + 32 * (tp + j) + (lf + i)))) (by omega) (by omega)) l_M_127 im_M_give se_M_give f_M_give rfl (Nat.le_of_ble_eq_true rfl) (by omega) (Nat.zero_le _) (Nat.zero_le _) d_M_combine_259 (Nat.zero_le _) (Nat.zero_le _) (zMv.m hk_t) (fun G259 hk259 fk259 ek259 => ?_)
                          refine zs_iinc (v := nI ((lf + i) + 1)) hX rfl (nI_add _ 1) (by decide) rfl d_M_combine_262 ?_
                          refine zr_goto hX (tgt := 72) (by decide) d_M_combine_265 ?_
                          refine zw_drop 7 ?_
                          refine zw_drop 8 ?_
                          refine zw_drop 9 ?_
                          refine zw_drop 10 ?_
                          refine zw_drop 11 ?_
                          exact ih_t hlt_t (zgive t p (1024 * q + 32 * (tp + j) + (lf + i)) ((t.ar 1) ((4096 * (24 + p)) + (1024 * q + 32 * (tp + j) + (lf + i))))) _ (by rw [zfor_s, ← hs_t]; unfold st_M_combine_x; rw [if_neg h142]; rw [if_pos h155]; rw [if_pos h170]; rw [if_neg h189]; rw [if_neg h199]; rw [if_pos h210]; rw [if_neg h217]; rw [if_neg h250]) hk259 (zMf.tr fk_t fk259 ek_t) (Eq.trans ek259 ek_t) ik_t
                  · skip
                    refine zr_iload hX rfl d_M_combine_202 ?_
                    refine zr_goto hX (tgt := 244) (by decide) d_M_combine_204 ?_
                    refine zs_istore hX (by decide) rfl d_M_combine_244 ?_
                    refine zr_iload hX rfl d_M_combine_246 ?_
                    refine zr_iload hX rfl d_M_combine_248 ?_
                    refine zr_icmp_eq hX (tgt := 262) d_M_combine_250 (by decide) (fun h250 => ?_) (fun h250 => ?_)
                    · skip
                      refine zs_iinc (v := nI ((lf + i) + 1)) hX rfl (nI_add _ 1) (by decide) rfl d_M_combine_262 ?_
                      refine zr_goto hX (tgt := 72) (by decide) d_M_combine_265 ?_
                      refine zw_drop 7 ?_
                      refine zw_drop 8 ?_
                      refine zw_drop 9 ?_
                      refine zw_drop 10 ?_
                      refine zw_drop 11 ?_
                      exact ih_t hlt_t t _ (by rw [zfor_s, ← hs_t]; unfold st_M_combine_x; rw [if_neg h142]; rw [if_pos h155]; rw [if_pos h170]; rw [if_neg h189]; rw [if_pos h199]; rw [if_pos h250]) hk_t fk_t ek_t ik_t
                    · skip
                      refine zr_aload_n hX rfl d_M_combine_253 ?_
                      refine zr_iload_n hX rfl d_M_combine_254 ?_
                      refine zr_iload hX rfl d_M_combine_255 ?_
                      refine zr_iload hX rfl d_M_combine_257 ?_
                      refine zr_mV0 hX (c_M_give g (d - 1) _ t m hk_t p (1024 * q + 32 * (tp + j) + (lf + i)) (((t.ar 1) ((4096 * (24 + p)) + (1024 * q + 32 * (tp + j) + (lf + i)))) + ((t.ar 1) ((4096 * (24 + p)) + (1024 * n + 32 * (tp + j) + (lf + i))))) (by omega) (by omega)) l_M_127 im_M_give se_M_give f_M_give rfl (Nat.le_of_ble_eq_true rfl) (by omega) (Nat.zero_le _) (Nat.zero_le _) d_M_combine_259 (Nat.zero_le _) (Nat.zero_le _) (zMv.m hk_t) (fun G259 hk259 fk259 ek259 => ?_)
                      refine zs_iinc (v := nI ((lf + i) + 1)) hX rfl (nI_add _ 1) (by decide) rfl d_M_combine_262 ?_
                      refine zr_goto hX (tgt := 72) (by decide) d_M_combine_265 ?_
                      refine zw_drop 7 ?_
                      refine zw_drop 8 ?_
                      refine zw_drop 9 ?_
                      refine zw_drop 10 ?_
                      refine zw_drop 11 ?_
                      exact ih_t hlt_t (zgive t p (1024 * q + 32 * (tp + j) + (lf + i)) (((t.ar 1) ((4096 * (24 + p)) + (1024 * q + 32 * (tp + j) + (lf + i)))) + ((t.ar 1) ((4096 * (24 + p)) + (1024 * n + 32 * (tp + j) + (lf + i)))))) _ (by rw [zfor_s, ← hs_t]; unfold st_M_combine_x; rw [if_neg h142]; rw [if_pos h155]; rw [if_pos h170]; rw [if_neg h189]; rw [if_pos h199]; rw [if_neg h250]) hk259 (zMf.tr fk_t fk259 ek_t) (Eq.trans ek259 ek_t) ik_t
                · skip
                  refine zr_iload hX rfl d_M_combine_192 ?_
                  refine zr_goto hX (tgt := 244) (by decide) d_M_combine_194 ?_
                  refine zs_istore hX (by decide) rfl d_M_combine_244 ?_
                  refine zr_iload hX rfl d_M_combine_246 ?_
                  refine zr_iload hX rfl d_M_combine_248 ?_
                  refine zr_icmp_eq hX (tgt := 262) d_M_combine_250 (by decide) (fun h250 => ?_) (fun h250 => ?_)
                  · skip
                    refine zs_iinc (v := nI ((lf + i) + 1)) hX rfl (nI_add _ 1) (by decide) rfl d_M_combine_262 ?_
                    refine zr_goto hX (tgt := 72) (by decide) d_M_combine_265 ?_
                    refine zw_drop 7 ?_
                    refine zw_drop 8 ?_
                    refine zw_drop 9 ?_
                    refine zw_drop 10 ?_
                    refine zw_drop 11 ?_
                    exact ih_t hlt_t t _ (by rw [zfor_s, ← hs_t]; unfold st_M_combine_x; rw [if_neg h142]; rw [if_pos h155]; rw [if_pos h170]; rw [if_pos h189]; rw [if_pos h250]) hk_t fk_t ek_t ik_t
                  · skip
                    refine zr_aload_n hX rfl d_M_combine_253 ?_
                    refine zr_iload_n hX rfl d_M_combine_254 ?_
                    refine zr_iload hX rfl d_M_combine_255 ?_
                    refine zr_iload hX rfl d_M_combine_257 ?_
                    refine zr_mV0 hX (c_M_give g (d - 1) _ t m hk_t p (1024 * q + 32 * (tp + j) + (lf + i)) ((t.ar 1) ((4096 * (24 + p)) + (1024 * n + 32 * (tp + j) + (lf + i)))) (by omega) (by omega)) l_M_127 im_M_give se_M_give f_M_give rfl (Nat.le_of_ble_eq_true rfl) (by omega) (Nat.zero_le _) (Nat.zero_le _) d_M_combine_259 (Nat.zero_le _) (Nat.zero_le _) (zMv.m hk_t) (fun G259 hk259 fk259 ek259 => ?_)
                    refine zs_iinc (v := nI ((lf + i) + 1)) hX rfl (nI_add _ 1) (by decide) rfl d_M_combine_262 ?_
                    refine zr_goto hX (tgt := 72) (by decide) d_M_combine_265 ?_
                    refine zw_drop 7 ?_
                    refine zw_drop 8 ?_
                    refine zw_drop 9 ?_
                    refine zw_drop 10 ?_
                    refine zw_drop 11 ?_
                    exact ih_t hlt_t (zgive t p (1024 * q + 32 * (tp + j) + (lf + i)) ((t.ar 1) ((4096 * (24 + p)) + (1024 * n + 32 * (tp + j) + (lf + i))))) _ (by rw [zfor_s, ← hs_t]; unfold st_M_combine_x; rw [if_neg h142]; rw [if_pos h155]; rw [if_pos h170]; rw [if_pos h189]; rw [if_neg h250]) hk259 (zMf.tr fk_t fk259 ek_t) (Eq.trans ek259 ek_t) ik_t
              · skip
                refine zr_ldc hX q780 d_M_combine_173 ?_
                refine zr_goto hX (tgt := 183) (by decide) d_M_combine_175 ?_
                refine zs_istore hX (by decide) rfl d_M_combine_183 ?_
                refine zr_iload hX rfl d_M_combine_185 ?_
                refine zr_ldc hX q652 d_M_combine_187 ?_
                refine zr_icmp_ne hX (tgt := 197) d_M_combine_189 (by decide) (fun h189 => ?_) (fun h189 => ?_)
                · skip
                  refine zr_iload hX rfl d_M_combine_197 ?_
                  refine zr_if_ne hX (tgt := 207) d_M_combine_199 (by decide) (fun h199 => ?_) (fun h199 => ?_)
                  · skip
                    refine zr_iload hX rfl d_M_combine_207 ?_
                    refine zr_iconst (v := 1) hX rfl d_M_combine_209 ?_
                    refine zr_icmp_ne hX (tgt := 230) d_M_combine_210 (by decide) (fun h210 => ?_) (fun h210 => ?_)
                    · skip
                      refine zr_iload hX rfl d_M_combine_230 ?_
                      refine zr_iload hX rfl d_M_combine_232 ?_
                      refine zr_icmp_ge hX (tgt := 242) d_M_combine_234 (by decide) (fun h234 => ?_) (fun h234 => ?_)
                      · skip
                        refine zr_iload hX rfl d_M_combine_242 ?_
                        refine zs_istore hX (by decide) rfl d_M_combine_244 ?_
                        refine zr_iload hX rfl d_M_combine_246 ?_
                        refine zr_iload hX rfl d_M_combine_248 ?_
                        refine zr_icmp_eq hX (tgt := 262) d_M_combine_250 (by decide) (fun h250 => ?_) (fun h250 => ?_)
                        · skip
                          refine zs_iinc (v := nI ((lf + i) + 1)) hX rfl (nI_add _ 1) (by decide) rfl d_M_combine_262 ?_
                          refine zr_goto hX (tgt := 72) (by decide) d_M_combine_265 ?_
                          refine zw_drop 7 ?_
                          refine zw_drop 8 ?_
                          refine zw_drop 9 ?_
                          refine zw_drop 10 ?_
                          refine zw_drop 11 ?_
                          exact ih_t hlt_t t _ (by rw [zfor_s, ← hs_t]; unfold st_M_combine_x; rw [if_neg h142]; rw [if_pos h155]; rw [if_neg h170]; rw [if_neg h189]; rw [if_neg h199]; rw [if_neg h210]; rw [if_pos h234]; rw [if_pos h250]) hk_t fk_t ek_t ik_t
                        · skip
                          refine zr_aload_n hX rfl d_M_combine_253 ?_
                          refine zr_iload_n hX rfl d_M_combine_254 ?_
                          refine zr_iload hX rfl d_M_combine_255 ?_
                          refine zr_iload hX rfl d_M_combine_257 ?_
                          refine zr_mV0 hX (c_M_give g (d - 1) _ t m hk_t p (1024 * q + 32 * (tp + j) + (lf + i)) ((t.ar 1) ((4096 * (24 + p)) + (1024 * n + 32 * (tp + j) + (lf + i)))) (by omega) (by omega)) l_M_127 im_M_give se_M_give f_M_give rfl (Nat.le_of_ble_eq_true rfl) (by omega) (Nat.zero_le _) (Nat.zero_le _) d_M_combine_259 (Nat.zero_le _) (Nat.zero_le _) (zMv.m hk_t) (fun G259 hk259 fk259 ek259 => ?_)
                          refine zs_iinc (v := nI ((lf + i) + 1)) hX rfl (nI_add _ 1) (by decide) rfl d_M_combine_262 ?_
                          refine zr_goto hX (tgt := 72) (by decide) d_M_combine_265 ?_
                          refine zw_drop 7 ?_
                          refine zw_drop 8 ?_
                          refine zw_drop 9 ?_
                          refine zw_drop 10 ?_
                          refine zw_drop 11 ?_
                          exact ih_t hlt_t (zgive t p (1024 * q + 32 * (tp + j) + (lf + i)) ((t.ar 1) ((4096 * (24 + p)) + (1024 * n + 32 * (tp + j) + (lf + i))))) _ (by rw [zfor_s, ← hs_t]; unfold st_M_combine_x; rw [if_neg h142]; rw [if_pos h155]; rw [if_neg h170]; rw [if_neg h189]; rw [if_neg h199]; rw [if_neg h210]; rw [if_pos h234]; rw [if_neg h250]) hk259 (zMf.tr fk_t fk259 ek_t) (Eq.trans ek259 ek_t) ik_t
                      · skip
                        refine zr_iload hX rfl d_M_combine_237 ?_
                        refine zr_goto hX (tgt := 244) (by decide) d_M_combine_239 ?_
                        refine zs_istore hX (by decide) rfl d_M_combine_244 ?_
                        refine zr_iload hX rfl d_M_combine_246 ?_
                        refine zr_iload hX rfl d_M_combine_248 ?_
                        refine zr_icmp_eq hX (tgt := 262) d_M_combine_250 (by decide) (fun h250 => ?_) (fun h250 => ?_)
                        · skip
                          refine zs_iinc (v := nI ((lf + i) + 1)) hX rfl (nI_add _ 1) (by decide) rfl d_M_combine_262 ?_
                          refine zr_goto hX (tgt := 72) (by decide) d_M_combine_265 ?_
                          refine zw_drop 7 ?_
                          refine zw_drop 8 ?_
                          refine zw_drop 9 ?_
                          refine zw_drop 10 ?_
                          refine zw_drop 11 ?_
                          exact ih_t hlt_t t _ (by rw [zfor_s, ← hs_t]; unfold st_M_combine_x; rw [if_neg h142]; rw [if_pos h155]; rw [if_neg h170]; rw [if_neg h189]; rw [if_neg h199]; rw [if_neg h210]; rw [if_neg h234]; rw [if_pos h250]) hk_t fk_t ek_t ik_t
                        · skip
                          refine zr_aload_n hX rfl d_M_combine_253 ?_
                          refine zr_iload_n hX rfl d_M_combine_254 ?_
                          refine zr_iload hX rfl d_M_combine_255 ?_
                          refine zr_iload hX rfl d_M_combine_257 ?_
                          refine zr_mV0 hX (c_M_give g (d - 1) _ t m hk_t p (1024 * q + 32 * (tp + j) + (lf + i)) ((t.ar 1) ((4096 * (24 + p)) + (1024 * q + 32 * (tp + j) + (lf + i)))) (by omega) (by omega)) l_M_127 im_M_give se_M_give f_M_give rfl (Nat.le_of_ble_eq_true rfl) (by omega) (Nat.zero_le _) (Nat.zero_le _) d_M_combine_259 (Nat.zero_le _) (Nat.zero_le _) (zMv.m hk_t) (fun G259 hk259 fk259 ek259 => ?_)
                          refine zs_iinc (v := nI ((lf + i) + 1)) hX rfl (nI_add _ 1) (by decide) rfl d_M_combine_262 ?_
                          refine zr_goto hX (tgt := 72) (by decide) d_M_combine_265 ?_
                          refine zw_drop 7 ?_
                          refine zw_drop 8 ?_
                          refine zw_drop 9 ?_
                          refine zw_drop 10 ?_
                          refine zw_drop 11 ?_
                          exact ih_t hlt_t (zgive t p (1024 * q + 32 * (tp + j) + (lf + i)) ((t.ar 1) ((4096 * (24 + p)) + (1024 * q + 32 * (tp + j) + (lf + i))))) _ (by rw [zfor_s, ← hs_t]; unfold st_M_combine_x; rw [if_neg h142]; rw [if_pos h155]; rw [if_neg h170]; rw [if_neg h189]; rw [if_neg h199]; rw [if_neg h210]; rw [if_neg h234]; rw [if_neg h250]) hk259 (zMf.tr fk_t fk259 ek_t) (Eq.trans ek259 ek_t) ik_t
                    · skip
                      refine zr_iload hX rfl d_M_combine_213 ?_
                      refine zr_iload hX rfl d_M_combine_215 ?_
                      refine zr_icmp_le hX (tgt := 225) d_M_combine_217 (by decide) (fun h217 => ?_) (fun h217 => ?_)
                      · skip
                        refine zr_iload hX rfl d_M_combine_225 ?_
                        refine zr_goto hX (tgt := 244) (by decide) d_M_combine_227 ?_
                        refine zs_istore hX (by decide) rfl d_M_combine_244 ?_
                        refine zr_iload hX rfl d_M_combine_246 ?_
                        refine zr_iload hX rfl d_M_combine_248 ?_
                        refine zr_icmp_eq hX (tgt := 262) d_M_combine_250 (by decide) (fun h250 => ?_) (fun h250 => ?_)
                        · skip
                          refine zs_iinc (v := nI ((lf + i) + 1)) hX rfl (nI_add _ 1) (by decide) rfl d_M_combine_262 ?_
                          refine zr_goto hX (tgt := 72) (by decide) d_M_combine_265 ?_
                          refine zw_drop 7 ?_
                          refine zw_drop 8 ?_
                          refine zw_drop 9 ?_
                          refine zw_drop 10 ?_
                          refine zw_drop 11 ?_
                          exact ih_t hlt_t t _ (by rw [zfor_s, ← hs_t]; unfold st_M_combine_x; rw [if_neg h142]; rw [if_pos h155]; rw [if_neg h170]; rw [if_neg h189]; rw [if_neg h199]; rw [if_pos h210]; rw [if_pos h217]; rw [if_pos h250]) hk_t fk_t ek_t ik_t
                        · skip
                          refine zr_aload_n hX rfl d_M_combine_253 ?_
                          refine zr_iload_n hX rfl d_M_combine_254 ?_
                          refine zr_iload hX rfl d_M_combine_255 ?_
                          refine zr_iload hX rfl d_M_combine_257 ?_
                          refine zr_mV0 hX (c_M_give g (d - 1) _ t m hk_t p (1024 * q + 32 * (tp + j) + (lf + i)) ((t.ar 1) ((4096 * (24 + p)) + (1024 * n + 32 * (tp + j) + (lf + i)))) (by omega) (by omega)) l_M_127 im_M_give se_M_give f_M_give rfl (Nat.le_of_ble_eq_true rfl) (by omega) (Nat.zero_le _) (Nat.zero_le _) d_M_combine_259 (Nat.zero_le _) (Nat.zero_le _) (zMv.m hk_t) (fun G259 hk259 fk259 ek259 => ?_)
                          refine zs_iinc (v := nI ((lf + i) + 1)) hX rfl (nI_add _ 1) (by decide) rfl d_M_combine_262 ?_
                          refine zr_goto hX (tgt := 72) (by decide) d_M_combine_265 ?_
                          refine zw_drop 7 ?_
                          refine zw_drop 8 ?_
                          refine zw_drop 9 ?_
                          refine zw_drop 10 ?_
                          refine zw_drop 11 ?_
                          exact ih_t hlt_t (zgive t p (1024 * q + 32 * (tp + j) + (lf + i)) ((t.ar 1) ((4096 * (24 + p)) + (1024 * n + 32 * (tp + j) + (lf + i))))) _ (by rw [zfor_s, ← hs_t]; unfold st_M_combine_x; rw [if_neg h142]; rw [if_pos h155]; rw [if_neg h170]; rw [if_neg h189]; rw [if_neg h199]; rw [if_pos h210]; rw [if_pos h217]; rw [if_neg h250]) hk259 (zMf.tr fk_t fk259 ek_t) (Eq.trans ek259 ek_t) ik_t
                      · skip
                        refine zr_iload hX rfl d_M_combine_220 ?_
                        refine zr_goto hX (tgt := 244) (by decide) d_M_combine_222 ?_
                        refine zs_istore hX (by decide) rfl d_M_combine_244 ?_
                        refine zr_iload hX rfl d_M_combine_246 ?_
                        refine zr_iload hX rfl d_M_combine_248 ?_
                        refine zr_icmp_eq hX (tgt := 262) d_M_combine_250 (by decide) (fun h250 => ?_) (fun h250 => ?_)
                        · skip
                          refine zs_iinc (v := nI ((lf + i) + 1)) hX rfl (nI_add _ 1) (by decide) rfl d_M_combine_262 ?_
                          refine zr_goto hX (tgt := 72) (by decide) d_M_combine_265 ?_
                          refine zw_drop 7 ?_
                          refine zw_drop 8 ?_
                          refine zw_drop 9 ?_
                          refine zw_drop 10 ?_
                          refine zw_drop 11 ?_
                          exact ih_t hlt_t t _ (by rw [zfor_s, ← hs_t]; unfold st_M_combine_x; rw [if_neg h142]; rw [if_pos h155]; rw [if_neg h170]; rw [if_neg h189]; rw [if_neg h199]; rw [if_pos h210]; rw [if_neg h217]; rw [if_pos h250]) hk_t fk_t ek_t ik_t
                        · skip
                          refine zr_aload_n hX rfl d_M_combine_253 ?_
                          refine zr_iload_n hX rfl d_M_combine_254 ?_
                          refine zr_iload hX rfl d_M_combine_255 ?_
                          refine zr_iload hX rfl d_M_combine_257 ?_
                          refine zr_mV0 hX (c_M_give g (d - 1) _ t m hk_t p (1024 * q + 32 * (tp + j) + (lf + i)) ((t.ar 1) ((4096 * (24 + p)) + (1024 * q + 32 * (tp + j) + (lf + i)))) (by omega) (by omega)) l_M_127 im_M_give se_M_give f_M_give rfl (Nat.le_of_ble_eq_true rfl) (by omega) (Nat.zero_le _) (Nat.zero_le _) d_M_combine_259 (Nat.zero_le _) (Nat.zero_le _) (zMv.m hk_t) (fun G259 hk259 fk259 ek259 => ?_)
                          refine zs_iinc (v := nI ((lf + i) + 1)) hX rfl (nI_add _ 1) (by decide) rfl d_M_combine_262 ?_
                          refine zr_goto hX (tgt := 72) (by decide) d_M_combine_265 ?_
                          refine zw_drop 7 ?_
                          refine zw_drop 8 ?_
                          refine zw_drop 9 ?_
                          refine zw_drop 10 ?_
                          refine zw_drop 11 ?_
                          exact ih_t hlt_t (zgive t p (1024 * q + 32 * (tp + j) + (lf + i)) ((t.ar 1) ((4096 * (24 + p)) + (1024 * q + 32 * (tp + j) + (lf + i))))) _ (by rw [zfor_s, ← hs_t]; unfold st_M_combine_x; rw [if_neg h142]; rw [if_pos h155]; rw [if_neg h170]; rw [if_neg h189]; rw [if_neg h199]; rw [if_pos h210]; rw [if_neg h217]; rw [if_neg h250]) hk259 (zMf.tr fk_t fk259 ek_t) (Eq.trans ek259 ek_t) ik_t
                  · skip
                    refine zr_iload hX rfl d_M_combine_202 ?_
                    refine zr_goto hX (tgt := 244) (by decide) d_M_combine_204 ?_
                    refine zs_istore hX (by decide) rfl d_M_combine_244 ?_
                    refine zr_iload hX rfl d_M_combine_246 ?_
                    refine zr_iload hX rfl d_M_combine_248 ?_
                    refine zr_icmp_eq hX (tgt := 262) d_M_combine_250 (by decide) (fun h250 => ?_) (fun h250 => ?_)
                    · skip
                      refine zs_iinc (v := nI ((lf + i) + 1)) hX rfl (nI_add _ 1) (by decide) rfl d_M_combine_262 ?_
                      refine zr_goto hX (tgt := 72) (by decide) d_M_combine_265 ?_
                      refine zw_drop 7 ?_
                      refine zw_drop 8 ?_
                      refine zw_drop 9 ?_
                      refine zw_drop 10 ?_
                      refine zw_drop 11 ?_
                      exact ih_t hlt_t t _ (by rw [zfor_s, ← hs_t]; unfold st_M_combine_x; rw [if_neg h142]; rw [if_pos h155]; rw [if_neg h170]; rw [if_neg h189]; rw [if_pos h199]; rw [if_pos h250]) hk_t fk_t ek_t ik_t
                    · skip
                      refine zr_aload_n hX rfl d_M_combine_253 ?_
                      refine zr_iload_n hX rfl d_M_combine_254 ?_
                      refine zr_iload hX rfl d_M_combine_255 ?_
                      refine zr_iload hX rfl d_M_combine_257 ?_
                      refine zr_mV0 hX (c_M_give g (d - 1) _ t m hk_t p (1024 * q + 32 * (tp + j) + (lf + i)) (-1000000) (by omega) (by omega)) l_M_127 im_M_give se_M_give f_M_give rfl (Nat.le_of_ble_eq_true rfl) (by omega) (Nat.zero_le _) (Nat.zero_le _) d_M_combine_259 (Nat.zero_le _) (Nat.zero_le _) (zMv.m hk_t) (fun G259 hk259 fk259 ek259 => ?_)
                      refine zs_iinc (v := nI ((lf + i) + 1)) hX rfl (nI_add _ 1) (by decide) rfl d_M_combine_262 ?_
                      refine zr_goto hX (tgt := 72) (by decide) d_M_combine_265 ?_
                      refine zw_drop 7 ?_
                      refine zw_drop 8 ?_
                      refine zw_drop 9 ?_
                      refine zw_drop 10 ?_
                      refine zw_drop 11 ?_
                      exact ih_t hlt_t (zgive t p (1024 * q + 32 * (tp + j) + (lf + i)) (-1000000)) _ (by rw [zfor_s, ← hs_t]; unfold st_M_combine_x; rw [if_neg h142]; rw [if_pos h155]; rw [if_neg h170]; rw [if_neg h189]; rw [if_pos h199]; rw [if_neg h250]) hk259 (zMf.tr fk_t fk259 ek_t) (Eq.trans ek259 ek_t) ik_t
                · skip
                  refine zr_iload hX rfl d_M_combine_192 ?_
                  refine zr_goto hX (tgt := 244) (by decide) d_M_combine_194 ?_
                  refine zs_istore hX (by decide) rfl d_M_combine_244 ?_
                  refine zr_iload hX rfl d_M_combine_246 ?_
                  refine zr_iload hX rfl d_M_combine_248 ?_
                  refine zr_icmp_eq hX (tgt := 262) d_M_combine_250 (by decide) (fun h250 => ?_) (fun h250 => ?_)
                  · skip
                    refine zs_iinc (v := nI ((lf + i) + 1)) hX rfl (nI_add _ 1) (by decide) rfl d_M_combine_262 ?_
                    refine zr_goto hX (tgt := 72) (by decide) d_M_combine_265 ?_
                    refine zw_drop 7 ?_
                    refine zw_drop 8 ?_
                    refine zw_drop 9 ?_
                    refine zw_drop 10 ?_
                    refine zw_drop 11 ?_
                    exact ih_t hlt_t t _ (by rw [zfor_s, ← hs_t]; unfold st_M_combine_x; rw [if_neg h142]; rw [if_pos h155]; rw [if_neg h170]; rw [if_pos h189]; rw [if_pos h250]) hk_t fk_t ek_t ik_t
                  · skip
                    refine zr_aload_n hX rfl d_M_combine_253 ?_
                    refine zr_iload_n hX rfl d_M_combine_254 ?_
                    refine zr_iload hX rfl d_M_combine_255 ?_
                    refine zr_iload hX rfl d_M_combine_257 ?_
                    refine zr_mV0 hX (c_M_give g (d - 1) _ t m hk_t p (1024 * q + 32 * (tp + j) + (lf + i)) ((t.ar 1) ((4096 * (24 + p)) + (1024 * n + 32 * (tp + j) + (lf + i)))) (by omega) (by omega)) l_M_127 im_M_give se_M_give f_M_give rfl (Nat.le_of_ble_eq_true rfl) (by omega) (Nat.zero_le _) (Nat.zero_le _) d_M_combine_259 (Nat.zero_le _) (Nat.zero_le _) (zMv.m hk_t) (fun G259 hk259 fk259 ek259 => ?_)
                    refine zs_iinc (v := nI ((lf + i) + 1)) hX rfl (nI_add _ 1) (by decide) rfl d_M_combine_262 ?_
                    refine zr_goto hX (tgt := 72) (by decide) d_M_combine_265 ?_
                    refine zw_drop 7 ?_
                    refine zw_drop 8 ?_
                    refine zw_drop 9 ?_
                    refine zw_drop 10 ?_
                    refine zw_drop 11 ?_
                    exact ih_t hlt_t (zgive t p (1024 * q + 32 * (tp + j) + (lf + i)) ((t.ar 1) ((4096 * (24 + p)) + (1024 * n + 32 * (tp + j) + (lf + i))))) _ (by rw [zfor_s, ← hs_t]; unfold st_M_combine_x; rw [if_neg h142]; rw [if_pos h155]; rw [if_neg h170]; rw [if_pos h189]; rw [if_neg h250]) hk259 (zMf.tr fk_t fk259 ek_t) (Eq.trans ek259 ek_t) ik_t
            · skip
              refine zr_ldc hX q781 d_M_combine_158 ?_
              refine zr_goto hX (tgt := 183) (by decide) d_M_combine_160 ?_
              refine zs_istore hX (by decide) rfl d_M_combine_183 ?_
              refine zr_iload hX rfl d_M_combine_185 ?_
              refine zr_ldc hX q652 d_M_combine_187 ?_
              refine zr_icmp_ne hX (tgt := 197) d_M_combine_189 (by decide) (fun h189 => ?_) (fun h189 => ?_)
              · skip
                refine zr_iload hX rfl d_M_combine_197 ?_
                refine zr_if_ne hX (tgt := 207) d_M_combine_199 (by decide) (fun h199 => ?_) (fun h199 => ?_)
                · skip
                  refine zr_iload hX rfl d_M_combine_207 ?_
                  refine zr_iconst (v := 1) hX rfl d_M_combine_209 ?_
                  refine zr_icmp_ne hX (tgt := 230) d_M_combine_210 (by decide) (fun h210 => ?_) (fun h210 => ?_)
                  · skip
                    refine zr_iload hX rfl d_M_combine_230 ?_
                    refine zr_iload hX rfl d_M_combine_232 ?_
                    refine zr_icmp_ge hX (tgt := 242) d_M_combine_234 (by decide) (fun h234 => ?_) (fun h234 => ?_)
                    · skip
                      refine zr_iload hX rfl d_M_combine_242 ?_
                      refine zs_istore hX (by decide) rfl d_M_combine_244 ?_
                      refine zr_iload hX rfl d_M_combine_246 ?_
                      refine zr_iload hX rfl d_M_combine_248 ?_
                      refine zr_icmp_eq hX (tgt := 262) d_M_combine_250 (by decide) (fun h250 => ?_) (fun h250 => ?_)
                      · skip
                        refine zs_iinc (v := nI ((lf + i) + 1)) hX rfl (nI_add _ 1) (by decide) rfl d_M_combine_262 ?_
                        refine zr_goto hX (tgt := 72) (by decide) d_M_combine_265 ?_
                        refine zw_drop 7 ?_
                        refine zw_drop 8 ?_
                        refine zw_drop 9 ?_
                        refine zw_drop 10 ?_
                        refine zw_drop 11 ?_
                        exact ih_t hlt_t t _ (by rw [zfor_s, ← hs_t]; unfold st_M_combine_x; rw [if_neg h142]; rw [if_neg h155]; rw [if_neg h189]; rw [if_neg h199]; rw [if_neg h210]; rw [if_pos h234]; rw [if_pos h250]) hk_t fk_t ek_t ik_t
                      · skip
                        refine zr_aload_n hX rfl d_M_combine_253 ?_
                        refine zr_iload_n hX rfl d_M_combine_254 ?_
                        refine zr_iload hX rfl d_M_combine_255 ?_
                        refine zr_iload hX rfl d_M_combine_257 ?_
                        refine zr_mV0 hX (c_M_give g (d - 1) _ t m hk_t p (1024 * q + 32 * (tp + j) + (lf + i)) ((t.ar 1) ((4096 * (24 + p)) + (1024 * n + 32 * (tp + j) + (lf + i)))) (by omega) (by omega)) l_M_127 im_M_give se_M_give f_M_give rfl (Nat.le_of_ble_eq_true rfl) (by omega) (Nat.zero_le _) (Nat.zero_le _) d_M_combine_259 (Nat.zero_le _) (Nat.zero_le _) (zMv.m hk_t) (fun G259 hk259 fk259 ek259 => ?_)
                        refine zs_iinc (v := nI ((lf + i) + 1)) hX rfl (nI_add _ 1) (by decide) rfl d_M_combine_262 ?_
                        refine zr_goto hX (tgt := 72) (by decide) d_M_combine_265 ?_
                        refine zw_drop 7 ?_
                        refine zw_drop 8 ?_
                        refine zw_drop 9 ?_
                        refine zw_drop 10 ?_
                        refine zw_drop 11 ?_
                        exact ih_t hlt_t (zgive t p (1024 * q + 32 * (tp + j) + (lf + i)) ((t.ar 1) ((4096 * (24 + p)) + (1024 * n + 32 * (tp + j) + (lf + i))))) _ (by rw [zfor_s, ← hs_t]; unfold st_M_combine_x; rw [if_neg h142]; rw [if_neg h155]; rw [if_neg h189]; rw [if_neg h199]; rw [if_neg h210]; rw [if_pos h234]; rw [if_neg h250]) hk259 (zMf.tr fk_t fk259 ek_t) (Eq.trans ek259 ek_t) ik_t
                    · skip
                      refine zr_iload hX rfl d_M_combine_237 ?_
                      refine zr_goto hX (tgt := 244) (by decide) d_M_combine_239 ?_
                      refine zs_istore hX (by decide) rfl d_M_combine_244 ?_
                      refine zr_iload hX rfl d_M_combine_246 ?_
                      refine zr_iload hX rfl d_M_combine_248 ?_
                      refine zr_icmp_eq hX (tgt := 262) d_M_combine_250 (by decide) (fun h250 => ?_) (fun h250 => ?_)
                      · skip
                        refine zs_iinc (v := nI ((lf + i) + 1)) hX rfl (nI_add _ 1) (by decide) rfl d_M_combine_262 ?_
                        refine zr_goto hX (tgt := 72) (by decide) d_M_combine_265 ?_
                        refine zw_drop 7 ?_
                        refine zw_drop 8 ?_
                        refine zw_drop 9 ?_
                        refine zw_drop 10 ?_
                        refine zw_drop 11 ?_
                        exact ih_t hlt_t t _ (by rw [zfor_s, ← hs_t]; unfold st_M_combine_x; rw [if_neg h142]; rw [if_neg h155]; rw [if_neg h189]; rw [if_neg h199]; rw [if_neg h210]; rw [if_neg h234]; rw [if_pos h250]) hk_t fk_t ek_t ik_t
                      · skip
                        refine zr_aload_n hX rfl d_M_combine_253 ?_
                        refine zr_iload_n hX rfl d_M_combine_254 ?_
                        refine zr_iload hX rfl d_M_combine_255 ?_
                        refine zr_iload hX rfl d_M_combine_257 ?_
                        refine zr_mV0 hX (c_M_give g (d - 1) _ t m hk_t p (1024 * q + 32 * (tp + j) + (lf + i)) ((t.ar 1) ((4096 * (24 + p)) + (1024 * q + 32 * (tp + j) + (lf + i)))) (by omega) (by omega)) l_M_127 im_M_give se_M_give f_M_give rfl (Nat.le_of_ble_eq_true rfl) (by omega) (Nat.zero_le _) (Nat.zero_le _) d_M_combine_259 (Nat.zero_le _) (Nat.zero_le _) (zMv.m hk_t) (fun G259 hk259 fk259 ek259 => ?_)
                        refine zs_iinc (v := nI ((lf + i) + 1)) hX rfl (nI_add _ 1) (by decide) rfl d_M_combine_262 ?_
                        refine zr_goto hX (tgt := 72) (by decide) d_M_combine_265 ?_
                        refine zw_drop 7 ?_
                        refine zw_drop 8 ?_
                        refine zw_drop 9 ?_
                        refine zw_drop 10 ?_
                        refine zw_drop 11 ?_
                        exact ih_t hlt_t (zgive t p (1024 * q + 32 * (tp + j) + (lf + i)) ((t.ar 1) ((4096 * (24 + p)) + (1024 * q + 32 * (tp + j) + (lf + i))))) _ (by rw [zfor_s, ← hs_t]; unfold st_M_combine_x; rw [if_neg h142]; rw [if_neg h155]; rw [if_neg h189]; rw [if_neg h199]; rw [if_neg h210]; rw [if_neg h234]; rw [if_neg h250]) hk259 (zMf.tr fk_t fk259 ek_t) (Eq.trans ek259 ek_t) ik_t
                  · skip
                    refine zr_iload hX rfl d_M_combine_213 ?_
                    refine zr_iload hX rfl d_M_combine_215 ?_
                    refine zr_icmp_le hX (tgt := 225) d_M_combine_217 (by decide) (fun h217 => ?_) (fun h217 => ?_)
                    · skip
                      refine zr_iload hX rfl d_M_combine_225 ?_
                      refine zr_goto hX (tgt := 244) (by decide) d_M_combine_227 ?_
                      refine zs_istore hX (by decide) rfl d_M_combine_244 ?_
                      refine zr_iload hX rfl d_M_combine_246 ?_
                      refine zr_iload hX rfl d_M_combine_248 ?_
                      refine zr_icmp_eq hX (tgt := 262) d_M_combine_250 (by decide) (fun h250 => ?_) (fun h250 => ?_)
                      · skip
                        refine zs_iinc (v := nI ((lf + i) + 1)) hX rfl (nI_add _ 1) (by decide) rfl d_M_combine_262 ?_
                        refine zr_goto hX (tgt := 72) (by decide) d_M_combine_265 ?_
                        refine zw_drop 7 ?_
                        refine zw_drop 8 ?_
                        refine zw_drop 9 ?_
                        refine zw_drop 10 ?_
                        refine zw_drop 11 ?_
                        exact ih_t hlt_t t _ (by rw [zfor_s, ← hs_t]; unfold st_M_combine_x; rw [if_neg h142]; rw [if_neg h155]; rw [if_neg h189]; rw [if_neg h199]; rw [if_pos h210]; rw [if_pos h217]; rw [if_pos h250]) hk_t fk_t ek_t ik_t
                      · skip
                        refine zr_aload_n hX rfl d_M_combine_253 ?_
                        refine zr_iload_n hX rfl d_M_combine_254 ?_
                        refine zr_iload hX rfl d_M_combine_255 ?_
                        refine zr_iload hX rfl d_M_combine_257 ?_
                        refine zr_mV0 hX (c_M_give g (d - 1) _ t m hk_t p (1024 * q + 32 * (tp + j) + (lf + i)) ((t.ar 1) ((4096 * (24 + p)) + (1024 * n + 32 * (tp + j) + (lf + i)))) (by omega) (by omega)) l_M_127 im_M_give se_M_give f_M_give rfl (Nat.le_of_ble_eq_true rfl) (by omega) (Nat.zero_le _) (Nat.zero_le _) d_M_combine_259 (Nat.zero_le _) (Nat.zero_le _) (zMv.m hk_t) (fun G259 hk259 fk259 ek259 => ?_)
                        refine zs_iinc (v := nI ((lf + i) + 1)) hX rfl (nI_add _ 1) (by decide) rfl d_M_combine_262 ?_
                        refine zr_goto hX (tgt := 72) (by decide) d_M_combine_265 ?_
                        refine zw_drop 7 ?_
                        refine zw_drop 8 ?_
                        refine zw_drop 9 ?_
                        refine zw_drop 10 ?_
                        refine zw_drop 11 ?_
                        exact ih_t hlt_t (zgive t p (1024 * q + 32 * (tp + j) + (lf + i)) ((t.ar 1) ((4096 * (24 + p)) + (1024 * n + 32 * (tp + j) + (lf + i))))) _ (by rw [zfor_s, ← hs_t]; unfold st_M_combine_x; rw [if_neg h142]; rw [if_neg h155]; rw [if_neg h189]; rw [if_neg h199]; rw [if_pos h210]; rw [if_pos h217]; rw [if_neg h250]) hk259 (zMf.tr fk_t fk259 ek_t) (Eq.trans ek259 ek_t) ik_t
                    · skip
                      refine zr_iload hX rfl d_M_combine_220 ?_
                      refine zr_goto hX (tgt := 244) (by decide) d_M_combine_222 ?_
                      refine zs_istore hX (by decide) rfl d_M_combine_244 ?_
                      refine zr_iload hX rfl d_M_combine_246 ?_
                      refine zr_iload hX rfl d_M_combine_248 ?_
                      refine zr_icmp_eq hX (tgt := 262) d_M_combine_250 (by decide) (fun h250 => ?_) (fun h250 => ?_)
                      · skip
                        refine zs_iinc (v := nI ((lf + i) + 1)) hX rfl (nI_add _ 1) (by decide) rfl d_M_combine_262 ?_
                        refine zr_goto hX (tgt := 72) (by decide) d_M_combine_265 ?_
                        refine zw_drop 7 ?_
                        refine zw_drop 8 ?_
                        refine zw_drop 9 ?_
                        refine zw_drop 10 ?_
                        refine zw_drop 11 ?_
                        exact ih_t hlt_t t _ (by rw [zfor_s, ← hs_t]; unfold st_M_combine_x; rw [if_neg h142]; rw [if_neg h155]; rw [if_neg h189]; rw [if_neg h199]; rw [if_pos h210]; rw [if_neg h217]; rw [if_pos h250]) hk_t fk_t ek_t ik_t
                      · skip
                        refine zr_aload_n hX rfl d_M_combine_253 ?_
                        refine zr_iload_n hX rfl d_M_combine_254 ?_
                        refine zr_iload hX rfl d_M_combine_255 ?_
                        refine zr_iload hX rfl d_M_combine_257 ?_
                        refine zr_mV0 hX (c_M_give g (d - 1) _ t m hk_t p (1024 * q + 32 * (tp + j) + (lf + i)) ((t.ar 1) ((4096 * (24 + p)) + (1024 * q + 32 * (tp + j) + (lf + i)))) (by omega) (by omega)) l_M_127 im_M_give se_M_give f_M_give rfl (Nat.le_of_ble_eq_true rfl) (by omega) (Nat.zero_le _) (Nat.zero_le _) d_M_combine_259 (Nat.zero_le _) (Nat.zero_le _) (zMv.m hk_t) (fun G259 hk259 fk259 ek259 => ?_)
                        refine zs_iinc (v := nI ((lf + i) + 1)) hX rfl (nI_add _ 1) (by decide) rfl d_M_combine_262 ?_
                        refine zr_goto hX (tgt := 72) (by decide) d_M_combine_265 ?_
                        refine zw_drop 7 ?_
                        refine zw_drop 8 ?_
                        refine zw_drop 9 ?_
                        refine zw_drop 10 ?_
                        refine zw_drop 11 ?_
                        exact ih_t hlt_t (zgive t p (1024 * q + 32 * (tp + j) + (lf + i)) ((t.ar 1) ((4096 * (24 + p)) + (1024 * q + 32 * (tp + j) + (lf + i))))) _ (by rw [zfor_s, ← hs_t]; unfold st_M_combine_x; rw [if_neg h142]; rw [if_neg h155]; rw [if_neg h189]; rw [if_neg h199]; rw [if_pos h210]; rw [if_neg h217]; rw [if_neg h250]) hk259 (zMf.tr fk_t fk259 ek_t) (Eq.trans ek259 ek_t) ik_t
                · skip
                  refine zr_iload hX rfl d_M_combine_202 ?_
                  refine zr_goto hX (tgt := 244) (by decide) d_M_combine_204 ?_
                  refine zs_istore hX (by decide) rfl d_M_combine_244 ?_
                  refine zr_iload hX rfl d_M_combine_246 ?_
                  refine zr_iload hX rfl d_M_combine_248 ?_
                  refine zr_icmp_eq hX (tgt := 262) d_M_combine_250 (by decide) (fun h250 => ?_) (fun h250 => ?_)
                  · skip
                    refine zs_iinc (v := nI ((lf + i) + 1)) hX rfl (nI_add _ 1) (by decide) rfl d_M_combine_262 ?_
                    refine zr_goto hX (tgt := 72) (by decide) d_M_combine_265 ?_
                    refine zw_drop 7 ?_
                    refine zw_drop 8 ?_
                    refine zw_drop 9 ?_
                    refine zw_drop 10 ?_
                    refine zw_drop 11 ?_
                    exact ih_t hlt_t t _ (by rw [zfor_s, ← hs_t]; unfold st_M_combine_x; rw [if_neg h142]; rw [if_neg h155]; rw [if_neg h189]; rw [if_pos h199]; rw [if_pos h250]) hk_t fk_t ek_t ik_t
                  · skip
                    refine zr_aload_n hX rfl d_M_combine_253 ?_
                    refine zr_iload_n hX rfl d_M_combine_254 ?_
                    refine zr_iload hX rfl d_M_combine_255 ?_
                    refine zr_iload hX rfl d_M_combine_257 ?_
                    refine zr_mV0 hX (c_M_give g (d - 1) _ t m hk_t p (1024 * q + 32 * (tp + j) + (lf + i)) 1000000 (by omega) (by omega)) l_M_127 im_M_give se_M_give f_M_give rfl (Nat.le_of_ble_eq_true rfl) (by omega) (Nat.zero_le _) (Nat.zero_le _) d_M_combine_259 (Nat.zero_le _) (Nat.zero_le _) (zMv.m hk_t) (fun G259 hk259 fk259 ek259 => ?_)
                    refine zs_iinc (v := nI ((lf + i) + 1)) hX rfl (nI_add _ 1) (by decide) rfl d_M_combine_262 ?_
                    refine zr_goto hX (tgt := 72) (by decide) d_M_combine_265 ?_
                    refine zw_drop 7 ?_
                    refine zw_drop 8 ?_
                    refine zw_drop 9 ?_
                    refine zw_drop 10 ?_
                    refine zw_drop 11 ?_
                    exact ih_t hlt_t (zgive t p (1024 * q + 32 * (tp + j) + (lf + i)) 1000000) _ (by rw [zfor_s, ← hs_t]; unfold st_M_combine_x; rw [if_neg h142]; rw [if_neg h155]; rw [if_neg h189]; rw [if_pos h199]; rw [if_neg h250]) hk259 (zMf.tr fk_t fk259 ek_t) (Eq.trans ek259 ek_t) ik_t
              · skip
                refine zr_iload hX rfl d_M_combine_192 ?_
                refine zr_goto hX (tgt := 244) (by decide) d_M_combine_194 ?_
                refine zs_istore hX (by decide) rfl d_M_combine_244 ?_
                refine zr_iload hX rfl d_M_combine_246 ?_
                refine zr_iload hX rfl d_M_combine_248 ?_
                refine zr_icmp_eq hX (tgt := 262) d_M_combine_250 (by decide) (fun h250 => ?_) (fun h250 => ?_)
                · skip
                  refine zs_iinc (v := nI ((lf + i) + 1)) hX rfl (nI_add _ 1) (by decide) rfl d_M_combine_262 ?_
                  refine zr_goto hX (tgt := 72) (by decide) d_M_combine_265 ?_
                  refine zw_drop 7 ?_
                  refine zw_drop 8 ?_
                  refine zw_drop 9 ?_
                  refine zw_drop 10 ?_
                  refine zw_drop 11 ?_
                  exact ih_t hlt_t t _ (by rw [zfor_s, ← hs_t]; unfold st_M_combine_x; rw [if_neg h142]; rw [if_neg h155]; rw [if_pos h189]; rw [if_pos h250]) hk_t fk_t ek_t ik_t
                · skip
                  refine zr_aload_n hX rfl d_M_combine_253 ?_
                  refine zr_iload_n hX rfl d_M_combine_254 ?_
                  refine zr_iload hX rfl d_M_combine_255 ?_
                  refine zr_iload hX rfl d_M_combine_257 ?_
                  refine zr_mV0 hX (c_M_give g (d - 1) _ t m hk_t p (1024 * q + 32 * (tp + j) + (lf + i)) ((t.ar 1) ((4096 * (24 + p)) + (1024 * n + 32 * (tp + j) + (lf + i)))) (by omega) (by omega)) l_M_127 im_M_give se_M_give f_M_give rfl (Nat.le_of_ble_eq_true rfl) (by omega) (Nat.zero_le _) (Nat.zero_le _) d_M_combine_259 (Nat.zero_le _) (Nat.zero_le _) (zMv.m hk_t) (fun G259 hk259 fk259 ek259 => ?_)
                  refine zs_iinc (v := nI ((lf + i) + 1)) hX rfl (nI_add _ 1) (by decide) rfl d_M_combine_262 ?_
                  refine zr_goto hX (tgt := 72) (by decide) d_M_combine_265 ?_
                  refine zw_drop 7 ?_
                  refine zw_drop 8 ?_
                  refine zw_drop 9 ?_
                  refine zw_drop 10 ?_
                  refine zw_drop 11 ?_
                  exact ih_t hlt_t (zgive t p (1024 * q + 32 * (tp + j) + (lf + i)) ((t.ar 1) ((4096 * (24 + p)) + (1024 * n + 32 * (tp + j) + (lf + i))))) _ (by rw [zfor_s, ← hs_t]; unfold st_M_combine_x; rw [if_neg h142]; rw [if_neg h155]; rw [if_pos h189]; rw [if_neg h250]) hk259 (zMf.tr fk_t fk259 ek_t) (Eq.trans ek259 ek_t) ik_t
          · skip
            refine zr_goto hX (tgt := 262) (by decide) d_M_combine_145 ?_
            refine zs_iinc (v := nI ((lf + i) + 1)) hX rfl (nI_add _ 1) (by decide) rfl d_M_combine_262 ?_
            refine zr_goto hX (tgt := 72) (by decide) d_M_combine_265 ?_
            refine zw_drop 7 ?_
            refine zw_drop 8 ?_
            refine zw_drop 9 ?_
            exact ih_t hlt_t t _ (by rw [zfor_s, ← hs_t]; unfold st_M_combine_x; rw [if_pos h142]) hk_t fk_t ek_t ik_t
        · skip
          have ej_t : i = wd := by omega
          rw [ej_t] at hs_t
          refine zr_iload hX rfl d_M_combine_72 ?_
          refine zr_aload_n hX rfl d_M_combine_74 ?_
          refine zr_get hX k_M 16 (by decide) q669 rfl hk_t.m (zml16 (Eq.trans (congrFun ik_t 16) (Eq.trans (congrFun ik_s 16) hlf))) d_M_combine_75 ?_
          refine zr_aload_n hX rfl d_M_combine_78 ?_
          refine zr_get hX k_M 18 (by decide) q671 rfl hk_t.m (zml18 (Eq.trans (congrFun ik_t 18) (Eq.trans (congrFun ik_s 18) hwd))) d_M_combine_79 ?_
          refine zn_iadd (a := lf) (b := wd) hX d_M_combine_82 ?_
          refine zr_icmp_ge hX (tgt := 268) d_M_combine_83 (by decide) (fun _ => ?_) (fun h9 => absurd h9 (zq_leT (a := (lf + wd)) (b := (lf + i)) (by omega) (by omega)))
          refine zs_iinc (v := nI ((tp + j) + 1)) hX rfl (nI_add _ 1) (by decide) rfl d_M_combine_268 ?_
          refine zr_goto hX (tgt := 52) (by decide) d_M_combine_271 ?_
          refine zw_drop 6 ?_
          exact ih_s hlt_s t _ (by rw [zfor_s, ← hs_s]; unfold st_M_combine_y; rw [← hs_t]) hk_t fk_t ek_t (Eq.trans ik_t ik_s)
      exact L72 0 (Nat.zero_le _) _ _ rfl hk_s fk_s ek_s rfl
    · skip
      have ej_s : j = hg := by omega
      rw [ej_s] at hs_s
      refine zr_iload hX rfl d_M_combine_52 ?_
      refine zr_aload_n hX rfl d_M_combine_54 ?_
      refine zr_get hX k_M 17 (by decide) q670 rfl hk_s.m (zml17 (Eq.trans (congrFun ik_s 17) htp)) d_M_combine_55 ?_
      refine zr_aload_n hX rfl d_M_combine_58 ?_
      refine zr_get hX k_M 19 (by decide) q672 rfl hk_s.m (zml19 (Eq.trans (congrFun ik_s 19) hhg)) d_M_combine_59 ?_
      refine zn_iadd (a := tp) (b := hg) hX d_M_combine_62 ?_
      refine zr_icmp_ge hX (tgt := 274) d_M_combine_63 (by decide) (fun _ => ?_) (fun h9 => absurd h9 (zq_leT (a := (tp + hg)) (b := (tp + j)) (by omega) (by omega)))
      exact zr_vret hX d_M_combine_274 ⟨rfl, (by unfold t_M_combine; rw [← hs_s]; exact hk_s), fk_s, (by unfold t_M_combine; rw [← hs_s]; exact ek_s)⟩
  exact L52 0 (Nat.zero_le _) _ _ rfl hk39 (zMf.tr zMf.rf fk39 rfl) (Eq.trans ek39 rfl) rfl
theorem c_M_nearest_bad (g : zGt) (d : Nat) (hd : 1 ≤ d) (G : zG) (u : zU) (m : Nat) (h : zMv u m G) (p : Int32) (q : Int32) (e : Int32) (hbad : s_M_isCommit u p = 0 ∨ s_M_isCommit u q = 0 ∨ ¬ 0 ≤ e) : zMet g y_M_nearest b_M_nearest 7 (some .int) [] d 0 0 [.ref m, .int p, .int q, .int e] G (zMq (some (.int (-1))) (zuc u 0 0) u m G) := by
  refine zMet.of (by decide) (Nat.le_of_ble_eq_true rfl) rfl (fun X hX => ?_)
  refine zr_aload_n hX rfl d_M_nearest_0 ?_
  refine zr_iconst (v := 0) hX rfl d_M_nearest_1 ?_
  refine zr_put hX k_M 0 (by decide) q653 rfl rfl rfl rfl (Nat.le_of_ble_eq_true rfl) h.m d_M_nearest_2 ?_
  refine zr_aload_n hX rfl d_M_nearest_5 ?_
  refine zr_iload_n hX rfl d_M_nearest_6 ?_
  refine zr_pV hX (c_M_isCommit g (d - 1) _ (zuc u 0 0) m (zMv.put h (upd u.2.1 0 0)) p) l_M_93 im_M_isCommit se_M_isCommit f_M_isCommit k_M.1 (zput_s _ _ _) rfl (Nat.le_of_ble_eq_true rfl) (by omega) (Nat.zero_le _) (Nat.zero_le _) d_M_nearest_7 ?_
  refine zr_if_eq hX (tgt := 25) d_M_nearest_10 (by decide) (fun h10 => ?_) (fun h10 => ?_)
  · skip
    refine zr_iconst (v := (-1)) hX rfl d_M_nearest_25 ?_
    exact zr_iret hX d_M_nearest_26 ⟨rfl, (zMv.put h (upd u.2.1 0 0)), (zMf.obj zMf.rf _), rfl⟩
  · skip
    refine zr_aload_n hX rfl d_M_nearest_13 ?_
    refine zr_iload_n hX rfl d_M_nearest_14 ?_
    refine zr_pV hX (c_M_isCommit g (d - 1) _ (zuc u 0 0) m (zMv.put h (upd u.2.1 0 0)) q) l_M_93 im_M_isCommit se_M_isCommit f_M_isCommit k_M.1 (zput_s _ _ _) rfl (Nat.le_of_ble_eq_true rfl) (by omega) (Nat.zero_le _) (Nat.zero_le _) d_M_nearest_15 ?_
    refine zr_if_eq hX (tgt := 25) d_M_nearest_18 (by decide) (fun h18 => ?_) (fun h18 => ?_)
    · skip
      refine zr_iconst (v := (-1)) hX rfl d_M_nearest_25 ?_
      exact zr_iret hX d_M_nearest_26 ⟨rfl, (zMv.put h (upd u.2.1 0 0)), (zMf.obj zMf.rf _), rfl⟩
    · skip
      refine zr_iload_n hX rfl d_M_nearest_21 ?_
      refine zr_if_ge hX (tgt := 27) d_M_nearest_22 (by decide) (fun h22 => ?_) (fun h22 => ?_)
      · skip
        exact False.elim ((fun z => z.elim h10 (fun z => z.elim h18 (fun z => z h22))) hbad)
      · skip
        refine zr_iconst (v := (-1)) hX rfl d_M_nearest_25 ?_
        exact zr_iret hX d_M_nearest_26 ⟨rfl, (zMv.put h (upd u.2.1 0 0)), (zMf.obj zMf.rf _), rfl⟩
def st_M_nearest (u : zU) (p q : Nat) (e : Int32) (cm : Nat) (j : Nat) (s : Int32) : (Int32) ⊕ Int32 := if (s + (((s_M_nearestOf (zuc u 0 0) (1 <<< ((nI p) &&& 31)) (nI q) cm) >>> ((nI j) &&& 31)) &&& 1)) = e then .inr (nI j) else .inl (s + (((s_M_nearestOf (zuc u 0 0) (1 <<< ((nI p) &&& 31)) (nI q) cm) >>> ((nI j) &&& 31)) &&& 1))
def s_M_nearest (u : zU) (p q : Nat) (e : Int32) (cm : Nat) : Int32 := zsel (zfor cm (zstp (st_M_nearest u p q e cm)) (.inl (-1))) (fun s => (-1))
theorem c_M_nearest_ok (g : zGt) (d : Nat) (hd : 2 ≤ d) (G : zG) (u : zU) (m : Nat) (h : zMv u m G) (p : Nat) (q : Nat) (e : Int32) (cm : Nat) (hc : u.i 6 = nI cm) (h1 : 1 ≤ cm) (h2 : cm ≤ 24) (ho0 : ¬ s_M_isCommit u (nI p) = 0) (ho1 : ¬ s_M_isCommit u (nI q) = 0) (ho2 : ¬ ¬ 0 ≤ e) : zMet g y_M_nearest b_M_nearest 7 (some .int) [] d 0 0 [.ref m, .int (nI p), .int (nI q), .int e] G (zMq (some (.int (s_M_nearest u p q e cm))) (zuc u 0 0) u m G) := by
  refine zMet.of (by decide) (Nat.le_of_ble_eq_true rfl) rfl (fun X hX => ?_)
  refine zr_aload_n hX rfl d_M_nearest_0 ?_
  refine zr_iconst (v := 0) hX rfl d_M_nearest_1 ?_
  refine zr_put hX k_M 0 (by decide) q653 rfl rfl rfl rfl (Nat.le_of_ble_eq_true rfl) h.m d_M_nearest_2 ?_
  refine zr_aload_n hX rfl d_M_nearest_5 ?_
  refine zr_iload_n hX rfl d_M_nearest_6 ?_
  refine zr_pV hX (c_M_isCommit g (d - 1) _ (zuc u 0 0) m (zMv.put h (upd u.2.1 0 0)) (nI p)) l_M_93 im_M_isCommit se_M_isCommit f_M_isCommit k_M.1 (zput_s _ _ _) rfl (Nat.le_of_ble_eq_true rfl) (by omega) (Nat.zero_le _) (Nat.zero_le _) d_M_nearest_7 ?_
  refine zr_if_eq hX (tgt := 25) d_M_nearest_10 (by decide) (fun h9 => absurd h9 ho0) (fun _ => ?_)
  refine zr_aload_n hX rfl d_M_nearest_13 ?_
  refine zr_iload_n hX rfl d_M_nearest_14 ?_
  refine zr_pV hX (c_M_isCommit g (d - 1) _ (zuc u 0 0) m (zMv.put h (upd u.2.1 0 0)) (nI q)) l_M_93 im_M_isCommit se_M_isCommit f_M_isCommit k_M.1 (zput_s _ _ _) rfl (Nat.le_of_ble_eq_true rfl) (by omega) (Nat.zero_le _) (Nat.zero_le _) d_M_nearest_15 ?_
  refine zr_if_eq hX (tgt := 25) d_M_nearest_18 (by decide) (fun h9 => absurd h9 ho1) (fun _ => ?_)
  refine zr_iload_n hX rfl d_M_nearest_21 ?_
  refine zr_if_ge hX (tgt := 27) d_M_nearest_22 (by decide) (fun _ => ?_) (fun h9 => absurd h9 ho2)
  refine zr_aload_n hX rfl d_M_nearest_27 ?_
  refine zr_iconst (v := 1) hX rfl d_M_nearest_28 ?_
  refine zr_iload_n hX rfl d_M_nearest_29 ?_
  refine zr_ishl hX d_M_nearest_30 ?_
  refine zr_iload_n hX rfl d_M_nearest_31 ?_
  refine zr_pV hX (c_M_nearestOf g (d - 1) (by omega) _ (zuc u 0 0) m (zMv.put h (upd u.2.1 0 0)) (1 <<< ((nI p) &&& 31)) (nI q) cm hc h1 h2) l_M_145 im_M_nearestOf se_M_nearestOf f_M_nearestOf k_M.1 (zput_s _ _ _) rfl (Nat.le_of_ble_eq_true rfl) (by omega) (Nat.zero_le _) (Nat.zero_le _) d_M_nearest_32 ?_
  refine zs_istore hX (by decide) rfl d_M_nearest_35 ?_
  refine zr_iconst (v := (-1)) hX rfl d_M_nearest_37 ?_
  refine zs_istore hX (by decide) rfl d_M_nearest_38 ?_
  refine zr_iconst (v := 0) hX rfl d_M_nearest_40 ?_
  refine zs_istore hX (by decide) rfl d_M_nearest_41 ?_
  have L43 : ∀ j, j ≤ cm → ∀ (s : Int32) (G_s : zG), (.inl s : (Int32) ⊕ Int32) = zfor j (zstp (st_M_nearest u p q e cm)) (.inl (-1)) → zMv (zuc u 0 0) m G_s → zMf u m G G_s → zw g X (zMq (some (.int (s_M_nearest u p q e cm))) (zuc u 0 0) u m G) 43 [some (.ref m), some (.int (nI p)), some (.int (nI q)), some (.int e), some (.int (s_M_nearestOf (zuc u 0 0) (1 <<< ((nI p) &&& 31)) (nI q) cm)), some (.int s), some (.int (nI j))] [] G_s 0 0 := by
    refine zup cm (fun j hj_s ih_s => ?_)
    intro s G_s hs_s hk_s fk_s
    by_cases hlt_s : j < cm
    · skip
      refine zr_iload hX rfl d_M_nearest_43 ?_
      refine zr_aload_n hX rfl d_M_nearest_45 ?_
      refine zr_get hX k_M 6 (by decide) q659 rfl hk_s.m (zml6 hc) d_M_nearest_46 ?_
      refine zr_icmp_ge hX (tgt := 79) d_M_nearest_49 (by decide) (fun h9 => absurd h9 (nI_ge (a := j) (b := cm) (by omega) (by omega))) (fun _ => ?_)
      refine zr_iload hX rfl d_M_nearest_52 ?_
      refine zr_iload hX rfl d_M_nearest_54 ?_
      refine zr_iload hX rfl d_M_nearest_56 ?_
      refine zr_ishr hX d_M_nearest_58 ?_
      refine zr_iconst (v := 1) hX rfl d_M_nearest_59 ?_
      refine zr_iand hX d_M_nearest_60 ?_
      refine zr_iadd hX d_M_nearest_61 ?_
      refine zs_istore hX (by decide) rfl d_M_nearest_62 ?_
      refine zr_iload hX rfl d_M_nearest_64 ?_
      refine zr_iload_n hX rfl d_M_nearest_66 ?_
      refine zr_icmp_ne hX (tgt := 73) d_M_nearest_67 (by decide) (fun h67 => ?_) (fun h67 => ?_)
      · skip
        refine zs_iinc (v := nI (j + 1)) hX rfl (nI_add _ 1) (by decide) rfl d_M_nearest_73 ?_
        refine zr_goto hX (tgt := 43) (by decide) d_M_nearest_76 ?_
        exact ih_s hlt_s (s + (((s_M_nearestOf (zuc u 0 0) (1 <<< ((nI p) &&& 31)) (nI q) cm) >>> ((nI j) &&& 31)) &&& 1)) _ (zstp_s hs_s (by unfold st_M_nearest; rw [if_neg h67])) hk_s fk_s
      · skip
        refine zr_iload hX rfl d_M_nearest_70 ?_
        have hs9 := zstp_r (Nat.succ_le_of_lt hlt_s) (zstp_s (t := .inr (nI j)) hs_s (by unfold st_M_nearest; rw [if_pos h67]))
        exact zr_iret hX d_M_nearest_72 ⟨(by unfold s_M_nearest; rw [hs9]; rfl), hk_s, fk_s, rfl⟩
    · skip
      have ej_s : j = cm := by omega
      rw [ej_s] at hs_s
      refine zr_iload hX rfl d_M_nearest_43 ?_
      refine zr_aload_n hX rfl d_M_nearest_45 ?_
      refine zr_get hX k_M 6 (by decide) q659 rfl hk_s.m (zml6 hc) d_M_nearest_46 ?_
      refine zr_icmp_ge hX (tgt := 79) d_M_nearest_49 (by decide) (fun _ => ?_) (fun h9 => absurd h9 (zq_leT (a := cm) (b := j) (by omega) (by omega)))
      refine zr_iconst (v := (-1)) hX rfl d_M_nearest_79 ?_
      exact zr_iret hX d_M_nearest_80 ⟨(by unfold s_M_nearest; rw [← hs_s, zsel_l]), hk_s, fk_s, rfl⟩
  exact L43 0 (Nat.zero_le _) _ _ rfl (zMv.put h (upd u.2.1 0 0)) (zMf.obj zMf.rf _)
theorem c_M_about_bad (g : zGt) (d : Nat) (hd : 2 ≤ d) (G : zG) (u : zU) (m : Nat) (h : zMv u m G) (p : Int32) (e : Int32) (hbad : s_M_isPlace u p = 0 ∨ e < 0 ∨ ¬ e ≤ 2) : zMet g y_M_about b_M_about 5 (some .int) [] d 0 0 [.ref m, .int p, .int e] G (zMq (some (.int (-1))) (zuc u 0 0) u m G) := by
  refine zMet.of (by decide) (Nat.le_of_ble_eq_true rfl) rfl (fun X hX => ?_)
  refine zr_aload_n hX rfl d_M_about_0 ?_
  refine zr_iconst (v := 0) hX rfl d_M_about_1 ?_
  refine zr_put hX k_M 0 (by decide) q653 rfl rfl rfl rfl (Nat.le_of_ble_eq_true rfl) h.m d_M_about_2 ?_
  refine zr_aload_n hX rfl d_M_about_5 ?_
  refine zr_iload_n hX rfl d_M_about_6 ?_
  refine zr_pV hX (c_M_isPlace g (d - 1) (by omega) _ (zuc u 0 0) m (zMv.put h (upd u.2.1 0 0)) p) l_M_172 im_M_isPlace se_M_isPlace f_M_isPlace k_M.1 (zput_s _ _ _) rfl (Nat.le_of_ble_eq_true rfl) (by omega) (Nat.zero_le _) (Nat.zero_le _) d_M_about_7 ?_
  refine zr_if_eq hX (tgt := 22) d_M_about_10 (by decide) (fun h10 => ?_) (fun h10 => ?_)
  · skip
    refine zr_iconst (v := (-1)) hX rfl d_M_about_22 ?_
    exact zr_iret hX d_M_about_23 ⟨rfl, (zMv.put h (upd u.2.1 0 0)), (zMf.obj zMf.rf _), rfl⟩
  · skip
    refine zr_iload_n hX rfl d_M_about_13 ?_
    refine zr_if_lt hX (tgt := 22) d_M_about_14 (by decide) (fun h14 => ?_) (fun h14 => ?_)
    · skip
      refine zr_iconst (v := (-1)) hX rfl d_M_about_22 ?_
      exact zr_iret hX d_M_about_23 ⟨rfl, (zMv.put h (upd u.2.1 0 0)), (zMf.obj zMf.rf _), rfl⟩
    · skip
      refine zr_iload_n hX rfl d_M_about_17 ?_
      refine zr_iconst (v := 2) hX rfl d_M_about_18 ?_
      refine zr_icmp_le hX (tgt := 24) d_M_about_19 (by decide) (fun h19 => ?_) (fun h19 => ?_)
      · skip
        exact False.elim ((fun z => z.elim h10 (fun z => z.elim h14 (fun z => z h19))) hbad)
      · skip
        refine zr_iconst (v := (-1)) hX rfl d_M_about_22 ?_
        exact zr_iret hX d_M_about_23 ⟨rfl, (zMv.put h (upd u.2.1 0 0)), (zMf.obj zMf.rf _), rfl⟩
def s_M_aboutB (u : zU) (p : Nat) (e : Int32) (hx : Nat) : Int32 := if e = 0 then (u.ar 8) (p - 24) else if e = 1 then (u.ar 9) (p - 24) else if (s_M_isChanged (zuc u 0 0) (p - 24) hx) = 0 then 0 else 1
theorem c_M_about_b (g : zGt) (d : Nat) (hdd : 2 ≤ d) (G : zG) (u : zU) (m : Nat) (h : zMv u m G) (p : Nat) (e : Int32) (hp1 : 24 ≤ p) (hp : p < 28) (hx : Nat) (hhd : u.ar 8 (p - 24) = nI hx) (hh : hx < 24) (ho0 : ¬ s_M_isPlace u (nI p) = 0) (ho1 : ¬ e < 0) (ho2 : ¬ ¬ e ≤ 2) : zMet g y_M_about b_M_about 5 (some .int) [] d 0 0 [.ref m, .int (nI p), .int e] G (zMq (some (.int (s_M_aboutB u p e hx))) (zuc u 0 0) u m G) := by
  refine zMet.of (by decide) (Nat.le_of_ble_eq_true rfl) rfl (fun X hX => ?_)
  refine zr_aload_n hX rfl d_M_about_0 ?_
  refine zr_iconst (v := 0) hX rfl d_M_about_1 ?_
  refine zr_put hX k_M 0 (by decide) q653 rfl rfl rfl rfl (Nat.le_of_ble_eq_true rfl) h.m d_M_about_2 ?_
  refine zr_aload_n hX rfl d_M_about_5 ?_
  refine zr_iload_n hX rfl d_M_about_6 ?_
  refine zr_pV hX (c_M_isPlace g (d - 1) (by omega) _ (zuc u 0 0) m (zMv.put h (upd u.2.1 0 0)) (nI p)) l_M_172 im_M_isPlace se_M_isPlace f_M_isPlace k_M.1 (zput_s _ _ _) rfl (Nat.le_of_ble_eq_true rfl) (by omega) (Nat.zero_le _) (Nat.zero_le _) d_M_about_7 ?_
  refine zr_if_eq hX (tgt := 22) d_M_about_10 (by decide) (fun h9 => absurd h9 ho0) (fun _ => ?_)
  refine zr_iload_n hX rfl d_M_about_13 ?_
  refine zr_if_lt hX (tgt := 22) d_M_about_14 (by decide) (fun h9 => absurd h9 ho1) (fun _ => ?_)
  refine zr_iload_n hX rfl d_M_about_17 ?_
  refine zr_iconst (v := 2) hX rfl d_M_about_18 ?_
  refine zr_icmp_le hX (tgt := 24) d_M_about_19 (by decide) (fun _ => ?_) (fun h9 => absurd h9 ho2)
  refine zr_iload_n hX rfl d_M_about_24 ?_
  refine zr_bipush (v := 24) hX rfl d_M_about_25 ?_
  refine zr_icmp_lt hX (tgt := 80) d_M_about_27 (by decide) (fun h9 => absurd h9 (nI_nlt (a := p) (b := 24) (by omega) (by omega))) (fun _ => ?_)
  refine zr_iload_n hX rfl d_M_about_30 ?_
  refine zr_if_ne hX (tgt := 46) d_M_about_31 (by decide) (fun h31 => ?_) (fun h31 => ?_)
  · skip
    refine zr_iload_n hX rfl d_M_about_46 ?_
    refine zr_iconst (v := 1) hX rfl d_M_about_47 ?_
    refine zr_icmp_ne hX (tgt := 63) d_M_about_48 (by decide) (fun h48 => ?_) (fun h48 => ?_)
    · skip
      refine zr_aload_n hX rfl d_M_about_63 ?_
      refine zr_iload_n hX rfl d_M_about_64 ?_
      refine zr_bipush (v := 24) hX rfl d_M_about_65 ?_
      refine zn_isub (a := p) (b := 24) hX (by omega) d_M_about_67 ?_
      refine zr_mV1 hX (c_M_isChanged g (d - 1) _ (zuc u 0 0) m (zMv.put h (upd u.2.1 0 0)) (p - 24) hx (by omega) hhd hh) l_M_135 im_M_isChanged se_M_isChanged f_M_isChanged rfl (Nat.le_of_ble_eq_true rfl) (by omega) (Nat.zero_le _) (Nat.zero_le _) d_M_about_68 (Nat.zero_le _) (Nat.zero_le _) (zMv.m (zMv.put h (upd u.2.1 0 0))) (fun G68 hk68 fk68 ek68 => ?_)
      refine zr_if_eq hX (tgt := 78) d_M_about_71 (by decide) (fun h71 => ?_) (fun h71 => ?_)
      · skip
        refine zr_iconst (v := 0) hX rfl d_M_about_78 ?_
        exact zr_iret hX d_M_about_79 ⟨(by unfold s_M_aboutB; rw [if_neg h31]; rw [if_neg h48]; rw [if_pos h71]), hk68, (zMf.tr (zMf.obj zMf.rf _) fk68 rfl), (Eq.trans ek68 rfl)⟩
      · skip
        refine zr_iconst (v := 1) hX rfl d_M_about_74 ?_
        refine zr_goto hX (tgt := 79) (by decide) d_M_about_75 ?_
        exact zr_iret hX d_M_about_79 ⟨(by unfold s_M_aboutB; rw [if_neg h31]; rw [if_neg h48]; rw [if_neg h71]), hk68, (zMf.tr (zMf.obj zMf.rf _) fk68 rfl), (Eq.trans ek68 rfl)⟩
    · skip
      refine zr_aload_n hX rfl d_M_about_51 ?_
      refine zr_get hX k_M 9 (by decide) q662 rfl (zput_s _ _ _) rfl d_M_about_52 ?_
      refine zr_iload_n hX rfl d_M_about_55 ?_
      refine zr_bipush (v := 24) hX rfl d_M_about_56 ?_
      refine zn_isub (a := p) (b := 24) hX (by omega) d_M_about_58 ?_
      refine zr_ialdN hX (zput_k (zne (h.ar 9 rfl) h.m rfl) (h.ar 9 rfl)) (p - 24) rfl (by omega) (by decide) d_M_about_59 ?_
      refine zr_goto hX (tgt := 79) (by decide) d_M_about_60 ?_
      exact zr_iret hX d_M_about_79 ⟨(by unfold s_M_aboutB; rw [if_neg h31]; rw [if_pos h48]), (zMv.put h (upd u.2.1 0 0)), (zMf.obj zMf.rf _), rfl⟩
  · skip
    refine zr_aload_n hX rfl d_M_about_34 ?_
    refine zr_get hX k_M 8 (by decide) q661 rfl (zput_s _ _ _) rfl d_M_about_35 ?_
    refine zr_iload_n hX rfl d_M_about_38 ?_
    refine zr_bipush (v := 24) hX rfl d_M_about_39 ?_
    refine zn_isub (a := p) (b := 24) hX (by omega) d_M_about_41 ?_
    refine zr_ialdN hX (zput_k (zne (h.ar 8 rfl) h.m rfl) (h.ar 8 rfl)) (p - 24) rfl (by omega) (by decide) d_M_about_42 ?_
    refine zr_goto hX (tgt := 79) (by decide) d_M_about_43 ?_
    exact zr_iret hX d_M_about_79 ⟨(by unfold s_M_aboutB; rw [if_pos h31]), (zMv.put h (upd u.2.1 0 0)), (zMf.obj zMf.rf _), rfl⟩
def st_M_about (u : zU) (p cm : Nat) (j : Nat) (s : Int32) : Int32 := if (((zuc u 0 0).ar 4) (1 + j)) = (nI p) then if (((zuc u 0 0).ar 5) (1 + j)) = (nI p) then (s + (1 + 1)) else (s + (1 + 0)) else if (((zuc u 0 0).ar 5) (1 + j)) = (nI p) then (s + (0 + 1)) else (s + (0 + 0))
def s_M_aboutC (u : zU) (p : Nat) (e : Int32) (cm : Nat) : Int32 := if e = 0 then ((zuc u 0 0).ar 4) p else if e = 1 then ((zuc u 0 0).ar 5) p else (zfor (cm - 1) (st_M_about u p cm) 0)
theorem c_M_about_c (g : zGt) (d : Nat) (hdd : 2 ≤ d) (G : zG) (u : zU) (m : Nat) (h : zMv u m G) (p : Nat) (e : Int32) (cm : Nat) (hc : u.i 6 = nI cm) (h1 : 1 ≤ cm) (h2 : cm ≤ 24) (hp : p < 24) (ho0 : ¬ s_M_isPlace u (nI p) = 0) (ho1 : ¬ e < 0) (ho2 : ¬ ¬ e ≤ 2) : zMet g y_M_about b_M_about 5 (some .int) [] d 0 0 [.ref m, .int (nI p), .int e] G (zMq (some (.int (s_M_aboutC u p e cm))) (zuc u 0 0) u m G) := by
  refine zMet.of (by decide) (Nat.le_of_ble_eq_true rfl) rfl (fun X hX => ?_)
  refine zr_aload_n hX rfl d_M_about_0 ?_
  refine zr_iconst (v := 0) hX rfl d_M_about_1 ?_
  refine zr_put hX k_M 0 (by decide) q653 rfl rfl rfl rfl (Nat.le_of_ble_eq_true rfl) h.m d_M_about_2 ?_
  refine zr_aload_n hX rfl d_M_about_5 ?_
  refine zr_iload_n hX rfl d_M_about_6 ?_
  refine zr_pV hX (c_M_isPlace g (d - 1) (by omega) _ (zuc u 0 0) m (zMv.put h (upd u.2.1 0 0)) (nI p)) l_M_172 im_M_isPlace se_M_isPlace f_M_isPlace k_M.1 (zput_s _ _ _) rfl (Nat.le_of_ble_eq_true rfl) (by omega) (Nat.zero_le _) (Nat.zero_le _) d_M_about_7 ?_
  refine zr_if_eq hX (tgt := 22) d_M_about_10 (by decide) (fun h9 => absurd h9 ho0) (fun _ => ?_)
  refine zr_iload_n hX rfl d_M_about_13 ?_
  refine zr_if_lt hX (tgt := 22) d_M_about_14 (by decide) (fun h9 => absurd h9 ho1) (fun _ => ?_)
  refine zr_iload_n hX rfl d_M_about_17 ?_
  refine zr_iconst (v := 2) hX rfl d_M_about_18 ?_
  refine zr_icmp_le hX (tgt := 24) d_M_about_19 (by decide) (fun _ => ?_) (fun h9 => absurd h9 ho2)
  refine zr_iload_n hX rfl d_M_about_24 ?_
  refine zr_bipush (v := 24) hX rfl d_M_about_25 ?_
  refine zr_icmp_lt hX (tgt := 80) d_M_about_27 (by decide) (fun _ => ?_) (fun h9 => absurd h9 (zq_ltT (a := p) (b := 24) (by omega) (by decide)))
  refine zr_iconst (v := 0) hX rfl d_M_about_80 ?_
  refine zs_istore_n hX (by decide) rfl d_M_about_81 ?_
  refine zr_iconst (v := 1) hX rfl d_M_about_82 ?_
  refine zs_istore hX (by decide) rfl d_M_about_83 ?_
  have L85 : ∀ j, j ≤ cm - 1 → ∀ (s : Int32) (G_s : zG), s = zfor j (st_M_about u p cm) 0 → zMv (zuc u 0 0) m G_s → zMf u m G G_s → zw g X (zMq (some (.int (s_M_aboutC u p e cm))) (zuc u 0 0) u m G) 85 [some (.ref m), some (.int (nI p)), some (.int e), some (.int s), some (.int (nI (1 + j)))] [] G_s 0 0 := by
    refine zup (cm - 1) (fun j hj_s ih_s => ?_)
    intro s G_s hs_s hk_s fk_s
    by_cases hlt_s : j < cm - 1
    · skip
      refine zr_iload hX rfl d_M_about_85 ?_
      refine zr_aload_n hX rfl d_M_about_87 ?_
      refine zr_get hX k_M 6 (by decide) q659 rfl hk_s.m (zml6 hc) d_M_about_88 ?_
      refine zr_icmp_ge hX (tgt := 136) d_M_about_91 (by decide) (fun h9 => absurd h9 (nI_ge (a := (1 + j)) (b := cm) (by omega) (by omega))) (fun _ => ?_)
      refine zr_iload_n hX rfl d_M_about_94 ?_
      refine zr_aload_n hX rfl d_M_about_95 ?_
      refine zr_get hX k_M 4 (by decide) q657 rfl hk_s.m rfl d_M_about_96 ?_
      refine zr_iload hX rfl d_M_about_99 ?_
      refine zr_ialdN hX (hk_s.ar 4 rfl) (1 + j) rfl (by omega) (by decide) d_M_about_101 ?_
      refine zr_iload_n hX rfl d_M_about_102 ?_
      refine zr_icmp_ne hX (tgt := 110) d_M_about_103 (by decide) (fun h103 => ?_) (fun h103 => ?_)
      · skip
        refine zr_iconst (v := 0) hX rfl d_M_about_110 ?_
        refine zr_aload_n hX rfl d_M_about_111 ?_
        refine zr_get hX k_M 5 (by decide) q658 rfl hk_s.m rfl d_M_about_112 ?_
        refine zr_iload hX rfl d_M_about_115 ?_
        refine zr_ialdN hX (hk_s.ar 5 rfl) (1 + j) rfl (by omega) (by decide) d_M_about_117 ?_
        refine zr_iload_n hX rfl d_M_about_118 ?_
        refine zr_icmp_ne hX (tgt := 126) d_M_about_119 (by decide) (fun h119 => ?_) (fun h119 => ?_)
        · skip
          refine zr_iconst (v := 0) hX rfl d_M_about_126 ?_
          refine zr_iadd hX d_M_about_127 ?_
          refine zr_iadd hX d_M_about_128 ?_
          refine zs_istore_n hX (by decide) rfl d_M_about_129 ?_
          refine zs_iinc (v := nI ((1 + j) + 1)) hX rfl (nI_add _ 1) (by decide) rfl d_M_about_130 ?_
          refine zr_goto hX (tgt := 85) (by decide) d_M_about_133 ?_
          exact ih_s hlt_s (s + (0 + 0)) _ (by rw [zfor_s, ← hs_s]; unfold st_M_about; rw [if_neg h103]; rw [if_neg h119]) hk_s fk_s
        · skip
          refine zr_iconst (v := 1) hX rfl d_M_about_122 ?_
          refine zr_goto hX (tgt := 127) (by decide) d_M_about_123 ?_
          refine zr_iadd hX d_M_about_127 ?_
          refine zr_iadd hX d_M_about_128 ?_
          refine zs_istore_n hX (by decide) rfl d_M_about_129 ?_
          refine zs_iinc (v := nI ((1 + j) + 1)) hX rfl (nI_add _ 1) (by decide) rfl d_M_about_130 ?_
          refine zr_goto hX (tgt := 85) (by decide) d_M_about_133 ?_
          exact ih_s hlt_s (s + (0 + 1)) _ (by rw [zfor_s, ← hs_s]; unfold st_M_about; rw [if_neg h103]; rw [if_pos h119]) hk_s fk_s
      · skip
        refine zr_iconst (v := 1) hX rfl d_M_about_106 ?_
        refine zr_goto hX (tgt := 111) (by decide) d_M_about_107 ?_
        refine zr_aload_n hX rfl d_M_about_111 ?_
        refine zr_get hX k_M 5 (by decide) q658 rfl hk_s.m rfl d_M_about_112 ?_
        refine zr_iload hX rfl d_M_about_115 ?_
        refine zr_ialdN hX (hk_s.ar 5 rfl) (1 + j) rfl (by omega) (by decide) d_M_about_117 ?_
        refine zr_iload_n hX rfl d_M_about_118 ?_
        refine zr_icmp_ne hX (tgt := 126) d_M_about_119 (by decide) (fun h119 => ?_) (fun h119 => ?_)
        · skip
          refine zr_iconst (v := 0) hX rfl d_M_about_126 ?_
          refine zr_iadd hX d_M_about_127 ?_
          refine zr_iadd hX d_M_about_128 ?_
          refine zs_istore_n hX (by decide) rfl d_M_about_129 ?_
          refine zs_iinc (v := nI ((1 + j) + 1)) hX rfl (nI_add _ 1) (by decide) rfl d_M_about_130 ?_
          refine zr_goto hX (tgt := 85) (by decide) d_M_about_133 ?_
          exact ih_s hlt_s (s + (1 + 0)) _ (by rw [zfor_s, ← hs_s]; unfold st_M_about; rw [if_pos h103]; rw [if_neg h119]) hk_s fk_s
        · skip
          refine zr_iconst (v := 1) hX rfl d_M_about_122 ?_
          refine zr_goto hX (tgt := 127) (by decide) d_M_about_123 ?_
          refine zr_iadd hX d_M_about_127 ?_
          refine zr_iadd hX d_M_about_128 ?_
          refine zs_istore_n hX (by decide) rfl d_M_about_129 ?_
          refine zs_iinc (v := nI ((1 + j) + 1)) hX rfl (nI_add _ 1) (by decide) rfl d_M_about_130 ?_
          refine zr_goto hX (tgt := 85) (by decide) d_M_about_133 ?_
          exact ih_s hlt_s (s + (1 + 1)) _ (by rw [zfor_s, ← hs_s]; unfold st_M_about; rw [if_pos h103]; rw [if_pos h119]) hk_s fk_s
    · skip
      have ej_s : j = cm - 1 := by omega
      rw [ej_s] at hs_s
      refine zr_iload hX rfl d_M_about_85 ?_
      refine zr_aload_n hX rfl d_M_about_87 ?_
      refine zr_get hX k_M 6 (by decide) q659 rfl hk_s.m (zml6 hc) d_M_about_88 ?_
      refine zr_icmp_ge hX (tgt := 136) d_M_about_91 (by decide) (fun _ => ?_) (fun h9 => absurd h9 (zq_leT (a := cm) (b := (1 + j)) (by omega) (by omega)))
      refine zr_iload_n hX rfl d_M_about_136 ?_
      refine zr_if_ne hX (tgt := 149) d_M_about_137 (by decide) (fun h137 => ?_) (fun h137 => ?_)
      · skip
        refine zr_iload_n hX rfl d_M_about_149 ?_
        refine zr_iconst (v := 1) hX rfl d_M_about_150 ?_
        refine zr_icmp_ne hX (tgt := 163) d_M_about_151 (by decide) (fun h151 => ?_) (fun h151 => ?_)
        · skip
          refine zr_iload_n hX rfl d_M_about_163 ?_
          exact zr_iret hX d_M_about_164 ⟨(by unfold s_M_aboutC; rw [← hs_s]; rw [if_neg h137]; rw [if_neg h151]), hk_s, fk_s, rfl⟩
        · skip
          refine zr_aload_n hX rfl d_M_about_154 ?_
          refine zr_get hX k_M 5 (by decide) q658 rfl hk_s.m rfl d_M_about_155 ?_
          refine zr_iload_n hX rfl d_M_about_158 ?_
          refine zr_ialdN hX (hk_s.ar 5 rfl) p rfl (by omega) (by decide) d_M_about_159 ?_
          refine zr_goto hX (tgt := 164) (by decide) d_M_about_160 ?_
          exact zr_iret hX d_M_about_164 ⟨(by unfold s_M_aboutC; rw [← hs_s]; rw [if_neg h137]; rw [if_pos h151]), hk_s, fk_s, rfl⟩
      · skip
        refine zr_aload_n hX rfl d_M_about_140 ?_
        refine zr_get hX k_M 4 (by decide) q657 rfl hk_s.m rfl d_M_about_141 ?_
        refine zr_iload_n hX rfl d_M_about_144 ?_
        refine zr_ialdN hX (hk_s.ar 4 rfl) p rfl (by omega) (by decide) d_M_about_145 ?_
        refine zr_goto hX (tgt := 164) (by decide) d_M_about_146 ?_
        exact zr_iret hX d_M_about_164 ⟨(by unfold s_M_aboutC; rw [← hs_s]; rw [if_pos h137]), hk_s, fk_s, rfl⟩
  exact L85 0 (Nat.zero_le _) _ _ rfl (zMv.put h (upd u.2.1 0 0)) (zMf.obj zMf.rf _)
def st_M_sameBlock (u : zU) (p q : Nat) (j : Nat) (s : Int32) : Int32 := if s = 0 then s else if ((u.ar 1) ((p + ((j / 4) * 32)) + (j % 4))) = ((u.ar 1) ((q + ((j / 4) * 32)) + (j % 4))) then 1 else 0
theorem z01_same {u : zU} {p q n : Nat} {s : Int32} (e : s = zfor n (st_M_sameBlock u p q) 1) : s = 0 ∨ s = 1 := by
  subst e
  refine zfor_inv (N := n) (fun _ s => s = 0 ∨ s = 1) (Or.inr rfl) (fun j s _ hs => ?_) n (Nat.le_refl _)
  unfold st_M_sameBlock
  split
  · exact hs
  · split
    · exact Or.inr rfl
    · exact Or.inl rfl
def s_M_sameBlock (u : zU) (p : Nat) (q : Nat) : Int32 := (zfor 16 (st_M_sameBlock u p q) 1)
theorem c_M_sameBlock (g : zGt) (d : Nat) (G : zG) (u : zU) (m : Nat) (h : zMv u m G) (p : Nat) (q : Nat) (hp : p + 100 ≤ 114688) (hq : q + 100 ≤ 114688) : zMet g y_M_sameBlock b_M_sameBlock 5 (some .boolean) [] d 0 0 [.ref m, .int (nI p), .int (nI q)] G (zD1 (.int (s_M_sameBlock u p q)) G) := by
  refine zMet.of (by decide) (Nat.le_of_ble_eq_true rfl) rfl (fun X hX => ?_)
  refine zr_iconst (v := 1) hX rfl d_M_sameBlock_0 ?_
  refine zs_istore_n hX (by decide) rfl d_M_sameBlock_1 ?_
  refine zr_iconst (v := 0) hX rfl d_M_sameBlock_2 ?_
  refine zs_istore hX (by decide) rfl d_M_sameBlock_3 ?_
  have L5 : ∀ j, j ≤ 16 → ∀ (s : Int32), s = zfor j (st_M_sameBlock u p q) 1 → zw g X (zD1 (.int (s_M_sameBlock u p q)) G) 5 [some (.ref m), some (.int (nI p)), some (.int (nI q)), some (.int s), some (.int (nI j))] [] G 0 0 := by
    refine zup 16 (fun j hj_s ih_s => ?_)
    intro s hs_s
    by_cases hlt_s : j < 16
    · skip
      refine zr_iload hX rfl d_M_sameBlock_5 ?_
      refine zr_bipush (v := 16) hX rfl d_M_sameBlock_7 ?_
      refine zr_icmp_ge hX (tgt := 69) d_M_sameBlock_9 (by decide) (fun h9 => absurd h9 (nI_ge (a := j) (b := 16) (by omega) (by decide))) (fun _ => ?_)
      refine zr_iload_n hX rfl d_M_sameBlock_12 ?_
      refine zr_if_eq hX (tgt := 69) d_M_sameBlock_13 (by decide) (fun h13 => ?_) (fun h13 => ?_)
      · skip
        have hs9 := zfor_fix (fun k => by unfold st_M_sameBlock; rw [if_pos h13]) hj_s hs_s
        refine zr_iload_n hX rfl d_M_sameBlock_69 ?_
        exact zr_zret hX (z01 (z01_same hs9)) d_M_sameBlock_70 ⟨(by unfold s_M_sameBlock; rw [← hs9]), rfl⟩
      · skip
        refine zr_aload_n hX rfl d_M_sameBlock_16 ?_
        refine zr_get hX k_M 1 (by decide) q654 rfl h.m rfl d_M_sameBlock_17 ?_
        refine zr_iload_n hX rfl d_M_sameBlock_20 ?_
        refine zr_iload hX rfl d_M_sameBlock_21 ?_
        refine zr_iconst (v := 4) hX rfl d_M_sameBlock_23 ?_
        refine zn_idiv (a := j) (b := 4) hX (by omega) (by decide) (by decide) d_M_sameBlock_24 ?_
        refine zr_bipush (v := 32) hX rfl d_M_sameBlock_25 ?_
        refine zn_imul (a := (j / 4)) (b := 32) hX d_M_sameBlock_27 ?_
        refine zn_iadd (a := p) (b := ((j / 4) * 32)) hX d_M_sameBlock_28 ?_
        refine zr_iload hX rfl d_M_sameBlock_29 ?_
        refine zr_iconst (v := 4) hX rfl d_M_sameBlock_31 ?_
        refine zn_irem (a := j) (b := 4) hX (by omega) (by decide) (by decide) d_M_sameBlock_32 ?_
        refine zn_iadd (a := (p + ((j / 4) * 32))) (b := (j % 4)) hX d_M_sameBlock_33 ?_
        refine zr_ialdN hX (h.ar 1 rfl) ((p + ((j / 4) * 32)) + (j % 4)) rfl (by omega) (by decide) d_M_sameBlock_34 ?_
        refine zr_aload_n hX rfl d_M_sameBlock_35 ?_
        refine zr_get hX k_M 1 (by decide) q654 rfl h.m rfl d_M_sameBlock_36 ?_
        refine zr_iload_n hX rfl d_M_sameBlock_39 ?_
        refine zr_iload hX rfl d_M_sameBlock_40 ?_
        refine zr_iconst (v := 4) hX rfl d_M_sameBlock_42 ?_
        refine zn_idiv (a := j) (b := 4) hX (by omega) (by decide) (by decide) d_M_sameBlock_43 ?_
        refine zr_bipush (v := 32) hX rfl d_M_sameBlock_44 ?_
        refine zn_imul (a := (j / 4)) (b := 32) hX d_M_sameBlock_46 ?_
        refine zn_iadd (a := q) (b := ((j / 4) * 32)) hX d_M_sameBlock_47 ?_
        refine zr_iload hX rfl d_M_sameBlock_48 ?_
        refine zr_iconst (v := 4) hX rfl d_M_sameBlock_50 ?_
        refine zn_irem (a := j) (b := 4) hX (by omega) (by decide) (by decide) d_M_sameBlock_51 ?_
        refine zn_iadd (a := (q + ((j / 4) * 32))) (b := (j % 4)) hX d_M_sameBlock_52 ?_
        refine zr_ialdN hX (h.ar 1 rfl) ((q + ((j / 4) * 32)) + (j % 4)) rfl (by omega) (by decide) d_M_sameBlock_53 ?_
        refine zr_icmp_ne hX (tgt := 61) d_M_sameBlock_54 (by decide) (fun h54 => ?_) (fun h54 => ?_)
        · skip
          refine zr_iconst (v := 0) hX rfl d_M_sameBlock_61 ?_
          refine zs_istore_n hX (by decide) rfl d_M_sameBlock_62 ?_
          refine zs_iinc (v := nI (j + 1)) hX rfl (nI_add _ 1) (by decide) rfl d_M_sameBlock_63 ?_
          refine zr_goto hX (tgt := 5) (by decide) d_M_sameBlock_66 ?_
          exact ih_s hlt_s 0 (by rw [zfor_s, ← hs_s]; unfold st_M_sameBlock; rw [if_neg h13]; rw [if_neg h54])
        · skip
          refine zr_iconst (v := 1) hX rfl d_M_sameBlock_57 ?_
          refine zr_goto hX (tgt := 62) (by decide) d_M_sameBlock_58 ?_
          refine zs_istore_n hX (by decide) rfl d_M_sameBlock_62 ?_
          refine zs_iinc (v := nI (j + 1)) hX rfl (nI_add _ 1) (by decide) rfl d_M_sameBlock_63 ?_
          refine zr_goto hX (tgt := 5) (by decide) d_M_sameBlock_66 ?_
          exact ih_s hlt_s 1 (by rw [zfor_s, ← hs_s]; unfold st_M_sameBlock; rw [if_neg h13]; rw [if_pos h54])
    · skip
      have ej_s : j = 16 := by omega
      rw [ej_s] at hs_s
      refine zr_iload hX rfl d_M_sameBlock_5 ?_
      refine zr_bipush (v := 16) hX rfl d_M_sameBlock_7 ?_
      refine zr_icmp_ge hX (tgt := 69) d_M_sameBlock_9 (by decide) (fun _ => ?_) (fun h9 => absurd h9 (zq_leT (a := 16) (b := j) (by omega) (by omega)))
      refine zr_iload_n hX rfl d_M_sameBlock_69 ?_
      exact zr_zret hX (z01 (z01_same hs_s)) d_M_sameBlock_70 ⟨(by unfold s_M_sameBlock; rw [← hs_s]), rfl⟩
  exact L5 0 (Nat.zero_le _) _ rfl
