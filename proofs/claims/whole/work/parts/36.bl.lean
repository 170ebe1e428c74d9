def st_M_fill (j : Nat) (s : zU) : zU := zua s 27 (upd (s.ar 27) j (-1))
theorem z_fill (u : zU) : ∀ j, j ≤ 4096 → (zfor j st_M_fill u).2.1 = u.2.1 ∧ (∀ i, i ≠ 27 → (zfor j st_M_fill u).2.2 i = u.2.2 i) ∧ ∀ k, k < j → (zfor j st_M_fill u).ar 27 k = (-1) := by
  refine zfor_inv (N := 4096) (fun j (s : zU) => s.2.1 = u.2.1 ∧ (∀ i, i ≠ 27 → s.2.2 i = u.2.2 i) ∧ ∀ k, k < j → s.ar 27 k = (-1)) ⟨rfl, fun _ _ => rfl, fun k hk => absurd hk (Nat.not_lt_zero _)⟩ (fun j s hj hP => ?_)
  obtain ⟨p1, p2, p3⟩ := hP
  unfold st_M_fill
  refine ⟨p1, fun i hi => (zuaj _ _ hi).trans (p2 i hi), fun k hk => ?_⟩
  rw [zua_at]
  by_cases e : k = j
  · rw [e, pk_us]
  · rw [pk_un e]
    exact p3 k (by omega)
theorem z_isPlace_c {u us : zU} (h1 : us.2.1 = u.2.1) (h7 : us.2.2 7 = u.2.2 7) (p : Int32) : s_M_isPlace us p = s_M_isPlace u p := by
  unfold s_M_isPlace s_M_isCommit s_M_isBranch
  show (if _ then (if _ then _ else if _ then _ else if us.2.2 7 _ = 0 then _ else _) else if _ then _ else if us.2.1 6 ≤ _ then _ else _) = _
  rw [h1, h7]
theorem zTM_0 {u s : zU} (h : s = zfor 4096 st_M_fill u) : zTM u s (0, (fun _ _ => 0)) := by
  obtain ⟨p1, p2, p3⟩ := z_fill u 4096 (Nat.le_refl _)
  rw [← h] at p1 p2 p3
  exact ⟨p1, p2, (fun _ => 0), (fun _ => none), (fun i hi => absurd hi (Nat.not_lt_zero _)), p3, zTb.new _⟩
theorem c_M_blocks_bad (g : zGt) (d : Nat) (hd : 1 ≤ d) (G : zG) (u : zU) (m : Nat) (h : zMv u m G) (l : Int32) (hbad : s_M_isLayer l = 0) : zMet g y_M_blocks b_M_blocks 6 (some .int) [] d 0 0 [.ref m, .int l] G (zMq (some (.int (-1))) (zuc u 0 0) u m G) := by
  refine zMet.of (by decide) (Nat.le_of_ble_eq_true rfl) rfl (fun X hX => ?_)
  refine zr_aload_n hX rfl d_M_blocks_0 ?_
  refine zr_iconst (v := 0) hX rfl d_M_blocks_1 ?_
  refine zr_put hX k_M 0 (by decide) q653 rfl rfl rfl rfl (Nat.le_of_ble_eq_true rfl) h.m d_M_blocks_2 ?_
  refine zr_iload_n hX rfl d_M_blocks_5 ?_
  refine zr_pS hX (c_M_isLayer g (d - 1) _ l) l_M_102 st_M_isLayer f_M_isLayer rfl (Nat.le_of_ble_eq_true rfl) (by omega) (Nat.zero_le _) (Nat.zero_le _) d_M_blocks_6 ?_
  refine zr_if_ne hX (tgt := 14) d_M_blocks_9 (by decide) (fun h9 => absurd h9 (not_not_intro hbad)) (fun _ => ?_)
  refine zr_iconst (v := (-1)) hX rfl d_M_blocks_12 ?_
  exact zr_iret hX d_M_blocks_13 ⟨rfl, (zMv.put h (upd u.2.1 0 0)), (zMf.obj zMf.rf _), rfl⟩
theorem c_M_blocks_ok (g : zGt) (d : Nat) (hdd : 2 ≤ d) (G : zG) (u : zU) (m : Nat) (h : zMv u m G) (l : Nat) (hl : l < 4) (ho0 : ¬ s_M_isLayer (nI l) = 0) : zMet g y_M_blocks b_M_blocks 6 (some .int) [] d 0 0 [.ref m, .int (nI l)] G (fun r G1 => r = .inl (some (.int (nI (zbl9 (zuc u 0 0) l).1))) ∧ ∃ u2, zMv u2 m G1 ∧ zMf u m G G1 ∧ u2.1 = u.1 ∧ zTM (zuc u 0 0) u2 (zbl9 (zuc u 0 0) l)) := by
  refine zMet.of (by decide) (Nat.le_of_ble_eq_true rfl) rfl (fun X hX => ?_)
  refine zr_aload_n hX rfl d_M_blocks_0 ?_
  refine zr_iconst (v := 0) hX rfl d_M_blocks_1 ?_
  refine zr_put hX k_M 0 (by decide) q653 rfl rfl rfl rfl (Nat.le_of_ble_eq_true rfl) h.m d_M_blocks_2 ?_
  refine zr_iload_n hX rfl d_M_blocks_5 ?_
  refine zr_pS hX (c_M_isLayer g (d - 1) _ (nI l)) l_M_102 st_M_isLayer f_M_isLayer rfl (Nat.le_of_ble_eq_true rfl) (by omega) (Nat.zero_le _) (Nat.zero_le _) d_M_blocks_6 ?_
  refine zr_if_ne hX (tgt := 14) d_M_blocks_9 (by decide) (fun _ => ?_) (fun h9 => absurd h9 ho0)
  refine zr_iconst (v := 0) hX rfl d_M_blocks_14 ?_
  refine zs_istore_n hX (by decide) rfl d_M_blocks_15 ?_
  have L16 : ∀ e, e ≤ 4096 → ∀ (s : zU) (G_s : zG), s = zfor e st_M_fill (zuc u 0 0) → zMv s m G_s → zMf u m G G_s → s.1 = u.1 → s.2.1 = (zuc u 0 0).2.1 → zw g X (fun r G1 => r = .inl (some (.int (nI (zbl9 (zuc u 0 0) l).1))) ∧ ∃ u2, zMv u2 m G1 ∧ zMf u m G G1 ∧ u2.1 = u.1 ∧ zTM (zuc u 0 0) u2 (zbl9 (zuc u 0 0) l)) 16 [some (.ref m), some (.int (nI l)), some (.int (nI e)), none, none, none] [] G_s 0 0 := by
    refine zup 4096 (fun e hj_s ih_s => ?_)
    intro s G_s hs_s hk_s fk_s ek_s ik_s
    by_cases hlt_s : e < 4096
    · skip
      refine zr_iload_n hX rfl d_M_blocks_16 ?_
      refine zr_sipush (v := 4096) hX rfl d_M_blocks_17 ?_
      refine zr_icmp_ge hX (tgt := 36) d_M_blocks_20 (by decide) (fun h9 => absurd h9 (nI_ge (a := e) (b := 4096) (by omega) (by decide))) (fun _ => ?_)
      refine zr_aload_n hX rfl d_M_blocks_23 ?_
      refine zr_get hX k_M 27 (by decide) q680 rfl hk_s.m rfl d_M_blocks_24 ?_
      refine zr_iload_n hX rfl d_M_blocks_27 ?_
      refine zr_iconst (v := (-1)) hX rfl d_M_blocks_28 ?_
      refine zr_iastN hX (hk_s.ar 27 rfl) e rfl (by omega) (by decide) d_M_blocks_29 ?_
      refine zs_iinc (v := nI (e + 1)) hX rfl (nI_add _ 1) (by decide) rfl d_M_blocks_30 ?_
      refine zr_goto hX (tgt := 16) (by decide) d_M_blocks_33 ?_
      exact ih_s hlt_s (zua s 27 (upd (s.ar 27) e (-1))) _ (by rw [zfor_s, ← hs_s]; unfold st_M_fill; rfl) (zMv.arr hk_s 27 rfl _) (zMf.arr fk_s 27 rfl (congrFun ek_s 27) _) ek_s ik_s
    · skip
      have ej_s : e = 4096 := by omega
      rw [ej_s] at hs_s
      refine zr_iload_n hX rfl d_M_blocks_16 ?_
      refine zr_sipush (v := 4096) hX rfl d_M_blocks_17 ?_
      refine zr_icmp_ge hX (tgt := 36) d_M_blocks_20 (by decide) (fun _ => ?_) (fun h9 => absurd h9 (zq_leT (a := 4096) (b := e) (by omega) (by omega)))
      refine zr_iconst (v := 0) hX rfl d_M_blocks_36 ?_
      refine zs_istore_n hX (by decide) rfl d_M_blocks_37 ?_
      refine zr_iconst (v := 0) hX rfl d_M_blocks_38 ?_
      refine zs_istore_n hX (by decide) rfl d_M_blocks_39 ?_
      have L40 : ∀ j, j ≤ 28 → ∀ (sp : Nat × (Nat → Nat → Int32)) (up : zU) (G_p : zG), zMv up m G_p → zMf u m G G_p → up.1 = u.1 → up.2.1 = s.2.1 → sp = zfor j (zblP (zuc u 0 0) l) (0, (fun _ _ => 0)) → sp.1 ≤ 64 * j → zTM (zuc u 0 0) up sp → zw g X (fun r G1 => r = .inl (some (.int (nI (zbl9 (zuc u 0 0) l).1))) ∧ ∃ u2, zMv u2 m G1 ∧ zMf u m G G1 ∧ u2.1 = u.1 ∧ zTM (zuc u 0 0) u2 (zbl9 (zuc u 0 0) l)) 40 [some (.ref m), some (.int (nI l)), some (.int (nI sp.1)), some (.int (nI j)), none, none] [] G_p 0 0 := by
        refine zup 28 (fun j hj_p ih_p => ?_)
        intro sp  up  G_p hk_p fk_p ek_p ik_p hs_p hn_p hT_p
        by_cases hlt_p : j < 28
        · skip
          refine zr_iload_n hX rfl d_M_blocks_40 ?_
          refine zr_bipush (v := 28) hX rfl d_M_blocks_41 ?_
          refine zr_icmp_ge hX (tgt := 124) d_M_blocks_43 (by decide) (fun h9 => absurd h9 (nI_ge (a := j) (b := 28) (by omega) (by decide))) (fun _ => ?_)
          refine zr_aload_n hX rfl d_M_blocks_46 ?_
          refine zr_iload_n hX rfl d_M_blocks_47 ?_
          refine zr_pV hX (c_M_isPlace g (d - 1) (by omega) _ up m hk_p (nI j)) l_M_172 im_M_isPlace se_M_isPlace f_M_isPlace k_M.1 hk_p.m rfl (Nat.le_of_ble_eq_true rfl) (by omega) (Nat.zero_le _) (Nat.zero_le _) d_M_blocks_48 ?_
          refine zr_if_ne hX (tgt := 57) d_M_blocks_51 (by decide) (fun h51 => ?_) (fun h51 => ?_)
          · skip
            refine zr_iconst (v := 0) hX rfl d_M_blocks_57 ?_
            refine zs_istore hX (by decide) rfl d_M_blocks_58 ?_
            have L60 : ∀ i, i ≤ 8 → ∀ (sy : Nat × (Nat → Nat → Int32)) (uy : zU) (G_y : zG), zMv uy m G_y → zMf u m G G_y → uy.1 = u.1 → uy.2.1 = up.2.1 → sy = zfor i (zblY (zuc u 0 0) l j) sp → sy.1 ≤ 64 * j + 8 * i → zTM (zuc u 0 0) uy sy → zw g X (fun r G1 => r = .inl (some (.int (nI (zbl9 (zuc u 0 0) l).1))) ∧ ∃ u2, zMv u2 m G1 ∧ zMf u m G G1 ∧ u2.1 = u.1 ∧ zTM (zuc u 0 0) u2 (zbl9 (zuc u 0 0) l)) 60 [some (.ref m), some (.int (nI l)), some (.int (nI sy.1)), some (.int (nI j)), some (.int (nI (4 * i))), none] [] G_y 0 0 := by
              refine zup 8 (fun i hj_y ih_y => ?_)
              intro sy  uy  G_y hk_y fk_y ek_y ik_y hs_y hn_y hT_y
              by_cases hlt_y : i < 8
              · skip
                refine zr_iload hX rfl d_M_blocks_60 ?_
                refine zr_bipush (v := 32) hX rfl d_M_blocks_62 ?_
                refine zr_icmp_ge hX (tgt := 118) d_M_blocks_64 (by decide) (fun h9 => absurd h9 (nI_ge (a := (4 * i)) (b := 32) (by omega) (by decide))) (fun _ => ?_)
                refine zr_iconst (v := 0) hX rfl d_M_blocks_67 ?_
                refine zs_istore hX (by decide) rfl d_M_blocks_68 ?_
                have L70 : ∀ k, k ≤ 8 → ∀ (sr : Nat × (Nat → Nat → Int32)) (ur : zU) (G_r : zG), zMv ur m G_r → zMf u m G G_r → ur.1 = u.1 → ur.2.1 = uy.2.1 → sr = zfor k (zblX (zuc u 0 0) l j i) sy → sr.1 ≤ 64 * j + 8 * i + k → zTM (zuc u 0 0) ur sr → zw g X (fun r G1 => r = .inl (some (.int (nI (zbl9 (zuc u 0 0) l).1))) ∧ ∃ u2, zMv u2 m G1 ∧ zMf u m G G1 ∧ u2.1 = u.1 ∧ zTM (zuc u 0 0) u2 (zbl9 (zuc u 0 0) l)) 70 [some (.ref m), some (.int (nI l)), some (.int (nI sr.1)), some (.int (nI j)), some (.int (nI (4 * i))), some (.int (nI (4 * k)))] [] G_r 0 0 := by
                  refine zup 8 (fun k hj_r ih_r => ?_)
                  intro sr  ur  G_r hk_r fk_r ek_r ik_r hs_r hn_r hT_r
                  by_cases hlt_r : k < 8
                  · skip
                    refine zr_iload hX rfl d_M_blocks_70 ?_
                    refine zr_bipush (v := 32) hX rfl d_M_blocks_72 ?_
                    refine zr_icmp_ge hX (tgt := 112) d_M_blocks_74 (by decide) (fun h9 => absurd h9 (nI_ge (a := (4 * k)) (b := 32) (by omega) (by decide))) (fun _ => ?_)
                    refine zr_iload_n hX rfl d_M_blocks_77 ?_
                    refine zr_aload_n hX rfl d_M_blocks_78 ?_
                    refine zr_sipush (v := 4096) hX rfl d_M_blocks_79 ?_
                    refine zr_iload_n hX rfl d_M_blocks_82 ?_
                    refine zn_imul (a := 4096) (b := j) hX d_M_blocks_83 ?_
                    refine zr_iload_n hX rfl d_M_blocks_84 ?_
                    refine zr_iload hX rfl d_M_blocks_85 ?_
                    refine zr_iload hX rfl d_M_blocks_87 ?_
                    refine zr_pS hX (c_M_cellN g (d - 1) _ l (4 * k) (4 * i)) l_M_123 st_M_cellOf f_M_cellOf rfl (Nat.le_of_ble_eq_true rfl) (by omega) (Nat.zero_le _) (Nat.zero_le _) d_M_blocks_89 ?_
                    refine zn_iadd (a := (4096 * j)) (b := (1024 * l + 32 * (4 * i) + (4 * k))) hX d_M_blocks_92 ?_
                    refine zr_callV (ci := 6) hX (c_M_isNew g (d - 1) (by omega) _ (zuc u 0 0) ur m hk_r ((4096 * j) + (1024 * l + 32 * (4 * i) + (4 * k))) (by omega) sr (by omega) hT_r) l_M_181 im_M_isNew se_M_isNew f_M_isNew rfl (zMv.m hk_r) rfl (Nat.le_of_ble_eq_true rfl) (by omega) (Nat.zero_le _) (Nat.zero_le _) d_M_blocks_93 (fun v G93 hq93 => ?_) (fun E G9 h9 => by obtain ⟨u8, -, -, -, -, h8⟩ := h9; rcases h8 with ⟨h8, -⟩ | ⟨h8, -⟩ <;> cases h8)
                    obtain ⟨u93, hk93, fk93, ek93, hT93, hv93⟩ := hq93
                    have ei93 : u93.2.1 = ur.2.1 := hT93.1.trans hT_r.1.symm
                    rcases hv93 with ⟨hv93, hn93⟩ | ⟨hv93, hn93⟩
                    · skip
                      cases hv93
                      refine zr_if_eq hX (tgt := 103) d_M_blocks_96 (by decide) (fun _ => ?_) (fun h => absurd h (by decide))
                      refine zr_iconst (v := 0) hX rfl d_M_blocks_103 ?_
                      refine zn_iadd (a := sr.1) (b := 0) hX d_M_blocks_104 ?_
                      refine zs_istore_n hX (by decide) rfl d_M_blocks_105 ?_
                      refine zs_iinc (v := nI (4 * (k + 1))) hX rfl (nI_add _ 4) (by decide) rfl d_M_blocks_106 ?_
                      refine zr_goto hX (tgt := 70) (by decide) d_M_blocks_109 ?_
                      rw [show sr.1 + 0 = (zadd sr (zbk (zuc u 0 0) (4096 * j + (1024 * l + 32 * (4 * i) + 4 * k)))).1 from hn93.symm]
                      exact ih_r hlt_r _ u93 _ hk93 (zMf.tr fk_r fk93 ek_r) (Eq.trans ek93 ek_r) (Eq.trans ei93 ik_r) (by rw [zfor_s, ← hs_r]; rfl) (by rw [hn93]; omega) hT93
                    · skip
                      cases hv93
                      refine zr_if_eq hX (tgt := 103) d_M_blocks_96 (by decide) (fun h => absurd h (by decide)) (fun _ => ?_)
                      refine zr_iconst (v := 1) hX rfl d_M_blocks_99 ?_
                      refine zr_goto hX (tgt := 104) (by decide) d_M_blocks_100 ?_
                      refine zn_iadd (a := sr.1) (b := 1) hX d_M_blocks_104 ?_
                      refine zs_istore_n hX (by decide) rfl d_M_blocks_105 ?_
                      refine zs_iinc (v := nI (4 * (k + 1))) hX rfl (nI_add _ 4) (by decide) rfl d_M_blocks_106 ?_
                      refine zr_goto hX (tgt := 70) (by decide) d_M_blocks_109 ?_
                      rw [show sr.1 + 1 = (zadd sr (zbk (zuc u 0 0) (4096 * j + (1024 * l + 32 * (4 * i) + 4 * k)))).1 from hn93.symm]
                      exact ih_r hlt_r _ u93 _ hk93 (zMf.tr fk_r fk93 ek_r) (Eq.trans ek93 ek_r) (Eq.trans ei93 ik_r) (by rw [zfor_s, ← hs_r]; rfl) (by rw [hn93]; omega) hT93
                  · skip
                    have ej_r : 8 = k := by omega
                    subst ej_r
                    refine zr_iload hX rfl d_M_blocks_70 ?_
                    refine zr_bipush (v := 32) hX rfl d_M_blocks_72 ?_
                    refine zr_icmp_ge hX (tgt := 112) d_M_blocks_74 (by decide) (fun _ => ?_) (fun h9 => absurd h9 (zq_leT (a := 32) (b := (4 * 8)) (by omega) (by omega)))
                    refine zs_iinc (v := nI (4 * (i + 1))) hX rfl (nI_add _ 4) (by decide) rfl d_M_blocks_112 ?_
                    refine zr_goto hX (tgt := 60) (by decide) d_M_blocks_115 ?_
                    refine zw_drop 5 ?_
                    exact ih_y hlt_y sr ur _ hk_r fk_r ek_r (Eq.trans ik_r ik_y) (by rw [zfor_s, ← hs_y]; unfold zblY; exact hs_r) (by omega) hT_r
                exact L70 0 (Nat.zero_le _) sy uy _ hk_y fk_y ek_y rfl rfl (by omega) hT_y
              · skip
                have ej_y : 8 = i := by omega
                subst ej_y
                refine zr_iload hX rfl d_M_blocks_60 ?_
                refine zr_bipush (v := 32) hX rfl d_M_blocks_62 ?_
                refine zr_icmp_ge hX (tgt := 118) d_M_blocks_64 (by decide) (fun _ => ?_) (fun h9 => absurd h9 (zq_leT (a := 32) (b := (4 * 8)) (by omega) (by omega)))
                refine zs_iinc (v := nI (j + 1)) hX rfl (nI_add _ 1) (by decide) rfl d_M_blocks_118 ?_
                refine zr_goto hX (tgt := 40) (by decide) d_M_blocks_121 ?_
                refine zw_drop 4 ?_
                exact ih_p hlt_p sy uy _ hk_y fk_y ek_y (Eq.trans ik_y ik_p) (by rw [zfor_s, ← hs_p]; unfold zblP; rw [if_neg (by rw [← z_isPlace_c hT_p.1 (hT_p.2.1 7 (by decide))]; exact h51)]; exact hs_y) (by omega) hT_y
            exact L60 0 (Nat.zero_le _) sp up _ hk_p fk_p ek_p rfl rfl (by omega) hT_p
          · skip
            refine zr_goto hX (tgt := 118) (by decide) d_M_blocks_54 ?_
            refine zs_iinc (v := nI (j + 1)) hX rfl (nI_add _ 1) (by decide) rfl d_M_blocks_118 ?_
            refine zr_goto hX (tgt := 40) (by decide) d_M_blocks_121 ?_
            exact ih_p hlt_p sp up _ hk_p fk_p ek_p ik_p (by rw [zfor_s, ← hs_p]; unfold zblP; rw [if_pos (by rw [← z_isPlace_c hT_p.1 (hT_p.2.1 7 (by decide))]; exact h51)]) (by omega) hT_p
        · skip
          have ej_p : 28 = j := by omega
          subst ej_p
          refine zr_iload_n hX rfl d_M_blocks_40 ?_
          refine zr_bipush (v := 28) hX rfl d_M_blocks_41 ?_
          refine zr_icmp_ge hX (tgt := 124) d_M_blocks_43 (by decide) (fun _ => ?_) (fun h9 => absurd h9 (zq_leT (a := 28) (b := 28) (by omega) (by decide)))
          refine zr_iload_n hX rfl d_M_blocks_124 ?_
          exact zr_iret hX d_M_blocks_125 ⟨rfl.trans (by rw [show nI sp.1 = nI (zbl9 (zuc u 0 0) l).1 from by rw [hs_p]; rfl]), up, hk_p, fk_p, ek_p, (by rw [show zbl9 (zuc u 0 0) l = sp from hs_p.symm]; exact hT_p)⟩
      exact L40 0 (Nat.zero_le _) (0, (fun _ _ => 0)) s _ hk_s fk_s ek_s rfl rfl (Nat.zero_le _) (zTM_0 hs_s)
  exact L16 0 (Nat.zero_le _) _ _ rfl (zMv.put h (upd u.2.1 0 0)) (zMf.obj zMf.rf _) rfl rfl
