theorem zto13 {x : Int32} (h1 : ¬ x = 1) (h2 : ¬ x = 2) (h3 : ¬ x = 3) : x.toInt < 1 ∨ 3 < x.toInt := by
  have k1 : ¬ x.toInt = 1 := fun q => h1 (Int32.toInt_inj.mp q)
  have k2 : ¬ x.toInt = 2 := fun q => h2 (Int32.toInt_inj.mp q)
  have k3 : ¬ x.toInt = 3 := fun q => h3 (Int32.toInt_inj.mp q)
  omega
theorem c_S_otherWins (g : zGt) (d : Nat) (hdd : 2 ≤ d) (G : zG) (k : Int32) (m o : Int64)   : zMet g y_S_otherWins b_S_otherWins 5 (some .boolean) [] d 0 0 [.int k, .long m, .long o] G (zD1 (.int (zow k m o)) G) := by
  refine zMet.of (by decide) (Nat.le_of_ble_eq_true rfl) rfl (fun X hX => ?_)
  refine zr_iload_n hX rfl d_S_otherWins_0 ?_
  by_cases h1_1 : k = 1
  · skip
    refine zr_tabIn hX (tgt := 28) d_S_otherWins_1 (by rw [h1_1]; decide) (by rw [h1_1]; decide) (by rw [h1_1]; rfl) (by decide) ?_
    refine zr_lload_n hX rfl d_S_otherWins_28 ?_
    refine zr_pS hX (c_S_valueOf g (d - 1) _ o) l_S_142 st_S_valueOf f_S_valueOf rfl (Nat.le_of_ble_eq_true rfl) (by omega) (Nat.zero_le _) (Nat.zero_le _) d_S_otherWins_29 ?_
    refine zr_lload_n hX rfl d_S_otherWins_32 ?_
    refine zr_pS hX (c_S_valueOf g (d - 1) _ m) l_S_142 st_S_valueOf f_S_valueOf rfl (Nat.le_of_ble_eq_true rfl) (by omega) (Nat.zero_le _) (Nat.zero_le _) d_S_otherWins_33 ?_
    refine zr_icmp_le hX (tgt := 43) d_S_otherWins_36 (by decide) (fun h36 => ?_) (fun h36 => ?_)
    · skip
      refine zr_iconst (v := 0) hX rfl d_S_otherWins_43 ?_
      exact zr_zret hX rfl d_S_otherWins_44 ⟨by unfold zow; rw [if_pos h1_1, if_pos h36], rfl⟩
    · skip
      refine zr_iconst (v := 1) hX rfl d_S_otherWins_39 ?_
      refine zr_goto hX (tgt := 44) (by decide) d_S_otherWins_40 ?_
      exact zr_zret hX rfl d_S_otherWins_44 ⟨by unfold zow; rw [if_pos h1_1, if_neg h36], rfl⟩
  · skip
    by_cases h1_2 : k = 2
    · skip
      refine zr_tabIn hX (tgt := 45) d_S_otherWins_1 (by rw [h1_2]; decide) (by rw [h1_2]; decide) (by rw [h1_2]; rfl) (by decide) ?_
      refine zr_lload_n hX rfl d_S_otherWins_45 ?_
      refine zr_pS hX (c_S_valueOf g (d - 1) _ o) l_S_142 st_S_valueOf f_S_valueOf rfl (Nat.le_of_ble_eq_true rfl) (by omega) (Nat.zero_le _) (Nat.zero_le _) d_S_otherWins_46 ?_
      refine zr_lload_n hX rfl d_S_otherWins_49 ?_
      refine zr_pS hX (c_S_valueOf g (d - 1) _ m) l_S_142 st_S_valueOf f_S_valueOf rfl (Nat.le_of_ble_eq_true rfl) (by omega) (Nat.zero_le _) (Nat.zero_le _) d_S_otherWins_50 ?_
      refine zr_icmp_ge hX (tgt := 60) d_S_otherWins_53 (by decide) (fun h53 => ?_) (fun h53 => ?_)
      · skip
        refine zr_iconst (v := 0) hX rfl d_S_otherWins_60 ?_
        exact zr_zret hX rfl d_S_otherWins_61 ⟨by unfold zow; rw [if_neg h1_1, if_pos h1_2, if_pos h53], rfl⟩
      · skip
        refine zr_iconst (v := 1) hX rfl d_S_otherWins_56 ?_
        refine zr_goto hX (tgt := 61) (by decide) d_S_otherWins_57 ?_
        exact zr_zret hX rfl d_S_otherWins_61 ⟨by unfold zow; rw [if_neg h1_1, if_pos h1_2, if_neg h53], rfl⟩
    · skip
      by_cases h1_3 : k = 3
      · skip
        refine zr_tabIn hX (tgt := 62) d_S_otherWins_1 (by rw [h1_3]; decide) (by rw [h1_3]; decide) (by rw [h1_3]; rfl) (by decide) ?_
        refine zr_lload_n hX rfl d_S_otherWins_62 ?_
        refine zr_pS hX (c_S_originCommitOf g (d - 1) (by omega) _ o) l_S_233 st_S_originCommitOf f_S_originCommitOf rfl (Nat.le_of_ble_eq_true rfl) (by omega) (Nat.zero_le _) (Nat.zero_le _) d_S_otherWins_63 ?_
        refine zr_lload_n hX rfl d_S_otherWins_66 ?_
        refine zr_pS hX (c_S_originCommitOf g (d - 1) (by omega) _ m) l_S_233 st_S_originCommitOf f_S_originCommitOf rfl (Nat.le_of_ble_eq_true rfl) (by omega) (Nat.zero_le _) (Nat.zero_le _) d_S_otherWins_67 ?_
        refine zr_icmp_le hX (tgt := 77) d_S_otherWins_70 (by decide) (fun h70 => ?_) (fun h70 => ?_)
        · skip
          refine zr_iconst (v := 0) hX rfl d_S_otherWins_77 ?_
          exact zr_zret hX rfl d_S_otherWins_78 ⟨by unfold zow; rw [if_neg h1_1, if_neg h1_2, if_pos h1_3, if_pos h70], rfl⟩
        · skip
          refine zr_iconst (v := 1) hX rfl d_S_otherWins_73 ?_
          refine zr_goto hX (tgt := 78) (by decide) d_S_otherWins_74 ?_
          exact zr_zret hX rfl d_S_otherWins_78 ⟨by unfold zow; rw [if_neg h1_1, if_neg h1_2, if_pos h1_3, if_neg h70], rfl⟩
      · skip
        refine zr_tabOut hX (tgt := 79) d_S_otherWins_1 (zto13 h1_1 h1_2 h1_3) (by decide) ?_
        refine zr_iconst (v := 0) hX rfl d_S_otherWins_79 ?_
        exact zr_zret hX rfl d_S_otherWins_80 ⟨by unfold zow; rw [if_neg h1_1, if_neg h1_2, if_neg h1_3], rfl⟩
theorem zlayN {j : Nat} (h : j < 4096) : s_S_layerOf (nI j) = nI (j / 1024) := by
  unfold s_S_layerOf
  rw [zl1024, pk_div (by omega) (by decide) (by decide)]
theorem zmc_step {g : zGt} {X : zX} {d : Nat} {Post : zRes → zG → Prop} (hX : zOK g X b_S_mergeCells y_S_mergeCells none [] 9 d 0 0) (hdd : 3 ≤ d) {w : zW} {G : zG} {p c j e qb qc qr kq : Nat} {u s : zU} (hp : p < 4) (hj : j < 4096) (he4 : e < 4096) (hH : zHp w G) (hq3 : w.o 3 p = some qb) (hqc : w.o 1 c = some qc) (hq6 : w.o 6 0 = some qr) (hk : w.o 5 p = some kq) (e7 : w.i 7 p = nI e) (e8 : w.i 8 p = nI e) (hm : zmk w p c j s) (hs : zMg p u s (w.f 4 p) (fun k => w.n k p) e j)
    (kk : ∀ (w2 : zW) (e2 : Nat) (G2 : zG), zHp w2 G2 → zFr w G w2 G2 → zMw p w w2 → zMg p u (st_M_merge p c j s) (w2.f 4 p) (fun k => w2.n k p) e2 (j + 1) → w2.i 7 p = nI e2 → w2.i 8 p = nI e2 → zw g X Post 3 [some (.ref (w.a 0 0)), some (.ref (w.a 4 p)), some (.ref (w.a 2 c)), some (.ref (w.a 7 0)), some (.ref kq), some (.int (nI (j + 1))), none, none, none] [] G2 0 0) : zw g X Post 3 [some (.ref (w.a 0 0)), some (.ref (w.a 4 p)), some (.ref (w.a 2 c)), some (.ref (w.a 7 0)), some (.ref kq), some (.int (nI j)), none, none, none] [] G 0 0 := by
  have hk9 : G kq = some (zO 3 [.ref (w.a 10 p), .ref (w.a 11 p), .ref (w.a 12 p), .ref (w.a 13 p), .ref (w.a 14 p), .int (nI e), .int (nI e)]) := by
    have hz := hH.km hk
    rw [e7, e8] at hz
    exact hz
  refine zr_iload hX rfl d_S_mergeCells_3 ?_
  refine zr_sipush (v := 4096) hX rfl d_S_mergeCells_5 ?_
  refine zr_icmp_ge hX (tgt := 135) d_S_mergeCells_8 (by decide) (fun h9 => absurd h9 (nI_ge (a := j) (b := 4096) (by omega) (by decide))) (fun _ => ?_)
  refine zr_aload_n hX rfl d_S_mergeCells_11 ?_
  refine zr_iload hX rfl d_S_mergeCells_12 ?_
  refine zr_laldN hX (hH.bj hq3) j rfl (by omega) (by decide) d_S_mergeCells_14 ?_
  refine zr_pS hX (c_S_valueOf g (d - 1) _ ((w.f 4 p) j)) l_S_142 st_S_valueOf f_S_valueOf rfl (Nat.le_of_ble_eq_true rfl) (by omega) (Nat.zero_le _) (Nat.zero_le _) d_S_mergeCells_15 ?_
  refine zs_istore hX (by decide) rfl d_S_mergeCells_18 ?_
  refine zr_aload_n hX rfl d_S_mergeCells_20 ?_
  refine zr_iload hX rfl d_S_mergeCells_21 ?_
  refine zr_laldN hX (hH.cj hqc) j rfl (by omega) (by decide) d_S_mergeCells_23 ?_
  refine zr_pS hX (c_S_valueOf g (d - 1) _ ((w.f 2 c) j)) l_S_142 st_S_valueOf f_S_valueOf rfl (Nat.le_of_ble_eq_true rfl) (by omega) (Nat.zero_le _) (Nat.zero_le _) d_S_mergeCells_24 ?_
  refine zs_istore hX (by decide) rfl d_S_mergeCells_27 ?_
  refine zr_aload_n hX rfl d_S_mergeCells_29 ?_
  refine zr_get hX k_S 0 (by decide) q103 rfl hH.x rfl d_S_mergeCells_30 ?_
  refine zr_iload hX rfl d_S_mergeCells_33 ?_
  refine zr_pS hX (c_S_layerOf g (d - 1) _ (nI j)) l_S_239 st_S_layerOf f_S_layerOf rfl (Nat.le_of_ble_eq_true rfl) (by omega) (Nat.zero_le _) (Nat.zero_le _) d_S_mergeCells_35 ?_
  rw [show s_S_layerOf (nI j) = nI (j / 1024) from zlayN hj]
  refine zr_ialdN hX hH.a0 (j / 1024) rfl (by omega) (by decide) d_S_mergeCells_38 ?_
  refine zs_istore hX (by decide) rfl d_S_mergeCells_39 ?_
  refine zr_iload hX rfl d_S_mergeCells_41 ?_
  refine zr_iload hX rfl d_S_mergeCells_43 ?_
  refine zr_aload_n hX rfl d_S_mergeCells_45 ?_
  refine zr_iload hX rfl d_S_mergeCells_46 ?_
  refine zr_ialdN hX (hH.rv hq6) j rfl (by omega) (by decide) d_S_mergeCells_48 ?_
  refine zr_pS hX (c_S_isConflict g (d - 1) _ (s_S_valueOf ((w.f 4 p) j)) (s_S_valueOf ((w.f 2 c) j)) ((w.n 7 0) j)) l_S_324 st_S_isConflict f_S_isConflict rfl (Nat.le_of_ble_eq_true rfl) (by omega) (Nat.zero_le _) (Nat.zero_le _) d_S_mergeCells_49 ?_
  refine zr_if_eq hX (tgt := 105) d_S_mergeCells_52 (by decide) (fun h52 => ?_) (fun h52 => ?_)
  · skip
    refine zr_iload hX rfl d_S_mergeCells_105 ?_
    refine zr_aload_n hX rfl d_S_mergeCells_107 ?_
    refine zr_iload hX rfl d_S_mergeCells_108 ?_
    refine zr_ialdN hX (hH.rv hq6) j rfl (by omega) (by decide) d_S_mergeCells_110 ?_
    refine zr_icmp_ne hX (tgt := 129) d_S_mergeCells_111 (by decide) (fun h111 => ?_) (fun h111 => ?_)
    · skip
      refine zs_iinc (v := nI (j + 1)) hX rfl (nI_add _ 1) (by decide) rfl d_S_mergeCells_129 ?_
      refine zr_goto hX (tgt := 3) (by decide) d_S_mergeCells_132 ?_
      refine zw_drop 6 ?_
      refine zw_drop 7 ?_
      refine zw_drop 8 ?_
      exact kk w e G hH (zFr.rf w G) (zMw.rf p w) (by rw [(zmk_skip1 hm h52 h111)]; exact hs.skip) e7 e8
    · skip
      refine zr_iload hX rfl d_S_mergeCells_114 ?_
      refine zr_iload hX rfl d_S_mergeCells_116 ?_
      refine zr_icmp_eq hX (tgt := 129) d_S_mergeCells_118 (by decide) (fun h118 => ?_) (fun h118 => ?_)
      · skip
        refine zs_iinc (v := nI (j + 1)) hX rfl (nI_add _ 1) (by decide) rfl d_S_mergeCells_129 ?_
        refine zr_goto hX (tgt := 3) (by decide) d_S_mergeCells_132 ?_
        refine zw_drop 6 ?_
        refine zw_drop 7 ?_
        refine zw_drop 8 ?_
        exact kk w e G hH (zFr.rf w G) (zMw.rf p w) (by rw [(zmk_skip2 hm h118)]; exact hs.skip) e7 e8
      · skip
        refine zr_aload_n hX rfl d_S_mergeCells_121 ?_
        refine zr_iload hX rfl d_S_mergeCells_122 ?_
        refine zr_aload_n hX rfl d_S_mergeCells_124 ?_
        refine zr_iload hX rfl d_S_mergeCells_125 ?_
        refine zr_laldN hX (hH.cj hqc) j rfl (by omega) (by decide) d_S_mergeCells_127 ?_
        refine zr_lastN hX (hH.bj hq3) j rfl (by omega) (by decide) d_S_mergeCells_128 ?_
        refine zs_iinc (v := nI (j + 1)) hX rfl (nI_add _ 1) (by decide) rfl d_S_mergeCells_129 ?_
        refine zr_goto hX (tgt := 3) (by decide) d_S_mergeCells_132 ?_
        refine zw_drop 6 ?_
        refine zw_drop 7 ?_
        refine zw_drop 8 ?_
        exact kk (zWf w 4 p (vp_updL (w.f 4 p) j (w.f 2 c j))) e _ (hH.wf4 hq3 _) (zFr.put 4 p (zmp hq3) (zAd_f _ _ _ _) _ rfl) (zMw.take w p _) (by rw [(zmk_take1 hm h111 h118), show (zWf w 4 p (vp_updL (w.f 4 p) j (w.f 2 c j))).f 4 p = vp_updL (w.f 4 p) j (w.f 2 c j) from zud_s _ _ _ _, hm.2.2.2.2.2.1]; exact hs.take hj hm.2.2.2.2.2.2.2) e7 e8
  · skip
    refine zr_iload hX rfl d_S_mergeCells_55 ?_
    refine zr_if_ne hX (tgt := 78) d_S_mergeCells_57 (by decide) (fun h57 => ?_) (fun h57 => ?_)
    · skip
      refine zr_iload hX rfl d_S_mergeCells_78 ?_
      refine zr_aload_n hX rfl d_S_mergeCells_80 ?_
      refine zr_iload hX rfl d_S_mergeCells_81 ?_
      refine zr_laldN hX (hH.bj hq3) j rfl (by omega) (by decide) d_S_mergeCells_83 ?_
      refine zr_aload_n hX rfl d_S_mergeCells_84 ?_
      refine zr_iload hX rfl d_S_mergeCells_85 ?_
      refine zr_laldN hX (hH.cj hqc) j rfl (by omega) (by decide) d_S_mergeCells_87 ?_
      refine zr_pS hX (c_S_otherWins g (d - 1) (by omega) _ ((w.n 9 0) (j / 1024)) ((w.f 4 p) j) ((w.f 2 c) j)) l_S_331 st_S_otherWins f_S_otherWins rfl (Nat.le_of_ble_eq_true rfl) (by omega) (Nat.zero_le _) (Nat.zero_le _) d_S_mergeCells_88 ?_
      refine zr_if_eq hX (tgt := 129) d_S_mergeCells_91 (by decide) (fun h91 => ?_) (fun h91 => ?_)
      · skip
        refine zs_iinc (v := nI (j + 1)) hX rfl (nI_add _ 1) (by decide) rfl d_S_mergeCells_129 ?_
        refine zr_goto hX (tgt := 3) (by decide) d_S_mergeCells_132 ?_
        refine zw_drop 6 ?_
        refine zw_drop 7 ?_
        refine zw_drop 8 ?_
        exact kk w e G hH (zFr.rf w G) (zMw.rf p w) (by rw [((zmk_win hm h52 h57).resolve_right (fun z => z.1 h91)).2]; exact hs.skip) e7 e8
      · skip
        refine zr_aload_n hX rfl d_S_mergeCells_94 ?_
        refine zr_iload hX rfl d_S_mergeCells_95 ?_
        refine zr_aload_n hX rfl d_S_mergeCells_97 ?_
        refine zr_iload hX rfl d_S_mergeCells_98 ?_
        refine zr_laldN hX (hH.cj hqc) j rfl (by omega) (by decide) d_S_mergeCells_100 ?_
        refine zr_lastN hX (hH.bj hq3) j rfl (by omega) (by decide) d_S_mergeCells_101 ?_
        refine zr_goto hX (tgt := 129) (by decide) d_S_mergeCells_102 ?_
        refine zs_iinc (v := nI (j + 1)) hX rfl (nI_add _ 1) (by decide) rfl d_S_mergeCells_129 ?_
        refine zr_goto hX (tgt := 3) (by decide) d_S_mergeCells_132 ?_
        refine zw_drop 6 ?_
        refine zw_drop 7 ?_
        refine zw_drop 8 ?_
        have hq := (zmk_win hm h52 h57).resolve_left (fun z => h91 z.1)
        exact kk (zWf w 4 p (vp_updL (w.f 4 p) j (w.f 2 c j))) e _ (hH.wf4 hq3 _) (zFr.put 4 p (zmp hq3) (zAd_f _ _ _ _) _ rfl) (zMw.take w p _) (by rw [hq.2, show (zWf w 4 p (vp_updL (w.f 4 p) j (w.f 2 c j))).f 4 p = vp_updL (w.f 4 p) j (w.f 2 c j) from zud_s _ _ _ _, hm.2.2.2.2.2.1]; exact hs.take hj hm.2.2.2.2.2.2.2) e7 e8
    · skip
      refine zr_aload hX rfl d_S_mergeCells_60 ?_
      refine zr_iload hX rfl d_S_mergeCells_62 ?_
      refine zr_iload hX rfl d_S_mergeCells_64 ?_
      refine zr_iload hX rfl d_S_mergeCells_66 ?_
      refine zr_aload_n hX rfl d_S_mergeCells_68 ?_
      refine zr_iload hX rfl d_S_mergeCells_69 ?_
      refine zr_ialdN hX (hH.rv hq6) j rfl (by omega) (by decide) d_S_mergeCells_71 ?_
      refine zr_uV0 hX (c_K_add g (d - 1) _ kq (w.a 10 p) (w.a 11 p) (w.a 12 p) (w.a 13 p) (w.a 14 p) e (nI e) (nI j) (s_S_valueOf ((w.f 4 p) j)) (s_S_valueOf ((w.f 2 c) j)) ((w.n 7 0) j) hk9 (w.n 10 p) (w.n 11 p) (w.n 12 p) (w.n 13 p) (w.n 14 p) (hH.k0 hk) (hH.k1 hk) (hH.k2 hk) (hH.k3 hk) (hH.k4 hk) (hH.kne hk) he4) l_S_327 im_K_add se_K_add f_K_add k_K.1 hk9 rfl (Nat.le_of_ble_eq_true rfl) (by omega) (Nat.zero_le _) (Nat.zero_le _) d_S_mergeCells_72 ?_
      refine zr_goto hX (tgt := 129) (by decide) d_S_mergeCells_75 ?_
      refine zs_iinc (v := nI (j + 1)) hX rfl (nI_add _ 1) (by decide) rfl d_S_mergeCells_129 ?_
      refine zr_goto hX (tgt := 3) (by decide) d_S_mergeCells_132 ?_
      refine zw_drop 6 ?_
      refine zw_drop 7 ?_
      refine zw_drop 8 ?_
      have hz := hH.add (e := e) hk (nI j) (s_S_valueOf (w.f 4 p j)) (s_S_valueOf (w.f 2 c j)) (w.n 7 0 j)
      exact kk (zWad w p e (nI j) (s_S_valueOf (w.f 4 p j)) (s_S_valueOf (w.f 2 c j)) (w.n 7 0 j)) (e + 1) _ (by rw [show (nI e : Int32) + 1 = nI (e + 1) from nI_add e 1]; exact hz.1) (by rw [show (nI e : Int32) + 1 = nI (e + 1) from nI_add e 1]; exact hz.2) (zMw.add w p e _ _ _ _) (by rw [zmk_note hm h52 h57, zWad_n]; exact hs.note hj _ _ _) (zW5_7 _ _ _ _) (zW5_8 _ _ _ _)
