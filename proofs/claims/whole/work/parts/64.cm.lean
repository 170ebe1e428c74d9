theorem c_S_commit_bad (g : zGt) (d : Nat) (hdd : 6 ≤ d) (G : zG) (w : zW) (u : zU) (cm : Nat) (hH : zHp w G) (hR : zRl w u cm) (p : Int32)  (h0 : s_M_isBranch u p = 0) : zMet g y_S_commit b_S_commit 5 (some .int) [] d 1 6 [.ref (w.a 0 0), .int p] G (zDx "java/lang/IllegalArgumentException" G) := by
  refine zMet.of (by decide) (Nat.le_of_ble_eq_true rfl) rfl (fun X hX => ?_)
  refine zr_aload_n hX rfl d_S_commit_0 ?_
  refine zr_iload_n hX rfl d_S_commit_1 ?_
  refine zr_pV hX (c_S_branchAt_0 g (d - 1) _ w u cm hH hR p h0) l_S_84 im_S_branchAt se_S_branchAt f_S_branchAt k_S.1 hH.x rfl (Nat.le_of_ble_eq_true rfl) (by omega) (Nat.zero_le _) (Nat.zero_le _) d_S_commit_2 ?_
  refine zs_astore_nN hX (by decide) rfl d_S_commit_5 ?_
  refine zr_aload_nN hX rfl d_S_commit_6 ?_
  refine zr_ifnonnullN hX d_S_commit_7 ?_
  exact zr_iae hX rfl d_S_commit_10 d_S_commit_13 d_S_commit_14 d_S_commit_17 (by omega) (Nat.le_of_ble_eq_true rfl) (Nat.le_refl _) (Nat.le_refl _) ⟨rfl, rfl⟩
theorem zun1 {x : Int32} (h : (if x ≤ 0 then (0 : Int32) else 1) = 0) : ¬ 0 < x := fun q => by
  rw [if_neg (Int32.not_le.mpr q)] at h
  exact absurd h (by decide)
theorem zun2 {x : Int32} (h : ¬ 0 < x) : (if x ≤ 0 then (0 : Int32) else 1) = 0 := if_pos (Int32.not_lt.mp h)
theorem zcm24 {x : Int32} (h : x < 24) : ¬ x = 24 := fun q => by
  rw [q] at h
  exact absurd h (by decide)
theorem c_S_commit_two (g : zGt) (d : Nat) (hdd : 6 ≤ d) (G : zG) (w : zW) (u : zU) (cm : Nat) (hH : zHp w G) (hR : zRl w u cm) (p : Nat)  (hp : p < 4) (ho0 : ¬ s_M_isBranch u (nI p) = 0) (hx : Nat) (hhd : u.ar 8 p = nI hx) (hh : hx < 24) (e9 : Nat) (he : u.ar 14 p = nI e9) (hl : e9 ≤ 4096) (hbad : s_M_isChanged u p hx = 0 ∨ 0 < zfor e9 (st_M_unsettled u p) 0 ∨ u.i 6 = 24) : zMet g y_S_commit b_S_commit 5 (some .int) [] d 1 6 [.ref (w.a 0 0), .int (nI p)] G (zDx "java/lang/IllegalStateException" G) := by
  refine zMet.of (by decide) (Nat.le_of_ble_eq_true rfl) rfl (fun X hX => ?_)
  have a2 : w.i 0 2 = nI cm := hR.1.2.1
  have hm := hR.hm
  obtain ⟨qb, hq3, hz, h7, ht9⟩ := hR.bra hp ho0
  refine zr_aload_n hX rfl d_S_commit_0 ?_
  refine zr_iload_n hX rfl d_S_commit_1 ?_
  refine zr_pV hX (c_S_branchAt_1 g (d - 1) _ w hH (nI p) qb hz) l_S_84 im_S_branchAt se_S_branchAt f_S_branchAt k_S.1 hH.x rfl (Nat.le_of_ble_eq_true rfl) (by omega) (Nat.zero_le _) (Nat.zero_le _) d_S_commit_2 ?_
  refine zs_astore_n hX (by decide) rfl d_S_commit_5 ?_
  refine zr_aload_n hX rfl d_S_commit_6 ?_
  refine zr_ifnonnull hX (tgt := 18) (by decide) d_S_commit_7 ?_
  refine zr_aload_n hX rfl d_S_commit_18 ?_
  refine zr_aload_n hX rfl d_S_commit_19 ?_
  refine zr_pV hX (c_S_isChanged g (d - 1) (by omega) _ w u cm hH hR p hx qb hq3 ht9 hp hhd hh) l_S_157 im_S_isChanged se_S_isChanged f_S_isChanged k_S.1 hH.x rfl (Nat.le_of_ble_eq_true rfl) (by omega) (Nat.zero_le _) (Nat.zero_le _) d_S_commit_20 ?_
  refine zr_if_eq hX (tgt := 42) d_S_commit_23 (by decide) (fun h23 => ?_) (fun h23 => ?_)
  · skip
    exact zr_ise hX rfl d_S_commit_42 d_S_commit_45 d_S_commit_46 d_S_commit_49 (by omega) (Nat.le_of_ble_eq_true rfl) (Nat.le_refl _) (Nat.le_refl _) ⟨rfl, rfl⟩
  · skip
    refine zr_aload_n hX rfl d_S_commit_26 ?_
    refine zr_pV hX (c_hasUns g (d - 1) _ w u cm hH p qb e9 hq3 ht9 he hl) l_S_161 im_B_hasUnsettled se_B_hasUnsettled f_B_hasUnsettled k_B.1 (hH.bm hq3) rfl (Nat.le_of_ble_eq_true rfl) (by omega) (Nat.zero_le _) (Nat.zero_le _) d_S_commit_27 ?_
    refine zr_if_ne hX (tgt := 42) d_S_commit_30 (by decide) (fun h30 => ?_) (fun h30 => ?_)
    · skip
      exact zr_ise hX rfl d_S_commit_42 d_S_commit_45 d_S_commit_46 d_S_commit_49 (by omega) (Nat.le_of_ble_eq_true rfl) (Nat.le_refl _) (Nat.le_refl _) ⟨rfl, rfl⟩
    · skip
      refine zr_aload_n hX rfl d_S_commit_33 ?_
      refine zr_get hX k_S 2 (by decide) q105 rfl hH.x (zsf2 a2) d_S_commit_34 ?_
      refine zr_bipush (v := 24) hX rfl d_S_commit_37 ?_
      refine zr_icmp_lt hX (tgt := 50) d_S_commit_39 (by decide) (fun h39 => ?_) (fun h39 => ?_)
      · skip
        rcases hbad with e | e | e
        · exact absurd e h23
        · exact absurd e (zun1 h30)
        · exact absurd e (by rw [hR.i6]; exact zcm24 h39)
      · skip
        exact zr_ise hX rfl d_S_commit_42 d_S_commit_45 d_S_commit_46 d_S_commit_49 (by omega) (Nat.le_of_ble_eq_true rfl) (Nat.le_refl _) (Nat.le_refl _) ⟨rfl, rfl⟩
theorem zbf2n {b : Nat} {t h m x : Int32} (e : h = x) : ([.ref b, .int t, .int h, .int m, .null] : List Value)[2]? = some (.int x) := by subst e; rfl
theorem zbf2k {b k : Nat} {t h m x : Int32} (e : h = x) : ([.ref b, .int t, .int h, .int m, .ref k] : List Value)[2]? = some (.int x) := by subst e; rfl
theorem c_S_commit_n (g : zGt) (d : Nat) (hdd : 4 ≤ d) (G : zG) (w : zW) (wm : Nat) (u : zU) (cm : Nat) (hH : zHp w G) (hI : zIn w wm u cm) (p : Nat)  (hp : p < 4) (ho0 : ¬ s_M_isBranch u (nI p) = 0) (hx : Nat) (hhd : u.ar 8 p = nI hx) (hh : hx < 24) (e9 : Nat) (he : u.ar 14 p = nI e9) (hl : e9 ≤ 4096) (ho1 : ¬ s_M_isChanged u p hx = 0) (ho2 : ¬ 0 < zfor e9 (st_M_unsettled u p) 0) (ho3 : cm < 24) (hk : w.o 5 p = none) : zMet g y_S_commit b_S_commit 5 (some .int) [] d 2 4100 [.ref (w.a 0 0), .int (nI p)] G (zSq (.inl (some (.int (s_M_commit u p cm)))) w wm (t_M_commit u p cm) (cm + 1) 2 4100 G) := by
  refine zMet.of (by decide) (Nat.le_of_ble_eq_true rfl) rfl (fun X hX => ?_)
  have hR := hI.1
  have a2 : w.i 0 2 = nI cm := hR.1.2.1
  have hm := hR.hm
  obtain ⟨qb, hq3, hz, h7, ht9⟩ := hR.bra hp ho0
  have hxc : hx < cm := by
    obtain ⟨h9, e1, e2, -⟩ := ht9.2.2.1
    rw [(nI_eq (by omega) (by omega)).mp (hhd.symm.trans e1)]
    exact e2
  have hw5 : w.i 5 p = nI hx := ht9.1.trans hhd
  refine zr_aload_n hX rfl d_S_commit_0 ?_
  refine zr_iload_n hX rfl d_S_commit_1 ?_
  refine zr_pV hX (c_S_branchAt_1 g (d - 1) _ w hH (nI p) qb hz) l_S_84 im_S_branchAt se_S_branchAt f_S_branchAt k_S.1 hH.x rfl (Nat.le_of_ble_eq_true rfl) (by omega) (Nat.zero_le _) (Nat.zero_le _) d_S_commit_2 ?_
  refine zs_astore_n hX (by decide) rfl d_S_commit_5 ?_
  refine zr_aload_n hX rfl d_S_commit_6 ?_
  refine zr_ifnonnull hX (tgt := 18) (by decide) d_S_commit_7 ?_
  refine zr_aload_n hX rfl d_S_commit_18 ?_
  refine zr_aload_n hX rfl d_S_commit_19 ?_
  refine zr_pV hX (c_S_isChanged g (d - 1) (by omega) _ w u cm hH hR p hx qb hq3 ht9 hp hhd hh) l_S_157 im_S_isChanged se_S_isChanged f_S_isChanged k_S.1 hH.x rfl (Nat.le_of_ble_eq_true rfl) (by omega) (Nat.zero_le _) (Nat.zero_le _) d_S_commit_20 ?_
  refine zr_if_eq hX (tgt := 42) d_S_commit_23 (by decide) (fun h9 => absurd h9 ho1) (fun _ => ?_)
  refine zr_aload_n hX rfl d_S_commit_26 ?_
  refine zr_pV hX (c_hasUns g (d - 1) _ w u cm hH p qb e9 hq3 ht9 he hl) l_S_161 im_B_hasUnsettled se_B_hasUnsettled f_B_hasUnsettled k_B.1 (hH.bmn hq3 hk) rfl (Nat.le_of_ble_eq_true rfl) (by omega) (Nat.zero_le _) (Nat.zero_le _) d_S_commit_27 ?_
  refine zr_if_ne hX (tgt := 42) d_S_commit_30 (by decide) (fun h9 => absurd h9 (not_not_intro (zun2 ho2))) (fun _ => ?_)
  refine zr_aload_n hX rfl d_S_commit_33 ?_
  refine zr_get hX k_S 2 (by decide) q105 rfl hH.x (zsf2 a2) d_S_commit_34 ?_
  refine zr_bipush (v := 24) hX rfl d_S_commit_37 ?_
  refine zr_icmp_lt hX (tgt := 50) d_S_commit_39 (by decide) (fun _ => ?_) (fun h9 => absurd h9 (zq_ltT (a := cm) (b := 24) (by omega) (by decide)))
  refine zr_aload_n hX rfl d_S_commit_50 ?_
  refine zr_get hX k_S 2 (by decide) q105 rfl hH.x (zsf2 a2) d_S_commit_51 ?_
  refine zs_istore_n hX (by decide) rfl d_S_commit_54 ?_
  refine zr_aload_n hX rfl d_S_commit_55 ?_
  refine zr_get hX k_B 0 (by decide) q64 rfl (hH.bmn hq3 hk) rfl d_S_commit_56 ?_
  refine zr_iload_n hX rfl d_S_commit_59 ?_
  refine zr_eS0 hX (c_S_claimPending g (d - 1) (by omega) _ (w.a 4 p) cm (w.f 4 p) (hH.bj hq3)) l_S_165 st_S_claimPending f_S_claimPending rfl (Nat.le_of_ble_eq_true rfl) (by omega) (by omega) (by omega) d_S_commit_60 (fun Gn hGn => ?_)
  obtain ⟨f, rfl, hf⟩ := hGn
  have hE1 := (zEe.of (b := p) (u := zuc u 0 0) hR.iv ht9.2.2.2.1).clm hp ho3 4096 (Nat.le_refl _) f (fun k hk => by rw [hf k hk, if_pos hk])
  have hR1 : zRl (zWf w 4 p f) (zfor 4096 (st_M_commit p cm) (zuc u 0 0)) cm := hE1.rl (hR.ue (zUe.c0 u 0)) hp
  have hH1 := hH.wf4 hq3 f
  obtain ⟨x9, hx9, cx9⟩ := zancm hR ht9 (w1 := zWf w 4 p f) hR1 rfl
  refine zr_iconst (v := 1) hX rfl d_S_commit_63 ?_
  refine zr_iload_n hX rfl d_S_commit_64 ?_
  refine zr_ishl hX d_S_commit_65 ?_
  refine zr_aload_n hX rfl d_S_commit_66 ?_
  refine zr_aload_n hX rfl d_S_commit_67 ?_
  refine zr_get hX k_B 2 (by decide) q68 rfl (zput_k (zne (hH.bmn hq3 hk) (hH.bj hq3) rfl) (hH.bmn hq3 hk)) (zbf2n hw5) d_S_commit_68 ?_
  refine zr_pV hX (c_S_ancestorsOf_1 g (d - 1) (by omega) _ (zWf w 4 p f) _ cm hH1 hR1 hx hxc) l_S_172 im_S_ancestorsOf se_S_ancestorsOf f_S_ancestorsOf k_S.1 (zput_k (zne hH.x (hH.bj hq3) rfl) hH.x) rfl (Nat.le_of_ble_eq_true rfl) (by omega) (by omega) (by omega) d_S_commit_71 ?_
  refine zr_ior hX d_S_commit_74 ?_
  refine zr_aload_n hX rfl d_S_commit_75 ?_
  refine zr_aload_n hX rfl d_S_commit_76 ?_
  refine zr_get hX k_B 3 (by decide) q70 rfl (zput_k (zne (hH.bmn hq3 hk) (hH.bj hq3) rfl) (hH.bmn hq3 hk)) rfl d_S_commit_77 ?_
  refine zr_pV hX (cx9 g (d - 1) _ (by omega) hH1) l_S_172 im_S_ancestorsOf se_S_ancestorsOf f_S_ancestorsOf k_S.1 (zput_k (zne hH.x (hH.bj hq3) rfl) hH.x) rfl (Nat.le_of_ble_eq_true rfl) (by omega) (by omega) (by omega) d_S_commit_80 ?_
  refine zr_ior hX d_S_commit_83 ?_
  refine zs_istore hX (by decide) rfl d_S_commit_84 ?_
  refine zr_aload_n hX rfl d_S_commit_86 ?_
  refine zr_get hX k_S 1 (by decide) q104 rfl (zput_k (zne hH.x (hH.bj hq3) rfl) hH.x) rfl d_S_commit_87 ?_
  refine zr_iload_n hX rfl d_S_commit_90 ?_
  refine zr_new (fs := [.int 0, .int 0, .int 0, .null]) hX k_C q24 q34 q3 (zdef_C) (by omega) (by omega) d_S_commit_91 (fun q91 hn91 => ?_)
  refine zr_dup hX rfl d_S_commit_94 ?_
  refine zr_aload_n hX rfl d_S_commit_95 ?_
  refine zr_get hX k_B 2 (by decide) q68 rfl (zput_k (zfr hn91 (zput_k (zne (hH.bmn hq3 hk) (hH.bj hq3) rfl) (hH.bmn hq3 hk))) (zput_k (zne (hH.bmn hq3 hk) (hH.bj hq3) rfl) (hH.bmn hq3 hk))) (zbf2n hw5) d_S_commit_96 ?_
  refine zr_aload_n hX rfl d_S_commit_99 ?_
  refine zr_get hX k_B 3 (by decide) q70 rfl (zput_k (zfr hn91 (zput_k (zne (hH.bmn hq3 hk) (hH.bj hq3) rfl) (hH.bmn hq3 hk))) (zput_k (zne (hH.bmn hq3 hk) (hH.bj hq3) rfl) (hH.bmn hq3 hk))) rfl d_S_commit_100 ?_
  refine zr_iload hX rfl d_S_commit_103 ?_
  refine zr_aload_n hX rfl d_S_commit_105 ?_
  refine zr_get hX k_B 0 (by decide) q64 rfl (zput_k (zfr hn91 (zput_k (zne (hH.bmn hq3 hk) (hH.bj hq3) rfl) (hH.bmn hq3 hk))) (zput_k (zne (hH.bmn hq3 hk) (hH.bj hq3) rfl) (hH.bmn hq3 hk))) rfl d_S_commit_106 ?_
  refine zr_cloneJ hX (zput_k (zfr hn91 (zput_s _ _ _)) (zput_s _ _ _)) q526 q527 q528 q529 q530 q531 q532 (Nat.le_of_ble_eq_true rfl) (by omega) (by omega) (by omega) d_S_commit_109 d_S_commit_112 (fun q109 hn109 => ?_)
  refine zr_uI0 hX (c_C_init g (d - 1) (by omega) _ q91 q109 (nI hx) (w.i 6 p) (((1 <<< ((nI cm) &&& 31)) ||| (w.i 3 hx)) ||| x9) (zput_k (zfr hn109 (zput_s _ _ _)) (zput_s _ _ _))) l_S_51 rfl im_C_init f_C_init rfl (Nat.le_of_ble_eq_true rfl) (by omega) (by omega) (by omega) d_S_commit_115 ?_
  refine zr_aast hX k_C.1 rfl (zput_k (zfr hn91 (zput_k (zne hH.co (hH.bj hq3) rfl) hH.co)) (zput_k (zfr hn109 (zput_k (zfr hn91 (zput_k (zne hH.co (hH.bj hq3) rfl) hH.co)) (zput_k (zne hH.co (hH.bj hq3) rfl) hH.co))) (zput_k (zfr hn91 (zput_k (zne hH.co (hH.bj hq3) rfl) hH.co)) (zput_k (zne hH.co (hH.bj hq3) rfl) hH.co)))) (zput_s _ _ _) (zixN rfl (by omega) (by decide)) d_S_commit_118 ?_
  rw [show (nI cm : Int32).toNatClampNeg = cm from nI_clamp (by omega)]
  refine zr_aload_n hX rfl d_S_commit_119 ?_
  refine zr_dup hX rfl d_S_commit_120 ?_
  refine zr_get hX k_S 2 (by decide) q105 rfl (zput_k (zne hH.x hH.co rfl) (zput_k (zfr hn91 (zput_k (zne hH.x (hH.bj hq3) rfl) hH.x)) (zput_k (zfr hn109 (zput_k (zfr hn91 (zput_k (zne hH.x (hH.bj hq3) rfl) hH.x)) (zput_k (zne hH.x (hH.bj hq3) rfl) hH.x))) (zput_k (zfr hn91 (zput_k (zne hH.x (hH.bj hq3) rfl) hH.x)) (zput_k (zne hH.x (hH.bj hq3) rfl) hH.x))))) (zsf2 a2) d_S_commit_121 ?_
  refine zr_iconst (v := 1) hX rfl d_S_commit_124 ?_
  refine zn_iadd (a := cm) (b := 1) hX d_S_commit_125 ?_
  refine zr_put hX k_S 2 (by decide) q105 rfl rfl rfl rfl (Nat.le_of_ble_eq_true rfl) (zput_k (zne hH.x hH.co rfl) (zput_k (zfr hn91 (zput_k (zne hH.x (hH.bj hq3) rfl) hH.x)) (zput_k (zfr hn109 (zput_k (zfr hn91 (zput_k (zne hH.x (hH.bj hq3) rfl) hH.x)) (zput_k (zne hH.x (hH.bj hq3) rfl) hH.x))) (zput_k (zfr hn91 (zput_k (zne hH.x (hH.bj hq3) rfl) hH.x)) (zput_k (zne hH.x (hH.bj hq3) rfl) hH.x))))) d_S_commit_126 ?_
  refine zr_aload_n hX rfl d_S_commit_129 ?_
  refine zr_iload_n hX rfl d_S_commit_130 ?_
  refine zr_uV0 hX (c_B_restAt_n g (d - 1) _ qb (w.a 4 p) (w.i 4 p) (w.i 5 p) (w.i 6 p) (nI cm) (zput_k (zne (hH.bmn hq3 hk) hH.x rfl) (zput_k (zne (hH.bmn hq3 hk) hH.co rfl) (zput_k (zfr hn91 (zput_k (zne (hH.bmn hq3 hk) (hH.bj hq3) rfl) (hH.bmn hq3 hk))) (zput_k (zfr hn109 (zput_k (zfr hn91 (zput_k (zne (hH.bmn hq3 hk) (hH.bj hq3) rfl) (hH.bmn hq3 hk))) (zput_k (zne (hH.bmn hq3 hk) (hH.bj hq3) rfl) (hH.bmn hq3 hk)))) (zput_k (zfr hn91 (zput_k (zne (hH.bmn hq3 hk) (hH.bj hq3) rfl) (hH.bmn hq3 hk))) (zput_k (zne (hH.bmn hq3 hk) (hH.bj hq3) rfl) (hH.bmn hq3 hk)))))))) l_S_183 im_B_restAt se_B_restAt f_B_restAt k_B.1 (zput_k (zne (hH.bmn hq3 hk) hH.x rfl) (zput_k (zne (hH.bmn hq3 hk) hH.co rfl) (zput_k (zfr hn91 (zput_k (zne (hH.bmn hq3 hk) (hH.bj hq3) rfl) (hH.bmn hq3 hk))) (zput_k (zfr hn109 (zput_k (zfr hn91 (zput_k (zne (hH.bmn hq3 hk) (hH.bj hq3) rfl) (hH.bmn hq3 hk))) (zput_k (zne (hH.bmn hq3 hk) (hH.bj hq3) rfl) (hH.bmn hq3 hk)))) (zput_k (zfr hn91 (zput_k (zne (hH.bmn hq3 hk) (hH.bj hq3) rfl) (hH.bmn hq3 hk))) (zput_k (zne (hH.bmn hq3 hk) (hH.bj hq3) rfl) (hH.bmn hq3 hk))))))) rfl (Nat.le_of_ble_eq_true rfl) (by omega) (by omega) (by omega) d_S_commit_131 ?_
  refine zr_iload_n hX rfl d_S_commit_134 ?_
  exact zr_iret hX d_S_commit_135 (by have hz9 := zcm_n (q := q91) (aa := q109) (f := f) hI hH hp ho3 h7 hq3 hk ht9 hx9 hf hn91 hn109; rw [hw5, nI_clamp (by omega)] at hz9; exact hz9)
theorem c_S_commit_k (g : zGt) (d : Nat) (hdd : 4 ≤ d) (G : zG) (w : zW) (wm : Nat) (u : zU) (cm : Nat) (hH : zHp w G) (hI : zIn w wm u cm) (p : Nat)  (hp : p < 4) (ho0 : ¬ s_M_isBranch u (nI p) = 0) (hx : Nat) (hhd : u.ar 8 p = nI hx) (hh : hx < 24) (e9 : Nat) (he : u.ar 14 p = nI e9) (hl : e9 ≤ 4096) (ho1 : ¬ s_M_isChanged u p hx = 0) (ho2 : ¬ 0 < zfor e9 (st_M_unsettled u p) 0) (ho3 : cm < 24) (kq : Nat) (hk : w.o 5 p = some kq) : zMet g y_S_commit b_S_commit 5 (some .int) [] d 2 4100 [.ref (w.a 0 0), .int (nI p)] G (zSq (.inl (some (.int (s_M_commit u p cm)))) w wm (t_M_commit u p cm) (cm + 1) 2 4100 G) := by
  refine zMet.of (by decide) (Nat.le_of_ble_eq_true rfl) rfl (fun X hX => ?_)
  have hR := hI.1
  have a2 : w.i 0 2 = nI cm := hR.1.2.1
  have hm := hR.hm
  obtain ⟨qb, hq3, hz, h7, ht9⟩ := hR.bra hp ho0
  have hxc : hx < cm := by
    obtain ⟨h9, e1, e2, -⟩ := ht9.2.2.1
    rw [(nI_eq (by omega) (by omega)).mp (hhd.symm.trans e1)]
    exact e2
  have hw5 : w.i 5 p = nI hx := ht9.1.trans hhd
  refine zr_aload_n hX rfl d_S_commit_0 ?_
  refine zr_iload_n hX rfl d_S_commit_1 ?_
  refine zr_pV hX (c_S_branchAt_1 g (d - 1) _ w hH (nI p) qb hz) l_S_84 im_S_branchAt se_S_branchAt f_S_branchAt k_S.1 hH.x rfl (Nat.le_of_ble_eq_true rfl) (by omega) (Nat.zero_le _) (Nat.zero_le _) d_S_commit_2 ?_
  refine zs_astore_n hX (by decide) rfl d_S_commit_5 ?_
  refine zr_aload_n hX rfl d_S_commit_6 ?_
  refine zr_ifnonnull hX (tgt := 18) (by decide) d_S_commit_7 ?_
  refine zr_aload_n hX rfl d_S_commit_18 ?_
  refine zr_aload_n hX rfl d_S_commit_19 ?_
  refine zr_pV hX (c_S_isChanged g (d - 1) (by omega) _ w u cm hH hR p hx qb hq3 ht9 hp hhd hh) l_S_157 im_S_isChanged se_S_isChanged f_S_isChanged k_S.1 hH.x rfl (Nat.le_of_ble_eq_true rfl) (by omega) (Nat.zero_le _) (Nat.zero_le _) d_S_commit_20 ?_
  refine zr_if_eq hX (tgt := 42) d_S_commit_23 (by decide) (fun h9 => absurd h9 ho1) (fun _ => ?_)
  refine zr_aload_n hX rfl d_S_commit_26 ?_
  refine zr_pV hX (c_hasUns g (d - 1) _ w u cm hH p qb e9 hq3 ht9 he hl) l_S_161 im_B_hasUnsettled se_B_hasUnsettled f_B_hasUnsettled k_B.1 (hH.bmk hq3 hk) rfl (Nat.le_of_ble_eq_true rfl) (by omega) (Nat.zero_le _) (Nat.zero_le _) d_S_commit_27 ?_
  refine zr_if_ne hX (tgt := 42) d_S_commit_30 (by decide) (fun h9 => absurd h9 (not_not_intro (zun2 ho2))) (fun _ => ?_)
  refine zr_aload_n hX rfl d_S_commit_33 ?_
  refine zr_get hX k_S 2 (by decide) q105 rfl hH.x (zsf2 a2) d_S_commit_34 ?_
  refine zr_bipush (v := 24) hX rfl d_S_commit_37 ?_
  refine zr_icmp_lt hX (tgt := 50) d_S_commit_39 (by decide) (fun _ => ?_) (fun h9 => absurd h9 (zq_ltT (a := cm) (b := 24) (by omega) (by decide)))
  refine zr_aload_n hX rfl d_S_commit_50 ?_
  refine zr_get hX k_S 2 (by decide) q105 rfl hH.x (zsf2 a2) d_S_commit_51 ?_
  refine zs_istore_n hX (by decide) rfl d_S_commit_54 ?_
  refine zr_aload_n hX rfl d_S_commit_55 ?_
  refine zr_get hX k_B 0 (by decide) q64 rfl (hH.bmk hq3 hk) rfl d_S_commit_56 ?_
  refine zr_iload_n hX rfl d_S_commit_59 ?_
  refine zr_eS0 hX (c_S_claimPending g (d - 1) (by omega) _ (w.a 4 p) cm (w.f 4 p) (hH.bj hq3)) l_S_165 st_S_claimPending f_S_claimPending rfl (Nat.le_of_ble_eq_true rfl) (by omega) (by omega) (by omega) d_S_commit_60 (fun Gn hGn => ?_)
  obtain ⟨f, rfl, hf⟩ := hGn
  have hE1 := (zEe.of (b := p) (u := zuc u 0 0) hR.iv ht9.2.2.2.1).clm hp ho3 4096 (Nat.le_refl _) f (fun k hk => by rw [hf k hk, if_pos hk])
  have hR1 : zRl (zWf w 4 p f) (zfor 4096 (st_M_commit p cm) (zuc u 0 0)) cm := hE1.rl (hR.ue (zUe.c0 u 0)) hp
  have hH1 := hH.wf4 hq3 f
  obtain ⟨x9, hx9, cx9⟩ := zancm hR ht9 (w1 := zWf w 4 p f) hR1 rfl
  refine zr_iconst (v := 1) hX rfl d_S_commit_63 ?_
  refine zr_iload_n hX rfl d_S_commit_64 ?_
  refine zr_ishl hX d_S_commit_65 ?_
  refine zr_aload_n hX rfl d_S_commit_66 ?_
  refine zr_aload_n hX rfl d_S_commit_67 ?_
  refine zr_get hX k_B 2 (by decide) q68 rfl (zput_k (zne (hH.bmk hq3 hk) (hH.bj hq3) rfl) (hH.bmk hq3 hk)) (zbf2k hw5) d_S_commit_68 ?_
  refine zr_pV hX (c_S_ancestorsOf_1 g (d - 1) (by omega) _ (zWf w 4 p f) _ cm hH1 hR1 hx hxc) l_S_172 im_S_ancestorsOf se_S_ancestorsOf f_S_ancestorsOf k_S.1 (zput_k (zne hH.x (hH.bj hq3) rfl) hH.x) rfl (Nat.le_of_ble_eq_true rfl) (by omega) (by omega) (by omega) d_S_commit_71 ?_
  refine zr_ior hX d_S_commit_74 ?_
  refine zr_aload_n hX rfl d_S_commit_75 ?_
  refine zr_aload_n hX rfl d_S_commit_76 ?_
  refine zr_get hX k_B 3 (by decide) q70 rfl (zput_k (zne (hH.bmk hq3 hk) (hH.bj hq3) rfl) (hH.bmk hq3 hk)) rfl d_S_commit_77 ?_
  refine zr_pV hX (cx9 g (d - 1) _ (by omega) hH1) l_S_172 im_S_ancestorsOf se_S_ancestorsOf f_S_ancestorsOf k_S.1 (zput_k (zne hH.x (hH.bj hq3) rfl) hH.x) rfl (Nat.le_of_ble_eq_true rfl) (by omega) (by omega) (by omega) d_S_commit_80 ?_
  refine zr_ior hX d_S_commit_83 ?_
  refine zs_istore hX (by decide) rfl d_S_commit_84 ?_
  refine zr_aload_n hX rfl d_S_commit_86 ?_
  refine zr_get hX k_S 1 (by decide) q104 rfl (zput_k (zne hH.x (hH.bj hq3) rfl) hH.x) rfl d_S_commit_87 ?_
  refine zr_iload_n hX rfl d_S_commit_90 ?_
  refine zr_new (fs := [.int 0, .int 0, .int 0, .null]) hX k_C q24 q34 q3 (zdef_C) (by omega) (by omega) d_S_commit_91 (fun q91 hn91 => ?_)
  refine zr_dup hX rfl d_S_commit_94 ?_
  refine zr_aload_n hX rfl d_S_commit_95 ?_
  refine zr_get hX k_B 2 (by decide) q68 rfl (zput_k (zfr hn91 (zput_k (zne (hH.bmk hq3 hk) (hH.bj hq3) rfl) (hH.bmk hq3 hk))) (zput_k (zne (hH.bmk hq3 hk) (hH.bj hq3) rfl) (hH.bmk hq3 hk))) (zbf2k hw5) d_S_commit_96 ?_
  refine zr_aload_n hX rfl d_S_commit_99 ?_
  refine zr_get hX k_B 3 (by decide) q70 rfl (zput_k (zfr hn91 (zput_k (zne (hH.bmk hq3 hk) (hH.bj hq3) rfl) (hH.bmk hq3 hk))) (zput_k (zne (hH.bmk hq3 hk) (hH.bj hq3) rfl) (hH.bmk hq3 hk))) rfl d_S_commit_100 ?_
  refine zr_iload hX rfl d_S_commit_103 ?_
  refine zr_aload_n hX rfl d_S_commit_105 ?_
  refine zr_get hX k_B 0 (by decide) q64 rfl (zput_k (zfr hn91 (zput_k (zne (hH.bmk hq3 hk) (hH.bj hq3) rfl) (hH.bmk hq3 hk))) (zput_k (zne (hH.bmk hq3 hk) (hH.bj hq3) rfl) (hH.bmk hq3 hk))) rfl d_S_commit_106 ?_
  refine zr_cloneJ hX (zput_k (zfr hn91 (zput_s _ _ _)) (zput_s _ _ _)) q526 q527 q528 q529 q530 q531 q532 (Nat.le_of_ble_eq_true rfl) (by omega) (by omega) (by omega) d_S_commit_109 d_S_commit_112 (fun q109 hn109 => ?_)
  refine zr_uI0 hX (c_C_init g (d - 1) (by omega) _ q91 q109 (nI hx) (w.i 6 p) (((1 <<< ((nI cm) &&& 31)) ||| (w.i 3 hx)) ||| x9) (zput_k (zfr hn109 (zput_s _ _ _)) (zput_s _ _ _))) l_S_51 rfl im_C_init f_C_init rfl (Nat.le_of_ble_eq_true rfl) (by omega) (by omega) (by omega) d_S_commit_115 ?_
  refine zr_aast hX k_C.1 rfl (zput_k (zfr hn91 (zput_k (zne hH.co (hH.bj hq3) rfl) hH.co)) (zput_k (zfr hn109 (zput_k (zfr hn91 (zput_k (zne hH.co (hH.bj hq3) rfl) hH.co)) (zput_k (zne hH.co (hH.bj hq3) rfl) hH.co))) (zput_k (zfr hn91 (zput_k (zne hH.co (hH.bj hq3) rfl) hH.co)) (zput_k (zne hH.co (hH.bj hq3) rfl) hH.co)))) (zput_s _ _ _) (zixN rfl (by omega) (by decide)) d_S_commit_118 ?_
  rw [show (nI cm : Int32).toNatClampNeg = cm from nI_clamp (by omega)]
  refine zr_aload_n hX rfl d_S_commit_119 ?_
  refine zr_dup hX rfl d_S_commit_120 ?_
  refine zr_get hX k_S 2 (by decide) q105 rfl (zput_k (zne hH.x hH.co rfl) (zput_k (zfr hn91 (zput_k (zne hH.x (hH.bj hq3) rfl) hH.x)) (zput_k (zfr hn109 (zput_k (zfr hn91 (zput_k (zne hH.x (hH.bj hq3) rfl) hH.x)) (zput_k (zne hH.x (hH.bj hq3) rfl) hH.x))) (zput_k (zfr hn91 (zput_k (zne hH.x (hH.bj hq3) rfl) hH.x)) (zput_k (zne hH.x (hH.bj hq3) rfl) hH.x))))) (zsf2 a2) d_S_commit_121 ?_
  refine zr_iconst (v := 1) hX rfl d_S_commit_124 ?_
  refine zn_iadd (a := cm) (b := 1) hX d_S_commit_125 ?_
  refine zr_put hX k_S 2 (by decide) q105 rfl rfl rfl rfl (Nat.le_of_ble_eq_true rfl) (zput_k (zne hH.x hH.co rfl) (zput_k (zfr hn91 (zput_k (zne hH.x (hH.bj hq3) rfl) hH.x)) (zput_k (zfr hn109 (zput_k (zfr hn91 (zput_k (zne hH.x (hH.bj hq3) rfl) hH.x)) (zput_k (zne hH.x (hH.bj hq3) rfl) hH.x))) (zput_k (zfr hn91 (zput_k (zne hH.x (hH.bj hq3) rfl) hH.x)) (zput_k (zne hH.x (hH.bj hq3) rfl) hH.x))))) d_S_commit_126 ?_
  refine zr_aload_n hX rfl d_S_commit_129 ?_
  refine zr_iload_n hX rfl d_S_commit_130 ?_
  refine zr_uV0 hX (c_B_restAt_k g (d - 1) (by omega) _ qb (w.a 4 p) (w.i 4 p) (w.i 5 p) (w.i 6 p) (nI cm) kq (w.a 10 p) (w.a 11 p) (w.a 12 p) (w.a 13 p) (w.a 14 p) (w.i 7 p) (w.i 8 p) (zput_k (zne (hH.bmk hq3 hk) hH.x rfl) (zput_k (zne (hH.bmk hq3 hk) hH.co rfl) (zput_k (zfr hn91 (zput_k (zne (hH.bmk hq3 hk) (hH.bj hq3) rfl) (hH.bmk hq3 hk))) (zput_k (zfr hn109 (zput_k (zfr hn91 (zput_k (zne (hH.bmk hq3 hk) (hH.bj hq3) rfl) (hH.bmk hq3 hk))) (zput_k (zne (hH.bmk hq3 hk) (hH.bj hq3) rfl) (hH.bmk hq3 hk)))) (zput_k (zfr hn91 (zput_k (zne (hH.bmk hq3 hk) (hH.bj hq3) rfl) (hH.bmk hq3 hk))) (zput_k (zne (hH.bmk hq3 hk) (hH.bj hq3) rfl) (hH.bmk hq3 hk))))))) (zput_k (zne (hH.km hk) hH.x rfl) (zput_k (zne (hH.km hk) hH.co rfl) (zput_k (zfr hn91 (zput_k (zne (hH.km hk) (hH.bj hq3) rfl) (hH.km hk))) (zput_k (zfr hn109 (zput_k (zfr hn91 (zput_k (zne (hH.km hk) (hH.bj hq3) rfl) (hH.km hk))) (zput_k (zne (hH.km hk) (hH.bj hq3) rfl) (hH.km hk)))) (zput_k (zfr hn91 (zput_k (zne (hH.km hk) (hH.bj hq3) rfl) (hH.km hk))) (zput_k (zne (hH.km hk) (hH.bj hq3) rfl) (hH.km hk)))))))) l_S_183 im_B_restAt se_B_restAt f_B_restAt k_B.1 (zput_k (zne (hH.bmk hq3 hk) hH.x rfl) (zput_k (zne (hH.bmk hq3 hk) hH.co rfl) (zput_k (zfr hn91 (zput_k (zne (hH.bmk hq3 hk) (hH.bj hq3) rfl) (hH.bmk hq3 hk))) (zput_k (zfr hn109 (zput_k (zfr hn91 (zput_k (zne (hH.bmk hq3 hk) (hH.bj hq3) rfl) (hH.bmk hq3 hk))) (zput_k (zne (hH.bmk hq3 hk) (hH.bj hq3) rfl) (hH.bmk hq3 hk)))) (zput_k (zfr hn91 (zput_k (zne (hH.bmk hq3 hk) (hH.bj hq3) rfl) (hH.bmk hq3 hk))) (zput_k (zne (hH.bmk hq3 hk) (hH.bj hq3) rfl) (hH.bmk hq3 hk))))))) rfl (Nat.le_of_ble_eq_true rfl) (by omega) (by omega) (by omega) d_S_commit_131 ?_
  refine zr_iload_n hX rfl d_S_commit_134 ?_
  exact zr_iret hX d_S_commit_135 (by have hz9 := zcm_k (q := q91) (aa := q109) (f := f) hI hH hp ho3 h7 hq3 hk ht9 hx9 hf hn91 hn109; rw [hw5, nI_clamp (by omega)] at hz9; exact hz9)
