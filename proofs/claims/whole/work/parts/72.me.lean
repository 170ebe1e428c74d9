theorem c_S_merge_bad (g : zGt) (d : Nat) (hdd : 6 ≤ d) (G : zG) (w : zW) (u : zU) (cm : Nat) (hH : zHp w G) (hR : zRl w u cm) (p c : Int32)  (hbad : s_M_isBranch u p = 0 ∨ s_M_isCommit u c = 0) : zMet g y_S_merge b_S_merge 7 (some .int) [] d 1 6 [.ref (w.a 0 0), .int p, .int c] G (zDx "java/lang/IllegalArgumentException" G) := by
  refine zMet.of (by decide) (Nat.le_of_ble_eq_true rfl) rfl (fun X hX => ?_)
  refine zr_aload_n hX rfl d_S_merge_0 ?_
  refine zr_iload_n hX rfl d_S_merge_1 ?_
  by_cases k2 : s_M_isBranch u p = 0
  · skip
    refine zr_pV hX (c_S_branchAt_0 g (d - 1) _ w u cm hH hR p k2) l_S_84 im_S_branchAt se_S_branchAt f_S_branchAt k_S.1 hH.x rfl (Nat.le_of_ble_eq_true rfl) (by omega) (Nat.zero_le _) (Nat.zero_le _) d_S_merge_2 ?_
    refine zs_astore_nN hX (by decide) rfl d_S_merge_5 ?_
    refine zr_aload_n hX rfl d_S_merge_6 ?_
    refine zr_iload_n hX rfl d_S_merge_7 ?_
    by_cases c8 : s_M_isCommit u c = 0
    · skip
      refine zr_pV hX (c_S_commitAt_0 g (d - 1) _ w u cm hH hR c c8) l_S_77 im_S_commitAt se_S_commitAt f_S_commitAt k_S.1 hH.x rfl (Nat.le_of_ble_eq_true rfl) (by omega) (Nat.zero_le _) (Nat.zero_le _) d_S_merge_8 ?_
      refine zs_astoreN hX (by decide) rfl d_S_merge_11 ?_
      refine zr_aload_nN hX rfl d_S_merge_13 ?_
      refine zr_ifnullN hX (tgt := 22) (by decide) d_S_merge_14 ?_
      exact zr_iae hX rfl d_S_merge_22 d_S_merge_25 d_S_merge_26 d_S_merge_29 (by omega) (Nat.le_of_ble_eq_true rfl) (Nat.le_refl _) (Nat.le_refl _) ⟨rfl, rfl⟩
    · skip
      obtain ⟨c9, qc, hc9, ec9, hqc, hzc⟩ := hR.cmt1 c8
      refine zr_pV hX (c_S_commitAt_1 g (d - 1) _ w hH c qc hzc) l_S_77 im_S_commitAt se_S_commitAt f_S_commitAt k_S.1 hH.x rfl (Nat.le_of_ble_eq_true rfl) (by omega) (Nat.zero_le _) (Nat.zero_le _) d_S_merge_8 ?_
      refine zs_astore hX (by decide) rfl d_S_merge_11 ?_
      refine zr_aload_nN hX rfl d_S_merge_13 ?_
      refine zr_ifnullN hX (tgt := 22) (by decide) d_S_merge_14 ?_
      exact zr_iae hX rfl d_S_merge_22 d_S_merge_25 d_S_merge_26 d_S_merge_29 (by omega) (Nat.le_of_ble_eq_true rfl) (Nat.le_refl _) (Nat.le_refl _) ⟨rfl, rfl⟩
  · skip
    obtain ⟨b9, qb, hb9, eb9, hq3, hz, h79, ht9⟩ := hR.bra1 k2
    refine zr_pV hX (c_S_branchAt_1 g (d - 1) _ w hH p qb hz) l_S_84 im_S_branchAt se_S_branchAt f_S_branchAt k_S.1 hH.x rfl (Nat.le_of_ble_eq_true rfl) (by omega) (Nat.zero_le _) (Nat.zero_le _) d_S_merge_2 ?_
    refine zs_astore_n hX (by decide) rfl d_S_merge_5 ?_
    refine zr_aload_n hX rfl d_S_merge_6 ?_
    refine zr_iload_n hX rfl d_S_merge_7 ?_
    by_cases c8 : s_M_isCommit u c = 0
    · skip
      refine zr_pV hX (c_S_commitAt_0 g (d - 1) _ w u cm hH hR c c8) l_S_77 im_S_commitAt se_S_commitAt f_S_commitAt k_S.1 hH.x rfl (Nat.le_of_ble_eq_true rfl) (by omega) (Nat.zero_le _) (Nat.zero_le _) d_S_merge_8 ?_
      refine zs_astoreN hX (by decide) rfl d_S_merge_11 ?_
      refine zr_aload_n hX rfl d_S_merge_13 ?_
      refine zr_ifnull hX d_S_merge_14 ?_
      refine zr_aloadN hX rfl d_S_merge_17 ?_
      refine zr_ifnonnullN hX d_S_merge_19 ?_
      exact zr_iae hX rfl d_S_merge_22 d_S_merge_25 d_S_merge_26 d_S_merge_29 (by omega) (Nat.le_of_ble_eq_true rfl) (Nat.le_refl _) (Nat.le_refl _) ⟨rfl, rfl⟩
    · skip
      obtain ⟨c9, qc, hc9, ec9, hqc, hzc⟩ := hR.cmt1 c8
      refine zr_pV hX (c_S_commitAt_1 g (d - 1) _ w hH c qc hzc) l_S_77 im_S_commitAt se_S_commitAt f_S_commitAt k_S.1 hH.x rfl (Nat.le_of_ble_eq_true rfl) (by omega) (Nat.zero_le _) (Nat.zero_le _) d_S_merge_8 ?_
      refine zs_astore hX (by decide) rfl d_S_merge_11 ?_
      refine zr_aload_n hX rfl d_S_merge_13 ?_
      refine zr_ifnull hX d_S_merge_14 ?_
      refine zr_aload hX rfl d_S_merge_17 ?_
      refine zr_ifnonnull hX (tgt := 30) (by decide) d_S_merge_19 ?_
      rcases hbad with e | e
      · exact absurd e k2
      · exact absurd e c8
theorem c_S_merge_two (g : zGt) (d : Nat) (hdd : 6 ≤ d) (G : zG) (w : zW) (u : zU) (cm : Nat) (hH : zHp w G) (hR : zRl w u cm) (p c : Nat)  (hp : p < 4) (hc9 : c < 24) (ho0 : ¬ s_M_isBranch u (nI p) = 0) (ho1 : ¬ s_M_isCommit u (nI c) = 0) (hx : Nat) (hhd : u.ar 8 p = nI hx) (hh : hx < 24) (hbad : ¬ s_M_isChanged u p hx = 0 ∨ ((s_M_ancestors u (1 <<< ((nI hx) &&& 31)) cm) >>> ((nI c) &&& 31)) &&& 1 = 1) : zMet g y_S_merge b_S_merge 7 (some .int) [] d 1 6 [.ref (w.a 0 0), .int (nI p), .int (nI c)] G (zDx "java/lang/IllegalStateException" G) := by
  refine zMet.of (by decide) (Nat.le_of_ble_eq_true rfl) rfl (fun X hX => ?_)
  have hm := hR.hm
  obtain ⟨qb, hq3, hz, h7, ht9⟩ := hR.bra hp ho0
  obtain ⟨qc, hcc, hqc, hzc, hcr⟩ := hR.cmt hc9 ho1
  have hxc : hx < cm := by
    obtain ⟨h9, e1, e2, -⟩ := ht9.2.2.1
    rw [(nI_eq (by omega) (by omega)).mp (hhd.symm.trans e1)]
    exact e2
  have hw5 : w.i 5 p = nI hx := ht9.1.trans hhd
  have han : zbt (s_M_ancestors u (1 <<< (nI hx &&& 31)) cm) c = zbt (w.i 3 hx) c := by
    have hz9 := hR.hi.anc1 (c := hx) hxc (k := c) (by omega)
    cases h1 : zbt (w.i 3 hx) c with
    | true => exact hz9.mpr h1
    | false =>
      cases h2 : zbt (s_M_ancestors u (1 <<< (nI hx &&& 31)) cm) c with
      | false => rfl
      | true => rw [hz9.mp h2] at h1; cases h1
  refine zr_aload_n hX rfl d_S_merge_0 ?_
  refine zr_iload_n hX rfl d_S_merge_1 ?_
  refine zr_pV hX (c_S_branchAt_1 g (d - 1) _ w hH (nI p) qb hz) l_S_84 im_S_branchAt se_S_branchAt f_S_branchAt k_S.1 hH.x rfl (Nat.le_of_ble_eq_true rfl) (by omega) (Nat.zero_le _) (Nat.zero_le _) d_S_merge_2 ?_
  refine zs_astore_n hX (by decide) rfl d_S_merge_5 ?_
  refine zr_aload_n hX rfl d_S_merge_6 ?_
  refine zr_iload_n hX rfl d_S_merge_7 ?_
  refine zr_pV hX (c_S_commitAt_1 g (d - 1) _ w hH (nI c) qc hzc) l_S_77 im_S_commitAt se_S_commitAt f_S_commitAt k_S.1 hH.x rfl (Nat.le_of_ble_eq_true rfl) (by omega) (Nat.zero_le _) (Nat.zero_le _) d_S_merge_8 ?_
  refine zs_astore hX (by decide) rfl d_S_merge_11 ?_
  refine zr_aload_n hX rfl d_S_merge_13 ?_
  refine zr_ifnull hX d_S_merge_14 ?_
  refine zr_aload hX rfl d_S_merge_17 ?_
  refine zr_ifnonnull hX (tgt := 30) (by decide) d_S_merge_19 ?_
  refine zr_aload_n hX rfl d_S_merge_30 ?_
  refine zr_aload_n hX rfl d_S_merge_31 ?_
  refine zr_pV hX (c_S_isChanged g (d - 1) (by omega) _ w u cm hH hR p hx qb hq3 ht9 hp hhd hh) l_S_157 im_S_isChanged se_S_isChanged f_S_isChanged k_S.1 hH.x rfl (Nat.le_of_ble_eq_true rfl) (by omega) (Nat.zero_le _) (Nat.zero_le _) d_S_merge_32 ?_
  refine zr_if_ne hX (tgt := 53) d_S_merge_35 (by decide) (fun h35 => ?_) (fun h35 => ?_)
  · skip
    exact zr_ise hX rfl d_S_merge_53 d_S_merge_56 d_S_merge_57 d_S_merge_60 (by omega) (Nat.le_of_ble_eq_true rfl) (Nat.le_refl _) (Nat.le_refl _) ⟨rfl, rfl⟩
  · skip
    refine zr_aload_n hX rfl d_S_merge_38 ?_
    refine zr_aload_n hX rfl d_S_merge_39 ?_
    refine zr_get hX k_B 2 (by decide) q68 rfl (hH.bm hq3) (zbf2 hw5) d_S_merge_40 ?_
    refine zr_pV hX (c_S_ancestorsOf_1 g (d - 1) (by omega) _ w u cm hH hR hx hxc) l_S_172 im_S_ancestorsOf se_S_ancestorsOf f_S_ancestorsOf k_S.1 hH.x rfl (Nat.le_of_ble_eq_true rfl) (by omega) (Nat.zero_le _) (Nat.zero_le _) d_S_merge_43 ?_
    refine zr_iload_n hX rfl d_S_merge_46 ?_
    refine zr_pS hX (c_S_contains g (d - 1) _ (w.i 3 hx) (nI c)) l_S_186 st_S_contains f_S_contains rfl (Nat.le_of_ble_eq_true rfl) (by omega) (Nat.zero_le _) (Nat.zero_le _) d_S_merge_47 ?_
    refine zr_if_eq hX (tgt := 61) d_S_merge_50 (by decide) (fun h50 => ?_) (fun h50 => ?_)
    · skip
      rcases hbad with e | e
      · exact absurd e (not_not_intro h35)
      · exact absurd e (fun z9 => zcon0 h50 ((zbt_t (by omega)).mpr (han.symm.trans ((zbt_t (by omega)).mp z9))))
    · skip
      exact zr_ise hX rfl d_S_merge_53 d_S_merge_56 d_S_merge_57 d_S_merge_60 (by omega) (Nat.le_of_ble_eq_true rfl) (Nat.le_refl _) (Nat.le_refl _) ⟨rfl, rfl⟩
theorem c_S_merge_ok (g : zGt) (d : Nat) (hdd : 60 ≤ d) (G : zG) (w : zW) (wm : Nat) (u : zU) (cm : Nat) (hH : zHp w G) (hI : zIn w wm u cm) (p c : Nat)  (hp : p < 4) (hc9 : c < 24) (ho0 : ¬ s_M_isBranch u (nI p) = 0) (ho1 : ¬ s_M_isCommit u (nI c) = 0) (hx : Nat) (hhd : u.ar 8 p = nI hx) (hh : hx < 24) (ho2 : s_M_isChanged u p hx = 0) (ho3 : ¬ ((s_M_ancestors u (1 <<< ((nI hx) &&& 31)) cm) >>> ((nI c) &&& 31)) &&& 1 = 1) : zMet g y_S_merge b_S_merge 7 (some .int) [] d ((if w.o 5 p = none then 6 else 0) + 2 * (max wm (zbs (fun n k => u.ar 1 (4096 * n + k)) (fun s c => s_M_nearestOf u s (nI c) cm) cm 24 (1 <<< (nI hx &&& 31)) c).2 - wm)) ((if w.o 5 p = none then 20487 else 0) + 4097 * (max wm (zbs (fun n k => u.ar 1 (4096 * n + k)) (fun s c => s_M_nearestOf u s (nI c) cm) cm 24 (1 <<< (nI hx &&& 31)) c).2 - wm)) [.ref (w.a 0 0), .int (nI p), .int (nI c)] G (zSq (.inl (some (.int ((t_M_merge (zub u (zbs (fun n k => u.ar 1 (4096 * n + k)) (fun s c => s_M_nearestOf u s (nI c) cm) cm 24 (1 <<< (nI hx &&& 31)) c).1) p c).ar 14 p)))) w wm (t_M_merge (zub u (zbs (fun n k => u.ar 1 (4096 * n + k)) (fun s c => s_M_nearestOf u s (nI c) cm) cm 24 (1 <<< (nI hx &&& 31)) c).1) p c) cm ((if w.o 5 p = none then 6 else 0) + 2 * (max wm (zbs (fun n k => u.ar 1 (4096 * n + k)) (fun s c => s_M_nearestOf u s (nI c) cm) cm 24 (1 <<< (nI hx &&& 31)) c).2 - wm)) ((if w.o 5 p = none then 20487 else 0) + 4097 * (max wm (zbs (fun n k => u.ar 1 (4096 * n + k)) (fun s c => s_M_nearestOf u s (nI c) cm) cm 24 (1 <<< (nI hx &&& 31)) c).2 - wm)) G) := by
  refine zMet.of (by decide) (Nat.le_of_ble_eq_true rfl) rfl (fun X hX => ?_)
  have hR := hI.1
  have hm := hR.hm
  obtain ⟨qb, hq3, hz, h7, ht9⟩ := hR.bra hp ho0
  obtain ⟨qc, hcc, hqc, hzc, hcr⟩ := hR.cmt hc9 ho1
  have hxc : hx < cm := by
    obtain ⟨h9, e1, e2, -⟩ := ht9.2.2.1
    rw [(nI_eq (by omega) (by omega)).mp (hhd.symm.trans e1)]
    exact e2
  have hw5 : w.i 5 p = nI hx := ht9.1.trans hhd
  have han : zbt (s_M_ancestors u (1 <<< (nI hx &&& 31)) cm) c = zbt (w.i 3 hx) c := by
    have hz9 := hR.hi.anc1 (c := hx) hxc (k := c) (by omega)
    cases h1 : zbt (w.i 3 hx) c with
    | true => exact hz9.mpr h1
    | false =>
      cases h2 : zbt (s_M_ancestors u (1 <<< (nI hx &&& 31)) cm) c with
      | false => rfl
      | true => rw [hz9.mp h2] at h1; cases h1
  have hnb : ¬ zbt (w.i 3 hx) c = true := fun z9 => ho3 ((zbt_t (by omega)).mpr (han.trans z9))
  have hct : s_S_contains (w.i 3 hx) (nI c) = 0 := by
    unfold s_S_contains
    rw [if_neg (fun z9 => hnb ((zbt_t (by omega)).mp z9))]
  have hne : c ≠ hx := fun z9 => by
    rw [z9] at hnb
    exact hnb (hR.hi.self hxc)
  have hSb : ∀ k, k < 32 → zbt (1 <<< (nI hx &&& 31)) k = true → k < cm ∧ ¬ zbt (w.i 3 k) c = true := fun k hk hz9 => by
    rw [zbt_1 (by omega) hk] at hz9
    rw [of_decide_eq_true hz9]
    exact ⟨hxc, hnb⟩
  refine zr_aload_n hX rfl d_S_merge_0 ?_
  refine zr_iload_n hX rfl d_S_merge_1 ?_
  refine zr_pV hX (c_S_branchAt_1 g (d - 1) _ w hH (nI p) qb hz) l_S_84 im_S_branchAt se_S_branchAt f_S_branchAt k_S.1 hH.x rfl (Nat.le_of_ble_eq_true rfl) (by omega) (Nat.zero_le _) (Nat.zero_le _) d_S_merge_2 ?_
  refine zs_astore_n hX (by decide) rfl d_S_merge_5 ?_
  refine zr_aload_n hX rfl d_S_merge_6 ?_
  refine zr_iload_n hX rfl d_S_merge_7 ?_
  refine zr_pV hX (c_S_commitAt_1 g (d - 1) _ w hH (nI c) qc hzc) l_S_77 im_S_commitAt se_S_commitAt f_S_commitAt k_S.1 hH.x rfl (Nat.le_of_ble_eq_true rfl) (by omega) (Nat.zero_le _) (Nat.zero_le _) d_S_merge_8 ?_
  refine zs_astore hX (by decide) rfl d_S_merge_11 ?_
  refine zr_aload_n hX rfl d_S_merge_13 ?_
  refine zr_ifnull hX d_S_merge_14 ?_
  refine zr_aload hX rfl d_S_merge_17 ?_
  refine zr_ifnonnull hX (tgt := 30) (by decide) d_S_merge_19 ?_
  refine zr_aload_n hX rfl d_S_merge_30 ?_
  refine zr_aload_n hX rfl d_S_merge_31 ?_
  refine zr_pV hX (c_S_isChanged g (d - 1) (by omega) _ w u cm hH hR p hx qb hq3 ht9 hp hhd hh) l_S_157 im_S_isChanged se_S_isChanged f_S_isChanged k_S.1 hH.x rfl (Nat.le_of_ble_eq_true rfl) (by omega) (Nat.zero_le _) (Nat.zero_le _) d_S_merge_32 ?_
  refine zr_if_ne hX (tgt := 53) d_S_merge_35 (by decide) (fun h9 => absurd h9 (not_not_intro ho2)) (fun _ => ?_)
  refine zr_aload_n hX rfl d_S_merge_38 ?_
  refine zr_aload_n hX rfl d_S_merge_39 ?_
  refine zr_get hX k_B 2 (by decide) q68 rfl (hH.bm hq3) (zbf2 hw5) d_S_merge_40 ?_
  refine zr_pV hX (c_S_ancestorsOf_1 g (d - 1) (by omega) _ w u cm hH hR hx hxc) l_S_172 im_S_ancestorsOf se_S_ancestorsOf f_S_ancestorsOf k_S.1 hH.x rfl (Nat.le_of_ble_eq_true rfl) (by omega) (Nat.zero_le _) (Nat.zero_le _) d_S_merge_43 ?_
  refine zr_iload_n hX rfl d_S_merge_46 ?_
  refine zr_pS hX (c_S_contains g (d - 1) _ (w.i 3 hx) (nI c)) l_S_186 st_S_contains f_S_contains rfl (Nat.le_of_ble_eq_true rfl) (by omega) (Nat.zero_le _) (Nat.zero_le _) d_S_merge_47 ?_
  refine zr_if_eq hX (tgt := 61) d_S_merge_50 (by decide) (fun _ => ?_) (fun h9 => absurd h9 (not_not_intro hct))
  refine zr_aload_n hX rfl d_S_merge_61 ?_
  refine zr_iconst (v := 1) hX rfl d_S_merge_62 ?_
  refine zr_aload_n hX rfl d_S_merge_63 ?_
  refine zr_get hX k_B 2 (by decide) q68 rfl (hH.bm hq3) (zbf2 hw5) d_S_merge_64 ?_
  refine zr_ishl hX d_S_merge_67 ?_
  refine zr_iload_n hX rfl d_S_merge_68 ?_
  refine zr_iconst (v := 0) hX rfl d_S_merge_69 ?_
  have hB := c_S_baseOf g u cm 24 (d - 1) G w wm 0 c (1 <<< (nI hx &&& 31)) (by omega) hH hR hI.2.1 (Nat.zero_le _) (by omega) (by omega) hcc hSb ⟨hx, by omega, by rw [zbt_1 (by omega) (by omega)]; exact decide_eq_true rfl⟩
  rw [Nat.zero_add] at hB
  obtain ⟨z9, hz9⟩ : ∃ z9, z9 = zbs (fun n k => u.ar 1 (4096 * n + k)) (fun s c => s_M_nearestOf u s (nI c) cm) cm 24 (1 <<< (nI hx &&& 31)) c := ⟨_, rfl⟩
  rw [← hz9] at hB
  refine zr_eV1 hX hB l_S_189 im_S_baseOf se_S_baseOf f_S_baseOf k_S.1 hH.x rfl (Nat.le_of_ble_eq_true rfl) (by omega) (by rw [hz9]; omega) (by rw [hz9]; omega) d_S_merge_70 (fun v9 G1 hG1 => ?_)
  obtain ⟨w1, qr, rfl, hH1, f1, b1, o1, r1, v1⟩ := hG1
  have q31 : w1.o 3 p = some qb := by rw [b1.1 3 (by decide)]; exact hq3
  have qc1 : w1.o 1 c = some qc := by rw [b1.1 1 (by decide)]; exact hqc
  have k51 : w1.o 5 p = w.o 5 p := by rw [b1.1 5 (by decide)]
  refine zs_astore hX (by decide) rfl d_S_merge_73 ?_
  refine zr_aload_n hX rfl d_S_merge_75 ?_
  have cF := c_fresh g (d - 1) (by omega) G1 w1 p qb hH1 q31
  rw [k51] at cF
  refine zr_eV1 hX cF l_S_193 im_B_freshConflicts se_B_freshConflicts f_B_freshConflicts k_B.1 (hH1.bm q31) rfl (Nat.le_of_ble_eq_true rfl) (by omega) (by rw [hz9]; omega) (by rw [hz9]; omega) d_S_merge_76 (fun v8 G2 hG2 => ?_)
  obtain ⟨w2, kq, rfl, hH2, f2, o2, e72, e82, fw⟩ := hG2
  have q32 : w2.o 3 p = some qb := (fw.1 3 p (by omega)).trans q31
  have qc2 : w2.o 1 c = some qc := (fw.1 1 c (by omega)).trans qc1
  have qr2 : w2.o 6 0 = some qr := (fw.1 6 0 (by omega)).trans o1
  have x2 : w2.a 0 0 = w.a 0 0 := (fw.2.1 0 0 (by omega)).trans b1.x
  refine zs_astore hX (by decide) rfl d_S_merge_79 ?_
  refine zr_aload_n hX rfl d_S_merge_81 ?_
  refine zr_aload_n hX rfl d_S_merge_82 ?_
  refine zr_get hX k_B 0 (by decide) q64 rfl (hH2.bmk q32 o2) rfl d_S_merge_83 ?_
  refine zr_aload hX rfl d_S_merge_86 ?_
  refine zr_get hX k_C 3 (by decide) q46 rfl (hH2.cmo qc2) rfl d_S_merge_88 ?_
  refine zr_aload hX rfl d_S_merge_91 ?_
  refine zr_get hX k_R 0 (by decide) q555 rfl (hH2.rm qr2) rfl d_S_merge_93 ?_
  refine zr_aload hX rfl d_S_merge_96 ?_
  have ff2 : w2.f = w.f := fw.2.2.2.1.trans b1.2.2.2.1
  have cM := c_S_mergeCells g (d - 1) (by omega) G2 w2 (zum (zub u z9.1) p c) p c qb qc qr kq hp hc9 hH2 q32 qc2 qr2 o2 e72 e82 (by
      rw [ff2]
      refine hcr.u (fun k hk => ?_)
      rw [zum_n _ p c (by decide) (by decide), zum_n _ p c (by decide) (by decide)]
      exact ⟨congrFun (zuaj _ _ (by decide)) _, congrFun (zuaj _ _ (by decide)) _⟩) (fun k hk => by
      rw [fw.2.2.2.2 7 0 (by omega), v1 k hk, zum_n _ p c (by decide) (by decide)]
      exact (congrFun (zuas _ _ _) k).symm) (fun k hk => by
      rw [fw.2.2.2.2 9 0 (by omega), b1.2.2.2.2.1 9 (by decide), zum_n _ p c (by decide) (by decide)]
      exact (hR.2.2.1.2.2.1 k hk).1.trans (congrFun (zuaj _ _ (by decide)) k).symm) (zMg0 hR ht9 (by rw [ff2]) z9.1 _)
  rw [x2] at cM
  have hx2 := hH2.x
  rw [x2] at hx2
  refine zr_eV0 hX cM l_S_200 im_S_mergeCells se_S_mergeCells f_S_mergeCells k_S.1 hx2 rfl (Nat.le_of_ble_eq_true rfl) (by omega) (by rw [hz9]; omega) (by rw [hz9]; omega) d_S_merge_98 (fun G3 hG3 => ?_)
  obtain ⟨w3, e, hH3, f3, m3, hM, e73, e83⟩ := hG3
  have q33 : w3.o 3 p = some qb := by rw [m3.1]; exact q32
  have o3 : w3.o 5 p = some kq := by rw [m3.1]; exact o2
  have hb3 := hH3.bmk q33 o3
  rw [m3.2.1, m3.2.2.1 4 p (by omega), m3.2.2.1 5 p (by omega), m3.2.2.1 6 p (by omega), fw.2.1 4 p (by omega), fw.2.2.1 4 p (by omega), fw.2.2.1 5 p (by omega), fw.2.2.1 6 p (by omega), b1.2.1 4 (by decide), b1.2.2.1] at hb3
  have hk3 := hH3.km o3
  rw [e73, e83] at hk3
  refine zr_aload_n hX rfl d_S_merge_101 ?_
  refine zr_iload_n hX rfl d_S_merge_102 ?_
  refine zr_put hX k_B 3 (by decide) q70 rfl rfl rfl rfl (Nat.le_of_ble_eq_true rfl) hb3 d_S_merge_103 ?_
  refine zr_aload hX rfl d_S_merge_106 ?_
  refine zr_get hX k_K 5 (by decide) q593 rfl (zput_k (zne hk3 hb3 rfl) hk3) rfl d_S_merge_108 ?_
  exact zr_iret hX d_S_merge_111 (by rw [← hz9]; exact zmg_end hI hp hcc h7 hhd hxc hne hq3 b1 f1 r1 (by omega) f2 o2 fw hH3 f3 m3 hM e73 e83)
