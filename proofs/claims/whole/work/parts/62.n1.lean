theorem zpn {G : zG} {a q : Nat} {c : zC} (h : zput G a c q = none) : q ≠ a ∧ G q = none := by
  unfold zput at h
  by_cases e : q = a
  · rw [if_pos e] at h; cases h
  · rw [if_neg e] at h; exact ⟨e, h⟩
theorem c_B_init (g : zGt) (d : Nat) (hdd : 1 ≤ d) (G : zG) (q : Nat) (hq : G q = some (zO 2 [.null, .int 0, .int 0, .int 0, .null]))  : zMet g y_B_init b_B_init 1 none [] d 1 4096 [.ref q] G (fun r G1 => r = .inl none ∧ ∃ aa, G aa = none ∧ G1 = zput (zput G aa (zJ 4096 (fun _ => 0))) q (zO 2 [.ref aa, .int 0, .int 0, .int 0, .null])) := by
  refine zMet.of (by decide) (Nat.le_of_ble_eq_true rfl) rfl (fun X hX => ?_)
  refine zr_aload_n hX rfl d_B_init_0 ?_
  refine zr_objInit hX q62 q22 q23 (Nat.le_of_ble_eq_true rfl) (by omega) d_B_init_1 ?_
  refine zr_aload_n hX rfl d_B_init_4 ?_
  refine zr_sipush (v := 4096) hX rfl d_B_init_5 ?_
  refine zr_newJ (N := 4096) hX q57 (by decide) rfl (by decide) (by omega) (by omega) d_B_init_8 (fun q8 hn8 => ?_)
  refine zr_putF hX k_B 0 (by decide) q63 rfl rfl rfl rfl rfl rfl (Nat.le_of_ble_eq_true rfl) (zput_k (zfr hn8 hq) hq) d_B_init_10 ?_
  exact zr_vret hX d_B_init_13 ⟨rfl, _, hn8, rfl⟩
theorem c_R_init (g : zGt) (d : Nat) (hdd : 1 ≤ d) (G : zG) (q : Nat) (hq : G q = some (zO 4 [.null]))  : zMet g y_R_init b_R_init 1 none [] d 1 4096 [.ref q] G (fun r G1 => r = .inl none ∧ ∃ aa, G aa = none ∧ G1 = zput (zput G aa (zI 4096 (fun _ => 0))) q (zO 4 [.ref aa])) := by
  refine zMet.of (by decide) (Nat.le_of_ble_eq_true rfl) rfl (fun X hX => ?_)
  refine zr_aload_n hX rfl d_R_init_0 ?_
  refine zr_objInit hX q553 q22 q23 (Nat.le_of_ble_eq_true rfl) (by omega) d_R_init_1 ?_
  refine zr_aload_n hX rfl d_R_init_4 ?_
  refine zr_sipush (v := 4096) hX rfl d_R_init_5 ?_
  refine zr_newI (N := 4096) hX q56 (by decide) rfl (by decide) (by omega) (by omega) d_R_init_8 (fun q8 hn8 => ?_)
  refine zr_putF hX k_R 0 (by decide) q554 rfl rfl rfl rfl rfl rfl (Nat.le_of_ble_eq_true rfl) (zput_k (zfr hn8 hq) hq) d_R_init_10 ?_
  exact zr_vret hX d_R_init_13 ⟨rfl, _, hn8, rfl⟩
theorem c_C_init (g : zGt) (d : Nat) (hdd : 1 ≤ d) (G : zG) (q cc : Nat) (a b c : Int32) (hq : G q = some (zO 1 [.int 0, .int 0, .int 0, .null]))  : zMet g y_C_init b_C_init 5 none [] d 0 0 [.ref q, .int a, .int b, .int c, .ref cc] G (zD0 (zput G q (zO 1 [.int a, .int b, .int c, .ref cc]))) := by
  refine zMet.of (by decide) (Nat.le_of_ble_eq_true rfl) rfl (fun X hX => ?_)
  refine zr_aload_n hX rfl d_C_init_0 ?_
  refine zr_objInit hX q38 q22 q23 (Nat.le_of_ble_eq_true rfl) (by omega) d_C_init_1 ?_
  refine zr_aload_n hX rfl d_C_init_4 ?_
  refine zr_iload_n hX rfl d_C_init_5 ?_
  refine zr_putF hX k_C 0 (by decide) q39 rfl rfl rfl rfl rfl rfl (Nat.le_of_ble_eq_true rfl) hq d_C_init_6 ?_
  refine zr_aload_n hX rfl d_C_init_9 ?_
  refine zr_iload_n hX rfl d_C_init_10 ?_
  refine zr_putF hX k_C 1 (by decide) q41 rfl rfl rfl rfl rfl rfl (Nat.le_of_ble_eq_true rfl) (zput_s _ _ _) d_C_init_11 ?_
  refine zr_aload_n hX rfl d_C_init_14 ?_
  refine zr_iload_n hX rfl d_C_init_15 ?_
  refine zr_putF hX k_C 2 (by decide) q43 rfl rfl rfl rfl rfl rfl (Nat.le_of_ble_eq_true rfl) (zput_s _ _ _) d_C_init_16 ?_
  refine zr_aload_n hX rfl d_C_init_19 ?_
  refine zr_aload hX rfl d_C_init_20 ?_
  refine zr_putF hX k_C 3 (by decide) q45 rfl rfl rfl rfl rfl rfl (Nat.le_of_ble_eq_true rfl) (zput_s _ _ _) d_C_init_22 ?_
  exact zr_vret hX d_C_init_25 ⟨rfl, by rw [zput_z, zput_z, zput_z]; rfl⟩
theorem c_K_init (g : zGt) (d : Nat) (hdd : 1 ≤ d) (G : zG) (kq : Nat) (hk : G kq = some (zO 3 [.null, .null, .null, .null, .null, .int 0, .int 0]))  : zMet g y_K_init b_K_init 1 none [] d 5 20480 [.ref kq] G (fun r G1 => r = .inl none ∧ ∃ a0 a1 a2 a3 a4, (G a0 = none ∧ G a1 = none ∧ G a2 = none ∧ G a3 = none ∧ G a4 = none) ∧ (a0 ≠ a1 ∧ a0 ≠ a2 ∧ a0 ≠ a3 ∧ a0 ≠ a4 ∧ a1 ≠ a2 ∧ a1 ≠ a3 ∧ a1 ≠ a4 ∧ a2 ≠ a3 ∧ a2 ≠ a4 ∧ a3 ≠ a4) ∧ G1 kq = some (zO 3 [.ref a0, .ref a1, .ref a2, .ref a3, .ref a4, .int 0, .int 0]) ∧ G1 a0 = some (zI 4096 (fun _ => 0)) ∧ G1 a1 = some (zI 4096 (fun _ => 0)) ∧ G1 a2 = some (zI 4096 (fun _ => 0)) ∧ G1 a3 = some (zI 4096 (fun _ => 0)) ∧ G1 a4 = some (zB 4096 (fun _ => 0)) ∧ ∀ r, r ≠ kq → r ≠ a0 → r ≠ a1 → r ≠ a2 → r ≠ a3 → r ≠ a4 → G1 r = G r) := by
  refine zMet.of (by decide) (Nat.le_of_ble_eq_true rfl) rfl (fun X hX => ?_)
  refine zr_aload_n hX rfl d_K_init_0 ?_
  refine zr_objInit hX q585 q22 q23 (Nat.le_of_ble_eq_true rfl) (by omega) d_K_init_1 ?_
  refine zr_aload_n hX rfl d_K_init_4 ?_
  refine zr_sipush (v := 4096) hX rfl d_K_init_5 ?_
  refine zr_newI (N := 4096) hX q56 (by decide) rfl (by decide) (by omega) (by omega) d_K_init_8 (fun q8 hn8 => ?_)
  refine zr_putF hX k_K 0 (by decide) q586 rfl rfl rfl rfl rfl rfl (Nat.le_of_ble_eq_true rfl) (zput_k (zfr hn8 hk) hk) d_K_init_10 ?_
  refine zr_aload_n hX rfl d_K_init_13 ?_
  refine zr_sipush (v := 4096) hX rfl d_K_init_14 ?_
  refine zr_newI (N := 4096) hX q56 (by decide) rfl (by decide) (by omega) (by omega) d_K_init_17 (fun q17 hn17 => ?_)
  refine zr_putF hX k_K 1 (by decide) q588 rfl rfl rfl rfl rfl rfl (Nat.le_of_ble_eq_true rfl) (zput_k (zfr hn17 (zput_s _ _ _)) (zput_s _ _ _)) d_K_init_19 ?_
  refine zr_aload_n hX rfl d_K_init_22 ?_
  refine zr_sipush (v := 4096) hX rfl d_K_init_23 ?_
  refine zr_newI (N := 4096) hX q56 (by decide) rfl (by decide) (by omega) (by omega) d_K_init_26 (fun q26 hn26 => ?_)
  refine zr_putF hX k_K 2 (by decide) q589 rfl rfl rfl rfl rfl rfl (Nat.le_of_ble_eq_true rfl) (zput_k (zfr hn26 (zput_s _ _ _)) (zput_s _ _ _)) d_K_init_28 ?_
  refine zr_aload_n hX rfl d_K_init_31 ?_
  refine zr_sipush (v := 4096) hX rfl d_K_init_32 ?_
  refine zr_newI (N := 4096) hX q56 (by decide) rfl (by decide) (by omega) (by omega) d_K_init_35 (fun q35 hn35 => ?_)
  refine zr_putF hX k_K 3 (by decide) q590 rfl rfl rfl rfl rfl rfl (Nat.le_of_ble_eq_true rfl) (zput_k (zfr hn35 (zput_s _ _ _)) (zput_s _ _ _)) d_K_init_37 ?_
  refine zr_aload_n hX rfl d_K_init_40 ?_
  refine zr_sipush (v := 4096) hX rfl d_K_init_41 ?_
  refine zr_newZ (N := 4096) hX q612 (by decide) rfl (by decide) (by omega) (by omega) d_K_init_44 (fun q44 hn44 => ?_)
  refine zr_putF hX k_K 4 (by decide) q591 rfl rfl rfl rfl rfl rfl (Nat.le_of_ble_eq_true rfl) (zput_k (zfr hn44 (zput_s _ _ _)) (zput_s _ _ _)) d_K_init_46 ?_
  have f0 : G q8 = none := hn8
  have m1_1 := zpn hn17
  have m1_0 := zpn m1_1.2
  have f1 : G q17 = none := m1_0.2
  have m2_3 := zpn hn26
  have m2_2 := zpn m2_3.2
  have m2_1 := zpn m2_2.2
  have m2_0 := zpn m2_1.2
  have f2 : G q26 = none := m2_0.2
  have m3_5 := zpn hn35
  have m3_4 := zpn m3_5.2
  have m3_3 := zpn m3_4.2
  have m3_2 := zpn m3_3.2
  have m3_1 := zpn m3_2.2
  have m3_0 := zpn m3_1.2
  have f3 : G q35 = none := m3_0.2
  have m4_7 := zpn hn44
  have m4_6 := zpn m4_7.2
  have m4_5 := zpn m4_6.2
  have m4_4 := zpn m4_5.2
  have m4_3 := zpn m4_4.2
  have m4_2 := zpn m4_3.2
  have m4_1 := zpn m4_2.2
  have m4_0 := zpn m4_1.2
  have f4 : G q44 = none := m4_0.2
  exact zr_vret hX d_K_init_49 ⟨rfl, q8, q17, q26, q35, q44, ⟨f0, f1, f2, f3, f4⟩, ⟨(Ne.symm m1_0.1), (Ne.symm m2_0.1), (Ne.symm m3_0.1), (Ne.symm m4_0.1), (Ne.symm m2_2.1), (Ne.symm m3_2.1), (Ne.symm m4_2.1), (Ne.symm m3_4.1), (Ne.symm m4_4.1), (Ne.symm m4_6.1)⟩, (zput_s _ _ _), (zput_k (Ne.symm (zfr hn8 hk)) (zput_k (zfr hn44 (zput_k (Ne.symm (zfr hn8 hk)) (zput_k (zfr hn35 (zput_k (Ne.symm (zfr hn8 hk)) (zput_k (zfr hn26 (zput_k (Ne.symm (zfr hn8 hk)) (zput_k (zfr hn17 (zput_k (Ne.symm (zfr hn8 hk)) (zput_s _ _ _))) (zput_k (Ne.symm (zfr hn8 hk)) (zput_s _ _ _))))) (zput_k (Ne.symm (zfr hn8 hk)) (zput_k (zfr hn17 (zput_k (Ne.symm (zfr hn8 hk)) (zput_s _ _ _))) (zput_k (Ne.symm (zfr hn8 hk)) (zput_s _ _ _))))))) (zput_k (Ne.symm (zfr hn8 hk)) (zput_k (zfr hn26 (zput_k (Ne.symm (zfr hn8 hk)) (zput_k (zfr hn17 (zput_k (Ne.symm (zfr hn8 hk)) (zput_s _ _ _))) (zput_k (Ne.symm (zfr hn8 hk)) (zput_s _ _ _))))) (zput_k (Ne.symm (zfr hn8 hk)) (zput_k (zfr hn17 (zput_k (Ne.symm (zfr hn8 hk)) (zput_s _ _ _))) (zput_k (Ne.symm (zfr hn8 hk)) (zput_s _ _ _))))))))) (zput_k (Ne.symm (zfr hn8 hk)) (zput_k (zfr hn35 (zput_k (Ne.symm (zfr hn8 hk)) (zput_k (zfr hn26 (zput_k (Ne.symm (zfr hn8 hk)) (zput_k (zfr hn17 (zput_k (Ne.symm (zfr hn8 hk)) (zput_s _ _ _))) (zput_k (Ne.symm (zfr hn8 hk)) (zput_s _ _ _))))) (zput_k (Ne.symm (zfr hn8 hk)) (zput_k (zfr hn17 (zput_k (Ne.symm (zfr hn8 hk)) (zput_s _ _ _))) (zput_k (Ne.symm (zfr hn8 hk)) (zput_s _ _ _))))))) (zput_k (Ne.symm (zfr hn8 hk)) (zput_k (zfr hn26 (zput_k (Ne.symm (zfr hn8 hk)) (zput_k (zfr hn17 (zput_k (Ne.symm (zfr hn8 hk)) (zput_s _ _ _))) (zput_k (Ne.symm (zfr hn8 hk)) (zput_s _ _ _))))) (zput_k (Ne.symm (zfr hn8 hk)) (zput_k (zfr hn17 (zput_k (Ne.symm (zfr hn8 hk)) (zput_s _ _ _))) (zput_k (Ne.symm (zfr hn8 hk)) (zput_s _ _ _)))))))))), (zput_k (Ne.symm (zfr hn17 (zput_s _ _ _))) (zput_k (zfr hn44 (zput_k (Ne.symm (zfr hn17 (zput_s _ _ _))) (zput_k (zfr hn35 (zput_k (Ne.symm (zfr hn17 (zput_s _ _ _))) (zput_k (zfr hn26 (zput_k (Ne.symm (zfr hn17 (zput_s _ _ _))) (zput_s _ _ _))) (zput_k (Ne.symm (zfr hn17 (zput_s _ _ _))) (zput_s _ _ _))))) (zput_k (Ne.symm (zfr hn17 (zput_s _ _ _))) (zput_k (zfr hn26 (zput_k (Ne.symm (zfr hn17 (zput_s _ _ _))) (zput_s _ _ _))) (zput_k (Ne.symm (zfr hn17 (zput_s _ _ _))) (zput_s _ _ _))))))) (zput_k (Ne.symm (zfr hn17 (zput_s _ _ _))) (zput_k (zfr hn35 (zput_k (Ne.symm (zfr hn17 (zput_s _ _ _))) (zput_k (zfr hn26 (zput_k (Ne.symm (zfr hn17 (zput_s _ _ _))) (zput_s _ _ _))) (zput_k (Ne.symm (zfr hn17 (zput_s _ _ _))) (zput_s _ _ _))))) (zput_k (Ne.symm (zfr hn17 (zput_s _ _ _))) (zput_k (zfr hn26 (zput_k (Ne.symm (zfr hn17 (zput_s _ _ _))) (zput_s _ _ _))) (zput_k (Ne.symm (zfr hn17 (zput_s _ _ _))) (zput_s _ _ _)))))))), (zput_k (Ne.symm (zfr hn26 (zput_s _ _ _))) (zput_k (zfr hn44 (zput_k (Ne.symm (zfr hn26 (zput_s _ _ _))) (zput_k (zfr hn35 (zput_k (Ne.symm (zfr hn26 (zput_s _ _ _))) (zput_s _ _ _))) (zput_k (Ne.symm (zfr hn26 (zput_s _ _ _))) (zput_s _ _ _))))) (zput_k (Ne.symm (zfr hn26 (zput_s _ _ _))) (zput_k (zfr hn35 (zput_k (Ne.symm (zfr hn26 (zput_s _ _ _))) (zput_s _ _ _))) (zput_k (Ne.symm (zfr hn26 (zput_s _ _ _))) (zput_s _ _ _)))))), (zput_k (Ne.symm (zfr hn35 (zput_s _ _ _))) (zput_k (zfr hn44 (zput_k (Ne.symm (zfr hn35 (zput_s _ _ _))) (zput_s _ _ _))) (zput_k (Ne.symm (zfr hn35 (zput_s _ _ _))) (zput_s _ _ _)))), (zput_k (Ne.symm (zfr hn44 (zput_s _ _ _))) (zput_s _ _ _)), fun r h0 h1 h2 h3 h4 h5 => ((zput_n h0).trans ((zput_n h5).trans ((zput_n h0).trans ((zput_n h4).trans ((zput_n h0).trans ((zput_n h3).trans ((zput_n h0).trans ((zput_n h2).trans ((zput_n h0).trans (zput_n h1))))))))))⟩
theorem c_T_init (g : zGt) (d : Nat) (hdd : 1 ≤ d) (G : zG) (tq : Nat) (ht : G tq = some (zO 5 [.null, .null, .int 0]))  : zMet g y_T_init b_T_init 1 none [] d 2 32768 [.ref tq] G (fun r G1 => r = .inl none ∧ ∃ a1 a2, (G a1 = none ∧ G a2 = none ∧ a1 ≠ a2) ∧ G1 tq = some (zO 5 [.ref a1, .ref a2, .int 0]) ∧ G1 a1 = some (zI 28672 (fun _ => 0)) ∧ G1 a2 = some (zI 4096 (fun _ => 0)) ∧ ∀ r, r ≠ tq → r ≠ a1 → r ≠ a2 → G1 r = G r) := by
  refine zMet.of (by decide) (Nat.le_of_ble_eq_true rfl) rfl (fun X hX => ?_)
  refine zr_aload_n hX rfl d_T_init_0 ?_
  refine zr_objInit hX q304 q22 q23 (Nat.le_of_ble_eq_true rfl) (by omega) d_T_init_1 ?_
  refine zr_aload_n hX rfl d_T_init_4 ?_
  refine zr_sipush (v := 28672) hX rfl d_T_init_5 ?_
  refine zr_newI (N := 28672) hX q56 (by decide) rfl (by decide) (by omega) (by omega) d_T_init_8 (fun q8 hn8 => ?_)
  refine zr_putF hX k_T 0 (by decide) q305 rfl rfl rfl rfl rfl rfl (Nat.le_of_ble_eq_true rfl) (zput_k (zfr hn8 ht) ht) d_T_init_10 ?_
  refine zr_aload_n hX rfl d_T_init_13 ?_
  refine zr_sipush (v := 4096) hX rfl d_T_init_14 ?_
  refine zr_newI (N := 4096) hX q56 (by decide) rfl (by decide) (by omega) (by omega) d_T_init_17 (fun q17 hn17 => ?_)
  refine zr_putF hX k_T 1 (by decide) q306 rfl rfl rfl rfl rfl rfl (Nat.le_of_ble_eq_true rfl) (zput_k (zfr hn17 (zput_s _ _ _)) (zput_s _ _ _)) d_T_init_19 ?_
  have m1 := zpn hn17
  have m2 := zpn m1.2
  exact zr_vret hX d_T_init_22 ⟨rfl, q8, q17, ⟨hn8, m2.2, Ne.symm m2.1⟩, (zput_s _ _ _), (zput_k (Ne.symm (zfr hn8 ht)) (zput_k (zfr hn17 (zput_k (Ne.symm (zfr hn8 ht)) (zput_s _ _ _))) (zput_k (Ne.symm (zfr hn8 ht)) (zput_s _ _ _)))), (zput_k (Ne.symm (zfr hn17 (zput_s _ _ _))) (zput_s _ _ _)), fun r h0 h1 h2 => ((zput_n h0).trans ((zput_n h2).trans ((zput_n h0).trans (zput_n h1))))⟩
theorem z34 {v : Int32} (h : ¬ 4 ≤ v) : ¬ 3 < v := fun q => h (by
  rw [Int32.lt_iff_toInt_lt, show (3 : Int32).toInt = 3 from rfl] at q
  rw [Int32.le_iff_toInt_le, show (4 : Int32).toInt = 4 from rfl]
  omega)
theorem c_S_branch_bad (g : zGt) (d : Nat) (hdd : 6 ≤ d) (G : zG) (w : zW) (u : zU) (cm : Nat) (hH : zHp w G) (hR : zRl w u cm) (p q : Int32)  (hbad : p < 0 ∨ 3 < p ∨ s_M_isCommit u q = 0) : zMet g y_S_branch b_S_branch 4 none [] d 1 6 [.ref (w.a 0 0), .int p, .int q] G (zDx "java/lang/IllegalArgumentException" G) := by
  refine zMet.of (by decide) (Nat.le_of_ble_eq_true rfl) rfl (fun X hX => ?_)
  refine zr_aload_n hX rfl d_S_branch_0 ?_
  refine zr_iload_n hX rfl d_S_branch_1 ?_
  by_cases c2 : s_M_isCommit u q = 0
  · skip
    refine zr_pV hX (c_S_commitAt_0 g (d - 1) _ w u cm hH hR q c2) l_S_77 im_S_commitAt se_S_commitAt f_S_commitAt k_S.1 hH.x rfl (Nat.le_of_ble_eq_true rfl) (by omega) (Nat.zero_le _) (Nat.zero_le _) d_S_branch_2 ?_
    refine zs_astore_nN hX (by decide) rfl d_S_branch_5 ?_
    refine zr_iload_n hX rfl d_S_branch_6 ?_
    refine zr_if_lt hX (tgt := 19) d_S_branch_7 (by decide) (fun h7 => ?_) (fun h7 => ?_)
    · skip
      exact zr_iae hX rfl d_S_branch_19 d_S_branch_22 d_S_branch_23 d_S_branch_26 (by omega) (Nat.le_of_ble_eq_true rfl) (Nat.le_refl _) (Nat.le_refl _) ⟨rfl, rfl⟩
    · skip
      refine zr_iload_n hX rfl d_S_branch_10 ?_
      refine zr_iconst (v := 4) hX rfl d_S_branch_11 ?_
      refine zr_icmp_ge hX (tgt := 19) d_S_branch_12 (by decide) (fun h12 => ?_) (fun h12 => ?_)
      · skip
        exact zr_iae hX rfl d_S_branch_19 d_S_branch_22 d_S_branch_23 d_S_branch_26 (by omega) (Nat.le_of_ble_eq_true rfl) (Nat.le_refl _) (Nat.le_refl _) ⟨rfl, rfl⟩
      · skip
        refine zr_aload_nN hX rfl d_S_branch_15 ?_
        refine zr_ifnonnullN hX d_S_branch_16 ?_
        exact zr_iae hX rfl d_S_branch_19 d_S_branch_22 d_S_branch_23 d_S_branch_26 (by omega) (Nat.le_of_ble_eq_true rfl) (Nat.le_refl _) (Nat.le_refl _) ⟨rfl, rfl⟩
  · skip
    obtain ⟨c9, qc, hc9, ec9, hqc, hzc⟩ := hR.cmt1 c2
    refine zr_pV hX (c_S_commitAt_1 g (d - 1) _ w hH q qc hzc) l_S_77 im_S_commitAt se_S_commitAt f_S_commitAt k_S.1 hH.x rfl (Nat.le_of_ble_eq_true rfl) (by omega) (Nat.zero_le _) (Nat.zero_le _) d_S_branch_2 ?_
    refine zs_astore_n hX (by decide) rfl d_S_branch_5 ?_
    refine zr_iload_n hX rfl d_S_branch_6 ?_
    refine zr_if_lt hX (tgt := 19) d_S_branch_7 (by decide) (fun h7 => ?_) (fun h7 => ?_)
    · skip
      exact zr_iae hX rfl d_S_branch_19 d_S_branch_22 d_S_branch_23 d_S_branch_26 (by omega) (Nat.le_of_ble_eq_true rfl) (Nat.le_refl _) (Nat.le_refl _) ⟨rfl, rfl⟩
    · skip
      refine zr_iload_n hX rfl d_S_branch_10 ?_
      refine zr_iconst (v := 4) hX rfl d_S_branch_11 ?_
      refine zr_icmp_ge hX (tgt := 19) d_S_branch_12 (by decide) (fun h12 => ?_) (fun h12 => ?_)
      · skip
        exact zr_iae hX rfl d_S_branch_19 d_S_branch_22 d_S_branch_23 d_S_branch_26 (by omega) (Nat.le_of_ble_eq_true rfl) (Nat.le_refl _) (Nat.le_refl _) ⟨rfl, rfl⟩
      · skip
        refine zr_aload_n hX rfl d_S_branch_15 ?_
        refine zr_ifnonnull hX (tgt := 27) (by decide) d_S_branch_16 ?_
        rcases hbad with e | e | e
        · exact absurd e h7
        · exact absurd e (z34 h12)
        · exact absurd e c2
theorem zisb {u : zU} {p : Nat} (hp : p < 4) (h : ¬ u.ar 7 p = 0) : ¬ s_M_isBranch u (nI p) = 0 := by
  have e : ¬ (4 : Int32) ≤ nI p := fun q => absurd ((nI_leI (a := 4) (b := p) (by decide) (by omega)).mp q) (by omega)
  unfold s_M_isBranch
  rw [if_neg (nI_pos (by omega)), if_neg e, nI_clamp (by omega), if_neg h]
  decide
theorem zisb0 {u : zU} {p : Nat} (hp : p < 4) (h : u.ar 7 p = 0) : s_M_isBranch u (nI p) = 0 := by
  have e : ¬ (4 : Int32) ≤ nI p := fun q => absurd ((nI_leI (a := 4) (b := p) (by decide) (by omega)).mp q) (by omega)
  unfold s_M_isBranch
  rw [if_neg (nI_pos (by omega)), if_neg e, nI_clamp (by omega), if_pos h]
theorem c_S_branch_two (g : zGt) (d : Nat) (hdd : 6 ≤ d) (G : zG) (w : zW) (u : zU) (cm : Nat) (hH : zHp w G) (hR : zRl w u cm) (p q : Nat)  (hp : p < 4) (hq : q < 24) (hth : ¬ u.ar 7 p = 0) (ho0 : ¬ s_M_isCommit u (nI q) = 0) : zMet g y_S_branch b_S_branch 4 none [] d 1 6 [.ref (w.a 0 0), .int (nI p), .int (nI q)] G (zDx "java/lang/IllegalStateException" G) := by
  refine zMet.of (by decide) (Nat.le_of_ble_eq_true rfl) rfl (fun X hX => ?_)
  obtain ⟨qc, hcm, hqc, hzc, hcr⟩ := hR.cmt hq ho0
  have hob : ¬ s_M_isBranch u (nI p) = 0 := zisb hp hth
  obtain ⟨qb, hq3, hz, h7, ht9⟩ := hR.bra hp hob
  refine zr_aload_n hX rfl d_S_branch_0 ?_
  refine zr_iload_n hX rfl d_S_branch_1 ?_
  refine zr_pV hX (c_S_commitAt_1 g (d - 1) _ w hH (nI q) qc hzc) l_S_77 im_S_commitAt se_S_commitAt f_S_commitAt k_S.1 hH.x rfl (Nat.le_of_ble_eq_true rfl) (by omega) (Nat.zero_le _) (Nat.zero_le _) d_S_branch_2 ?_
  refine zs_astore_n hX (by decide) rfl d_S_branch_5 ?_
  refine zr_iload_n hX rfl d_S_branch_6 ?_
  refine zr_if_lt hX (tgt := 19) d_S_branch_7 (by decide) (fun h9 => absurd h9 (nI_pos (n := p) (by omega))) (fun _ => ?_)
  refine zr_iload_n hX rfl d_S_branch_10 ?_
  refine zr_iconst (v := 4) hX rfl d_S_branch_11 ?_
  refine zr_icmp_ge hX (tgt := 19) d_S_branch_12 (by decide) (fun h9 => absurd h9 (nI_ge (a := p) (b := 4) (by omega) (by decide))) (fun _ => ?_)
  refine zr_aload_n hX rfl d_S_branch_15 ?_
  refine zr_ifnonnull hX (tgt := 27) (by decide) d_S_branch_16 ?_
  refine zr_aload_n hX rfl d_S_branch_27 ?_
  refine zr_iload_n hX rfl d_S_branch_28 ?_
  refine zr_pV hX (c_S_branchAt_1 g (d - 1) _ w hH (nI p) qb hz) l_S_84 im_S_branchAt se_S_branchAt f_S_branchAt k_S.1 hH.x rfl (Nat.le_of_ble_eq_true rfl) (by omega) (Nat.zero_le _) (Nat.zero_le _) d_S_branch_29 ?_
  refine zr_ifnull hX d_S_branch_32 ?_
  exact zr_ise hX rfl d_S_branch_35 d_S_branch_38 d_S_branch_39 d_S_branch_42 (by omega) (Nat.le_of_ble_eq_true rfl) (Nat.le_refl _) (Nat.le_refl _) ⟨rfl, rfl⟩
theorem zWo.f4 (w : zW) (p : Nat) (x y z : Int32) (f : Nat → Int64) : zWo p w (zW3 (zWf w 4 p f) p x y z) := by
  have hi : ∀ k j, ¬ (j = p ∧ 4 ≤ k ∧ k ≤ 6) → (zW3 (zWf w 4 p f) p x y z).i k j = w.i k j := fun k j h => zW3_n (zWf w 4 p f) x y z h
  have hf : ∀ a b, ¬ (a = 4 ∧ b = p) → (zW3 (zWf w 4 p f) p x y z).f a b = w.f a b := fun a b h => by
    show zud w.f 4 p f a b = _
    exact zud_n h
  exact ⟨fun k hk => funext fun j => hi k j (by omega), fun k k1 k2 b hb => hi k b (by omega), rfl, fun b hb => ⟨rfl, rfl, hf 4 b (by omega)⟩, funext fun b => hf 2 b (by omega), rfl, fun _ _ _ _ _ => rfl⟩
theorem zcpy (f g : Nat → Int64) {k : Nat} (hk : k < 4096) : va_cpy f g 0 0 4096 k = f k := by
  unfold va_cpy
  rw [if_pos ⟨Nat.zero_le _, by omega⟩]
  congr 1
  omega
theorem zbr_n {w : zW} {wm : Nat} {u : zU} {cm p q qb : Nat} {G : zG} (hI : zIn w wm u cm) (hH : zHp w G) (hp : p < 4) (hc : q < cm) (hq3 : w.o 3 p = some qb) (hk : w.o 5 p = none) : zSq (.inl none) w wm (t_M_branch u p q) cm 2 4101 G (.inl none) (zput (zput G (w.a 4 p) (zJ 4096 (va_cpy (w.f 2 q) (w.f 4 p) 0 0 4096))) qb (zO 2 [.ref (w.a 4 p), .int 1, .int (nI q), .int (-1), .null])) := by
  have h1 := hH.wf4 hq3 (va_cpy (w.f 2 q) (w.f 4 p) 0 0 4096)
  have h2 := h1.w3 (b := p) (q := qb) hq3 1 (nI q) (-1)
  rw [show (zWf w 4 p (va_cpy (w.f 2 q) (w.f 4 p) 0 0 4096)).o 5 p = none from hk] at h2
  have f1 : zFr w G (zWf w 4 p (va_cpy (w.f 2 q) (w.f 4 p) 0 0 4096)) (zput G (w.a 4 p) (zJ 4096 (va_cpy (w.f 2 q) (w.f 4 p) 0 0 4096))) := zFr.put 4 p (zmp hq3) (zAd_f _ _ _ _) _ rfl
  have f2 := f1.tr (zFr.put (w2 := zW3 (zWf w 4 p (va_cpy (w.f 2 q) (w.f 4 p) 0 0 4096)) p 1 (nI q) (-1)) 3 p (q := qb) hq3 rfl (zO 2 [.ref (w.a 4 p), .int 1, .int (nI q), .int (-1), .null]) rfl)
  refine zSq.of hI h2 f2 (hI.1.branch (q := qb) hp hc (zWo.f4 w p 1 (nI q) (-1) _) hq3 (zW3_4 _ _ _ _ _) (zW3_5 _ _ _ _ _) (zW3_6 _ _ _ _ _) (fun k hk9 => ?_) (fun r hr => ?_)) rfl rfl rfl (fun _ h => h) (by omega) (by omega)
  · show zud w.f 4 p (va_cpy (w.f 2 q) (w.f 4 p) 0 0 4096) 4 p k = _
    rw [zud_s, zcpy _ _ hk9]
  · rw [show (zW3 (zWf w 4 p (va_cpy (w.f 2 q) (w.f 4 p) 0 0 4096)) p 1 (nI q) (-1)).o 5 p = none from hk] at hr
    cases hr
theorem zbr_k {w : zW} {wm : Nat} {u : zU} {cm p q qb kq : Nat} {G : zG} (hI : zIn w wm u cm) (hH : zHp w G) (hp : p < 4) (hc : q < cm) (hq3 : w.o 3 p = some qb) (hk : w.o 5 p = some kq) : zSq (.inl none) w wm (t_M_branch u p q) cm 2 4101 G (.inl none) (zput (zput (zput G (w.a 4 p) (zJ 4096 (va_cpy (w.f 2 q) (w.f 4 p) 0 0 4096))) qb (zO 2 [.ref (w.a 4 p), .int 1, .int (nI q), .int (-1), .ref kq])) kq (zO 3 [.ref (w.a 10 p), .ref (w.a 11 p), .ref (w.a 12 p), .ref (w.a 13 p), .ref (w.a 14 p), .int 0, .int 0])) := by
  have h1 := hH.wf4 hq3 (va_cpy (w.f 2 q) (w.f 4 p) 0 0 4096)
  have h2 := h1.w3 (b := p) (q := qb) hq3 1 (nI q) (-1)
  rw [show (zWf w 4 p (va_cpy (w.f 2 q) (w.f 4 p) 0 0 4096)).o 5 p = some kq from hk] at h2
  have h3 := h2.w5 (b := p) (q := kq) hk 0 0
  have f1 : zFr w G (zWf w 4 p (va_cpy (w.f 2 q) (w.f 4 p) 0 0 4096)) (zput G (w.a 4 p) (zJ 4096 (va_cpy (w.f 2 q) (w.f 4 p) 0 0 4096))) := zFr.put 4 p (zmp hq3) (zAd_f _ _ _ _) _ rfl
  have f2 := f1.tr (zFr.put (w2 := zW3 (zWf w 4 p (va_cpy (w.f 2 q) (w.f 4 p) 0 0 4096)) p 1 (nI q) (-1)) 3 p (q := qb) hq3 rfl (zO 2 [.ref (w.a 4 p), .int 1, .int (nI q), .int (-1), .ref kq]) rfl)
  have f3 := f2.tr (zFr.put (w2 := zW5 (zW3 (zWf w 4 p (va_cpy (w.f 2 q) (w.f 4 p) 0 0 4096)) p 1 (nI q) (-1)) p 0 0) 5 p (q := kq) hk rfl (zO 3 [.ref (w.a 10 p), .ref (w.a 11 p), .ref (w.a 12 p), .ref (w.a 13 p), .ref (w.a 14 p), .int 0, .int 0]) rfl)
  obtain ⟨a1, a2, a3, a4, a5, a6, a7⟩ := zWo.f4 w p 1 (nI q) (-1) (va_cpy (w.f 2 q) (w.f 4 p) 0 0 4096)
  obtain ⟨W, hW⟩ : ∃ W, W = zW3 (zWf w 4 p (va_cpy (w.f 2 q) (w.f 4 p) 0 0 4096)) p 1 (nI q) (-1) := ⟨_, rfl⟩
  have e4 : W.i 4 p = 1 := by rw [hW]; exact zW3_4 _ _ _ _ _
  have e5 : W.i 5 p = nI q := by rw [hW]; exact zW3_5 _ _ _ _ _
  have e6 : W.i 6 p = (-1) := by rw [hW]; exact zW3_6 _ _ _ _ _
  have ef : W.f 4 p = va_cpy (w.f 2 q) (w.f 4 p) 0 0 4096 := by rw [hW]; exact zud_s _ _ _ _
  rw [← hW] at a1 a2 a3 a4 a5 a6 a7 h3 f3
  have h5 : ∀ k j, ¬ (j = p ∧ 7 ≤ k ∧ k ≤ 8) → (zW5 W p 0 0).i k j = W.i k j := fun k j h => zW5_n W 0 0 h
  have ow : W.o = w.o := by rw [hW]; rfl
  have aw : W.a = w.a := by rw [hW]; rfl
  rw [aw] at h3
  refine zSq.of hI h3 f3 (hI.1.branch (w2 := zW5 W p 0 0) (q := qb) hp hc ⟨fun k hk9 => (funext fun j => h5 k j (by omega)).trans (a1 k hk9), fun k k1 k2 b hb => (h5 k b (by omega)).trans (a2 k k1 k2 b hb), a3, a4, a5, a6, a7⟩ (by show W.o 3 p = _; rw [ow]; exact hq3) ((h5 4 p (by omega)).trans e4) ((h5 5 p (by omega)).trans e5) ((h5 6 p (by omega)).trans e6) (fun k hk9 => ?_) (fun r hr => ⟨zW5_7 W p 0 0, zW5_8 W p 0 0⟩)) (by show W.o 5 = _; rw [ow]) (by show W.o 6 = _; rw [ow]) (by show W.o 8 = _; rw [ow]) (fun b hb => by rw [← ow]; exact hb) (by omega) (by omega)
  show W.f 4 p k = _
  rw [ef, zcpy _ _ hk9]
theorem zbr_new {w : zW} {wm : Nat} {u : zU} {cm p q qb aa : Nat} {G : zG} (hI : zIn w wm u cm) (hH : zHp w G) (hp : p < 4) (hc : q < cm) (ho3 : w.o 3 p = none) (ho5 : w.o 5 p = none) (hn : G qb = none) (ha : zput G qb (zO 2 [.null, .int 0, .int 0, .int 0, .null]) aa = none) : zSq (.inl none) w wm (t_M_branch u p q) cm 2 4101 G (.inl none) (zput (zput (zput (zput (zput (zput G qb (zO 2 [.null, .int 0, .int 0, .int 0, .null])) aa (zJ 4096 (fun _ => 0))) qb (zO 2 [.ref aa, .int 0, .int 0, .int 0, .null])) (w.a 9 3) (zR 4 4 (va_up (w.o 3) p (some qb)))) aa (zJ 4096 (va_cpy (w.f 2 q) (fun _ => 0) 0 0 4096))) qb (zO 2 [.ref aa, .int 1, .int (nI q), .int (-1), .null])) := by
  obtain ⟨ne, ha0⟩ := zpn ha
  have nb : w.a 9 3 ≠ qb := zfr hn hH.br
  have nc : w.a 9 3 ≠ aa := zfr ha0 hH.br
  obtain ⟨h0, f0⟩ := hH.nb (b := p) (q := qb) (aa := aa) ho3 ho5 hn ha0 (Ne.symm ne) (G1 := zput (zput (zput (zput G qb (zO 2 [.null, .int 0, .int 0, .int 0, .null])) aa (zJ 4096 (fun _ => 0))) qb (zO 2 [.ref aa, .int 0, .int 0, .int 0, .null])) (w.a 9 3) (zR 4 4 (va_up (w.o 3) p (some qb)))) ((zput_n (Ne.symm nb)).trans (zput_s _ _ _)) ((zput_n (Ne.symm nc)).trans ((zput_n ne).trans (zput_s _ _ _))) (zput_s _ _ _) (fun r r1 r2 r3 => (zput_n r3).trans ((zput_n r1).trans ((zput_n r2).trans (zput_n r1))))
  have o3 : (zWnb w p qb aa).o 3 p = some qb := zud_s _ _ _ _
  have o5 : (zWnb w p qb aa).o 5 p = none := by
    show zud w.o 3 p (some qb) 5 p = _
    rw [zud_n (by omega)]; exact ho5
  have aw : (zWnb w p qb aa).a 4 p = aa := zud_s _ _ _ _
  have fw : (zWnb w p qb aa).f 2 = w.f 2 := by
    show zud w.f 4 p (fun _ => 0) 2 = _
    exact zud_f (by decide)
  have h1 := h0.wf4 o3 (va_cpy (w.f 2 q) (fun _ => 0) 0 0 4096)
  have h2 := h1.w3 (b := p) (q := qb) o3 1 (nI q) (-1)
  rw [show (zWf (zWnb w p qb aa) 4 p (va_cpy (w.f 2 q) (fun _ => 0) 0 0 4096)).o 5 p = none from o5, show (zWf (zWnb w p qb aa) 4 p (va_cpy (w.f 2 q) (fun _ => 0) 0 0 4096)).a 4 p = aa from aw, aw] at h2
  have f1 := f0.tr (zFr.put (w2 := zWf (zWnb w p qb aa) 4 p (va_cpy (w.f 2 q) (fun _ => 0) 0 0 4096)) 4 p (q := (zWnb w p qb aa).a 4 p) (zmp o3) (zAd_f _ _ _ _) (zJ 4096 (va_cpy (w.f 2 q) (fun _ => 0) 0 0 4096)) rfl)
  have f2 := f1.tr (zFr.put (w2 := zW3 (zWf (zWnb w p qb aa) 4 p (va_cpy (w.f 2 q) (fun _ => 0) 0 0 4096)) p 1 (nI q) (-1)) 3 p (q := qb) o3 rfl (zO 2 [.ref aa, .int 1, .int (nI q), .int (-1), .null]) rfl)
  rw [aw] at f2
  obtain ⟨a1, a2, a3, a4, a5, a6, a7⟩ := zWo.f4 (zWnb w p qb aa) p 1 (nI q) (-1) (va_cpy (w.f 2 q) (fun _ => 0) 0 0 4096)
  have i0 : ∀ k j, ¬ (j = p ∧ 4 ≤ k ∧ k ≤ 6) → (zWnb w p qb aa).i k j = w.i k j := fun k j e => by
    show zud (zud (zud w.i 4 p 0) 5 p 0) 6 p 0 k j = _
    rw [zud_n (by omega), zud_n (by omega), zud_n (by omega)]
  have oo : ∀ k j, ¬ (k = 3 ∧ j = p) → (zWnb w p qb aa).o k j = w.o k j := fun k j e => by
    show zud w.o 3 p (some qb) k j = _
    exact zud_n e
  have ff : ∀ b, b ≠ p → (zWnb w p qb aa).f 4 b = w.f 4 b := fun b hb => by
    show zud w.f 4 p (fun _ => 0) 4 b = _
    exact zud_n (by omega)
  refine zSq.of hI h2 f2 (hI.1.branch (q := qb) hp hc ⟨fun k hk => (a1 k hk).trans (funext fun j => i0 k j (by omega)), fun k k1 k2 b hb => (a2 k k1 k2 b hb).trans (i0 k b (by omega)), a3.trans (funext fun j => oo 1 j (by omega)), fun b hb => ⟨(a4 b hb).1.trans (oo 3 b (by omega)), (a4 b hb).2.1.trans (oo 5 b (by omega)), (a4 b hb).2.2.trans (ff b hb)⟩, a5.trans fw, a6, a7⟩ o3 (zW3_4 _ _ _ _ _) (zW3_5 _ _ _ _ _) (zW3_6 _ _ _ _ _) (fun k hk9 => ?_) (fun r hr => ?_)) (funext fun j => oo 5 j (by omega)) (funext fun j => oo 6 j (by omega)) (funext fun j => oo 8 j (by omega)) (fun b hb => ?_) (by omega) (by omega)
  · show zud (zWnb w p qb aa).f 4 p (va_cpy (w.f 2 q) (fun _ => 0) 0 0 4096) 4 p k = _
    rw [zud_s, zcpy _ _ hk9]
  · rw [show (zW3 (zWf (zWnb w p qb aa) 4 p (va_cpy (w.f 2 q) (fun _ => 0) 0 0 4096)) p 1 (nI q) (-1)).o 5 p = none from o5] at hr
    cases hr
  · by_cases e : b = p
    · rw [e]; exact ho3
    · exact (oo 3 b (by omega)).symm.trans hb
theorem c_S_branch_n (g : zGt) (d : Nat) (hdd : 4 ≤ d) (G : zG) (w : zW) (wm : Nat) (u : zU) (cm : Nat) (hH : zHp w G) (hI : zIn w wm u cm) (p q : Nat)  (hp : p < 4) (hq : q < 24) (hth : u.ar 7 p = 0) (ho0 : ¬ s_M_isCommit u (nI q) = 0) (qb : Nat) (hq3 : w.o 3 p = some qb) (hk : w.o 5 p = none) : zMet g y_S_branch b_S_branch 4 none [] d 2 4101 [.ref (w.a 0 0), .int (nI p), .int (nI q)] G (zSq (.inl none) w wm (t_M_branch u p q) cm 2 4101 G) := by
  refine zMet.of (by decide) (Nat.le_of_ble_eq_true rfl) rfl (fun X hX => ?_)
  have hR := hI.1
  obtain ⟨qc, hcm, hqc, hzc, hcr⟩ := hR.cmt hq ho0
  refine zr_aload_n hX rfl d_S_branch_0 ?_
  refine zr_iload_n hX rfl d_S_branch_1 ?_
  refine zr_pV hX (c_S_commitAt_1 g (d - 1) _ w hH (nI q) qc hzc) l_S_77 im_S_commitAt se_S_commitAt f_S_commitAt k_S.1 hH.x rfl (Nat.le_of_ble_eq_true rfl) (by omega) (Nat.zero_le _) (Nat.zero_le _) d_S_branch_2 ?_
  refine zs_astore_n hX (by decide) rfl d_S_branch_5 ?_
  refine zr_iload_n hX rfl d_S_branch_6 ?_
  refine zr_if_lt hX (tgt := 19) d_S_branch_7 (by decide) (fun h9 => absurd h9 (nI_pos (n := p) (by omega))) (fun _ => ?_)
  refine zr_iload_n hX rfl d_S_branch_10 ?_
  refine zr_iconst (v := 4) hX rfl d_S_branch_11 ?_
  refine zr_icmp_ge hX (tgt := 19) d_S_branch_12 (by decide) (fun h9 => absurd h9 (nI_ge (a := p) (b := 4) (by omega) (by decide))) (fun _ => ?_)
  refine zr_aload_n hX rfl d_S_branch_15 ?_
  refine zr_ifnonnull hX (tgt := 27) (by decide) d_S_branch_16 ?_
  refine zr_aload_n hX rfl d_S_branch_27 ?_
  refine zr_iload_n hX rfl d_S_branch_28 ?_
  refine zr_pV hX (c_S_branchAt_0 g (d - 1) _ w u cm hH hI.1 (nI p) (zisb0 hp hth)) l_S_84 im_S_branchAt se_S_branchAt f_S_branchAt k_S.1 hH.x rfl (Nat.le_of_ble_eq_true rfl) (by omega) (Nat.zero_le _) (Nat.zero_le _) d_S_branch_29 ?_
  refine zr_ifnullN hX (tgt := 43) (by decide) d_S_branch_32 ?_
  refine zr_aload_n hX rfl d_S_branch_43 ?_
  refine zr_get hX k_S 3 (by decide) q106 rfl hH.x rfl d_S_branch_44 ?_
  refine zr_iload_n hX rfl d_S_branch_47 ?_
  refine zr_aaldN hX rfl hH.br p rfl (by omega) (by decide) d_S_branch_48 ?_
  rw [hq3]
  refine zr_ifnonnull hX (tgt := 65) (by decide) d_S_branch_49 ?_
  refine zr_aload_n hX rfl d_S_branch_65 ?_
  refine zr_get hX k_S 3 (by decide) q106 rfl hH.x rfl d_S_branch_66 ?_
  refine zr_iload_n hX rfl d_S_branch_69 ?_
  refine zr_aaldN hX rfl hH.br p rfl (by omega) (by decide) d_S_branch_70 ?_
  rw [hq3]
  refine zr_iload_n hX rfl d_S_branch_71 ?_
  refine zr_aload_n hX rfl d_S_branch_72 ?_
  refine zr_get hX k_C 3 (by decide) q46 rfl (hH.cmo hqc) rfl d_S_branch_73 ?_
  refine zr_uV0 hX (c_B_startAt_n g (d - 1) (by omega) _ qb (w.a 4 p) (w.a 2 q) (w.i 4 p) (w.i 5 p) (w.i 6 p) (nI q) (w.f 4 p) (w.f 2 q) (hH.bmn hq3 hk) (hH.bj hq3) (hH.cj hqc)) l_S_59 im_B_startAt se_B_startAt f_B_startAt k_B.1 (hH.bmn hq3 hk) rfl (Nat.le_of_ble_eq_true rfl) (by omega) (by omega) (by omega) d_S_branch_76 ?_
  exact zr_vret hX d_S_branch_79 (zbr_n hI hH hp hcm hq3 hk)
theorem c_S_branch_k (g : zGt) (d : Nat) (hdd : 4 ≤ d) (G : zG) (w : zW) (wm : Nat) (u : zU) (cm : Nat) (hH : zHp w G) (hI : zIn w wm u cm) (p q : Nat)  (hp : p < 4) (hq : q < 24) (hth : u.ar 7 p = 0) (ho0 : ¬ s_M_isCommit u (nI q) = 0) (qb : Nat) (hq3 : w.o 3 p = some qb) (kq : Nat) (hk : w.o 5 p = some kq) : zMet g y_S_branch b_S_branch 4 none [] d 2 4101 [.ref (w.a 0 0), .int (nI p), .int (nI q)] G (zSq (.inl none) w wm (t_M_branch u p q) cm 2 4101 G) := by
  refine zMet.of (by decide) (Nat.le_of_ble_eq_true rfl) rfl (fun X hX => ?_)
  have hR := hI.1
  obtain ⟨qc, hcm, hqc, hzc, hcr⟩ := hR.cmt hq ho0
  refine zr_aload_n hX rfl d_S_branch_0 ?_
  refine zr_iload_n hX rfl d_S_branch_1 ?_
  refine zr_pV hX (c_S_commitAt_1 g (d - 1) _ w hH (nI q) qc hzc) l_S_77 im_S_commitAt se_S_commitAt f_S_commitAt k_S.1 hH.x rfl (Nat.le_of_ble_eq_true rfl) (by omega) (Nat.zero_le _) (Nat.zero_le _) d_S_branch_2 ?_
  refine zs_astore_n hX (by decide) rfl d_S_branch_5 ?_
  refine zr_iload_n hX rfl d_S_branch_6 ?_
  refine zr_if_lt hX (tgt := 19) d_S_branch_7 (by decide) (fun h9 => absurd h9 (nI_pos (n := p) (by omega))) (fun _ => ?_)
  refine zr_iload_n hX rfl d_S_branch_10 ?_
  refine zr_iconst (v := 4) hX rfl d_S_branch_11 ?_
  refine zr_icmp_ge hX (tgt := 19) d_S_branch_12 (by decide) (fun h9 => absurd h9 (nI_ge (a := p) (b := 4) (by omega) (by decide))) (fun _ => ?_)
  refine zr_aload_n hX rfl d_S_branch_15 ?_
  refine zr_ifnonnull hX (tgt := 27) (by decide) d_S_branch_16 ?_
  refine zr_aload_n hX rfl d_S_branch_27 ?_
  refine zr_iload_n hX rfl d_S_branch_28 ?_
  refine zr_pV hX (c_S_branchAt_0 g (d - 1) _ w u cm hH hI.1 (nI p) (zisb0 hp hth)) l_S_84 im_S_branchAt se_S_branchAt f_S_branchAt k_S.1 hH.x rfl (Nat.le_of_ble_eq_true rfl) (by omega) (Nat.zero_le _) (Nat.zero_le _) d_S_branch_29 ?_
  refine zr_ifnullN hX (tgt := 43) (by decide) d_S_branch_32 ?_
  refine zr_aload_n hX rfl d_S_branch_43 ?_
  refine zr_get hX k_S 3 (by decide) q106 rfl hH.x rfl d_S_branch_44 ?_
  refine zr_iload_n hX rfl d_S_branch_47 ?_
  refine zr_aaldN hX rfl hH.br p rfl (by omega) (by decide) d_S_branch_48 ?_
  rw [hq3]
  refine zr_ifnonnull hX (tgt := 65) (by decide) d_S_branch_49 ?_
  refine zr_aload_n hX rfl d_S_branch_65 ?_
  refine zr_get hX k_S 3 (by decide) q106 rfl hH.x rfl d_S_branch_66 ?_
  refine zr_iload_n hX rfl d_S_branch_69 ?_
  refine zr_aaldN hX rfl hH.br p rfl (by omega) (by decide) d_S_branch_70 ?_
  rw [hq3]
  refine zr_iload_n hX rfl d_S_branch_71 ?_
  refine zr_aload_n hX rfl d_S_branch_72 ?_
  refine zr_get hX k_C 3 (by decide) q46 rfl (hH.cmo hqc) rfl d_S_branch_73 ?_
  refine zr_uV0 hX (c_B_startAt_k g (d - 1) (by omega) _ qb (w.a 4 p) (w.a 2 q) (w.i 4 p) (w.i 5 p) (w.i 6 p) (nI q) (w.f 4 p) (w.f 2 q) kq (w.a 10 p) (w.a 11 p) (w.a 12 p) (w.a 13 p) (w.a 14 p) (w.i 7 p) (w.i 8 p) (hH.bmk hq3 hk) (hH.bj hq3) (hH.cj hqc) (hH.km hk)) l_S_59 im_B_startAt se_B_startAt f_B_startAt k_B.1 (hH.bmk hq3 hk) rfl (Nat.le_of_ble_eq_true rfl) (by omega) (by omega) (by omega) d_S_branch_76 ?_
  exact zr_vret hX d_S_branch_79 (zbr_k hI hH hp hcm hq3 hk)
theorem c_S_branch_new (g : zGt) (d : Nat) (hdd : 4 ≤ d) (G : zG) (w : zW) (wm : Nat) (u : zU) (cm : Nat) (hH : zHp w G) (hI : zIn w wm u cm) (p q : Nat)  (hp : p < 4) (hq : q < 24) (hth : u.ar 7 p = 0) (ho0 : ¬ s_M_isCommit u (nI q) = 0) (ho3 : w.o 3 p = none) (ho5 : w.o 5 p = none) : zMet g y_S_branch b_S_branch 4 none [] d 2 4101 [.ref (w.a 0 0), .int (nI p), .int (nI q)] G (zSq (.inl none) w wm (t_M_branch u p q) cm 2 4101 G) := by
  refine zMet.of (by decide) (Nat.le_of_ble_eq_true rfl) rfl (fun X hX => ?_)
  have hR := hI.1
  obtain ⟨qc, hcm, hqc, hzc, hcr⟩ := hR.cmt hq ho0
  refine zr_aload_n hX rfl d_S_branch_0 ?_
  refine zr_iload_n hX rfl d_S_branch_1 ?_
  refine zr_pV hX (c_S_commitAt_1 g (d - 1) _ w hH (nI q) qc hzc) l_S_77 im_S_commitAt se_S_commitAt f_S_commitAt k_S.1 hH.x rfl (Nat.le_of_ble_eq_true rfl) (by omega) (Nat.zero_le _) (Nat.zero_le _) d_S_branch_2 ?_
  refine zs_astore_n hX (by decide) rfl d_S_branch_5 ?_
  refine zr_iload_n hX rfl d_S_branch_6 ?_
  refine zr_if_lt hX (tgt := 19) d_S_branch_7 (by decide) (fun h9 => absurd h9 (nI_pos (n := p) (by omega))) (fun _ => ?_)
  refine zr_iload_n hX rfl d_S_branch_10 ?_
  refine zr_iconst (v := 4) hX rfl d_S_branch_11 ?_
  refine zr_icmp_ge hX (tgt := 19) d_S_branch_12 (by decide) (fun h9 => absurd h9 (nI_ge (a := p) (b := 4) (by omega) (by decide))) (fun _ => ?_)
  refine zr_aload_n hX rfl d_S_branch_15 ?_
  refine zr_ifnonnull hX (tgt := 27) (by decide) d_S_branch_16 ?_
  refine zr_aload_n hX rfl d_S_branch_27 ?_
  refine zr_iload_n hX rfl d_S_branch_28 ?_
  refine zr_pV hX (c_S_branchAt_0 g (d - 1) _ w u cm hH hI.1 (nI p) (zisb0 hp hth)) l_S_84 im_S_branchAt se_S_branchAt f_S_branchAt k_S.1 hH.x rfl (Nat.le_of_ble_eq_true rfl) (by omega) (Nat.zero_le _) (Nat.zero_le _) d_S_branch_29 ?_
  refine zr_ifnullN hX (tgt := 43) (by decide) d_S_branch_32 ?_
  refine zr_aload_n hX rfl d_S_branch_43 ?_
  refine zr_get hX k_S 3 (by decide) q106 rfl hH.x rfl d_S_branch_44 ?_
  refine zr_iload_n hX rfl d_S_branch_47 ?_
  refine zr_aaldN hX rfl hH.br p rfl (by omega) (by decide) d_S_branch_48 ?_
  rw [ho3]
  refine zr_ifnonnullN hX d_S_branch_49 ?_
  refine zr_aload_n hX rfl d_S_branch_52 ?_
  refine zr_get hX k_S 3 (by decide) q106 rfl hH.x rfl d_S_branch_53 ?_
  refine zr_iload_n hX rfl d_S_branch_56 ?_
  refine zr_new (fs := [.null, .int 0, .int 0, .int 0, .null]) hX k_B q26 q58 q4 (zdef_B) (by omega) (by omega) d_S_branch_57 (fun q57 hn57 => ?_)
  refine zr_dup hX rfl d_S_branch_60 ?_
  refine zr_eI0 hX (c_B_init g (d - 1) (by omega) _ q57 (zput_s _ _ _)) l_S_58 rfl im_B_init f_B_init rfl (Nat.le_of_ble_eq_true rfl) (by omega) (by omega) (by omega) d_S_branch_61 (fun Gn hGn => ?_)
  obtain ⟨aa, haa, rfl⟩ := hGn
  refine zr_aast hX k_B.1 rfl (zput_k (zfr hn57 hH.br) (zput_k (zfr haa (zput_k (zfr hn57 hH.br) hH.br)) (zput_k (zfr hn57 hH.br) hH.br))) (zput_s _ _ _) (zixN rfl (by omega) (by decide)) d_S_branch_64 ?_
  rw [show (nI p : Int32).toNatClampNeg = p from nI_clamp (by omega)]
  refine zr_aload_n hX rfl d_S_branch_65 ?_
  refine zr_get hX k_S 3 (by decide) q106 rfl (zput_k (zne hH.x hH.br rfl) (zput_k (zfr hn57 hH.x) (zput_k (zfr haa (zput_k (zfr hn57 hH.x) hH.x)) (zput_k (zfr hn57 hH.x) hH.x)))) rfl d_S_branch_66 ?_
  refine zr_iload_n hX rfl d_S_branch_69 ?_
  refine zr_aaldN hX rfl (zput_s _ _ _) p rfl (by omega) (by decide) d_S_branch_70 ?_
  rw [va_up_self]
  refine zr_iload_n hX rfl d_S_branch_71 ?_
  refine zr_aload_n hX rfl d_S_branch_72 ?_
  refine zr_get hX k_C 3 (by decide) q46 rfl (zput_k (zne (hH.cmo hqc) hH.br rfl) (zput_k (zfr hn57 (hH.cmo hqc)) (zput_k (zfr haa (zput_k (zfr hn57 (hH.cmo hqc)) (hH.cmo hqc))) (zput_k (zfr hn57 (hH.cmo hqc)) (hH.cmo hqc))))) rfl d_S_branch_73 ?_
  refine zr_uV0 hX (c_B_startAt_n g (d - 1) (by omega) _ q57 aa (w.a 2 q) 0 0 0 (nI q) (fun _ => 0) (w.f 2 q) (zput_k (Ne.symm (zfr hn57 hH.br)) (zput_s _ _ _)) (zput_k (Ne.symm (zfr haa (zput_k (zfr hn57 hH.br) hH.br))) (zput_k (Ne.symm (zfr haa (zput_s _ _ _))) (zput_s _ _ _))) (zput_k (zne (hH.cj hqc) hH.br rfl) (zput_k (zfr hn57 (hH.cj hqc)) (zput_k (zfr haa (zput_k (zfr hn57 (hH.cj hqc)) (hH.cj hqc))) (zput_k (zfr hn57 (hH.cj hqc)) (hH.cj hqc)))))) l_S_59 im_B_startAt se_B_startAt f_B_startAt k_B.1 (zput_k (Ne.symm (zfr hn57 hH.br)) (zput_s _ _ _)) rfl (Nat.le_of_ble_eq_true rfl) (by omega) (by omega) (by omega) d_S_branch_76 ?_
  exact zr_vret hX d_S_branch_79 (zbr_new hI hH hp hcm ho3 ho5 hn57 haa)
