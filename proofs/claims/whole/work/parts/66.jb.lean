theorem c_S_baseRowAt_old (g : zGt) (d : Nat) (G : zG) (w : zW) (hH : zHp w G) (dp : Nat)  (hdp : dp < 24) (q : Nat) (hq6 : w.o 6 dp = some q) : zMet g y_S_baseRowAt b_S_baseRowAt 2 (some (.object "SurveyStore$BaseRow")) [] d 0 0 [.ref (w.a 0 0), .int (nI dp)] G (zD1 (.ref q) G) := by
  refine zMet.of (by decide) (Nat.le_of_ble_eq_true rfl) rfl (fun X hX => ?_)
  refine zr_aload_n hX rfl d_S_baseRowAt_0 ?_
  refine zr_get hX k_S 12 (by decide) q115 rfl hH.x rfl d_S_baseRowAt_1 ?_
  refine zr_iload_n hX rfl d_S_baseRowAt_4 ?_
  refine zr_aaldN hX rfl hH.ro dp rfl (by omega) (by decide) d_S_baseRowAt_5 ?_
  rw [hq6]
  refine zr_ifnonnull hX (tgt := 22) (by decide) d_S_baseRowAt_6 ?_
  refine zr_aload_n hX rfl d_S_baseRowAt_22 ?_
  refine zr_get hX k_S 12 (by decide) q115 rfl hH.x rfl d_S_baseRowAt_23 ?_
  refine zr_iload_n hX rfl d_S_baseRowAt_26 ?_
  refine zr_aaldN hX rfl hH.ro dp rfl (by omega) (by decide) d_S_baseRowAt_27 ?_
  rw [hq6]
  exact zr_rret hX rfl (Or.inl ⟨_, rfl⟩) rfl d_S_baseRowAt_28 ⟨rfl, rfl⟩
theorem zrow_new {w : zW} {G : zG} (hH : zHp w G) {dp q aa : Nat} (hdp : dp < 24) (ho6 : w.o 6 dp = none) (hw : zRw w dp) (hn : G q = none) (ha : zput G q (zO 4 [.null]) aa = none) : ∃ w2 q9, Value.ref q = .ref q9 ∧ zHp w2 (zput (zput (zput (zput G q (zO 4 [.null])) aa (zI 4096 (fun _ => 0))) q (zO 4 [.ref aa])) (w.a 9 12) (zR 5 24 (va_up (w.o 6) dp (some q)))) ∧ zFr w G w2 (zput (zput (zput (zput G q (zO 4 [.null])) aa (zI 4096 (fun _ => 0))) q (zO 4 [.ref aa])) (w.a 9 12) (zR 5 24 (va_up (w.o 6) dp (some q)))) ∧ zBk dp w w2 ∧ w2.o 6 dp = some q9 ∧ zRw w2 (dp + 1) := by
  obtain ⟨ne, ha0⟩ := zpn ha
  have nb : w.a 9 12 ≠ q := zfr hn hH.ro
  have nc : w.a 9 12 ≠ aa := zfr ha0 hH.ro
  obtain ⟨h2, f2⟩ := hH.nr dp q aa hn ha0 (Ne.symm ne) (G1 := zput (zput (zput (zput G q (zO 4 [.null])) aa (zI 4096 (fun _ => 0))) q (zO 4 [.ref aa])) (w.a 9 12) (zR 5 24 (va_up (w.o 6) dp (some q)))) ((zput_n (Ne.symm nb)).trans (zput_s _ _ _)) ((zput_n (Ne.symm nc)).trans ((zput_n ne).trans (zput_s _ _ _))) (zput_s _ _ _) (fun r r1 r2 r3 => (zput_n r3).trans ((zput_n r1).trans ((zput_n r2).trans (zput_n r1))))
  refine ⟨zWnr w dp q aa, q, rfl, h2, f2, ⟨fun k hk => funext fun j => zWnr_o w dp q aa k j (by omega), fun k hk => funext fun j => zWnr_a w dp q aa k j (by omega), rfl, rfl, fun k hk => funext fun j => zWnr_n w dp q aa k j (by omega), fun d hd => ⟨zWnr_o w dp q aa 6 d (by omega), zWnr_a w dp q aa 7 d (by omega), zWnr_n w dp q aa 7 d (by omega)⟩⟩, zWnr_o0 w dp q aa, by omega, fun d hd => ?_⟩
  by_cases e : d = dp
  · rw [e, zWnr_o0 w dp q aa]
    exact ⟨fun z => (nomatch z), fun z => by omega⟩
  · rw [zWnr_o w dp q aa 6 d (by omega), hw.2 d hd]
    omega
theorem c_S_baseRowAt_new (g : zGt) (d : Nat) (hdd : 2 ≤ d) (G : zG) (w : zW) (hH : zHp w G) (dp : Nat)  (hdp : dp < 24) (ho6 : w.o 6 dp = none) (hw : zRw w dp) : zMet g y_S_baseRowAt b_S_baseRowAt 2 (some (.object "SurveyStore$BaseRow")) [] d 2 4097 [.ref (w.a 0 0), .int (nI dp)] G (fun r G1 => ∃ v, r = .inl (some v) ∧ ∃ w2 q, v = .ref q ∧ zHp w2 G1 ∧ zFr w G w2 G1 ∧ zBk dp w w2 ∧ w2.o 6 dp = some q ∧ zRw w2 (dp + 1)) := by
  refine zMet.of (by decide) (Nat.le_of_ble_eq_true rfl) rfl (fun X hX => ?_)
  refine zr_aload_n hX rfl d_S_baseRowAt_0 ?_
  refine zr_get hX k_S 12 (by decide) q115 rfl hH.x rfl d_S_baseRowAt_1 ?_
  refine zr_iload_n hX rfl d_S_baseRowAt_4 ?_
  refine zr_aaldN hX rfl hH.ro dp rfl (by omega) (by decide) d_S_baseRowAt_5 ?_
  rw [ho6]
  refine zr_ifnonnullN hX d_S_baseRowAt_6 ?_
  refine zr_aload_n hX rfl d_S_baseRowAt_9 ?_
  refine zr_get hX k_S 12 (by decide) q115 rfl hH.x rfl d_S_baseRowAt_10 ?_
  refine zr_iload_n hX rfl d_S_baseRowAt_13 ?_
  refine zr_new (fs := [.null]) hX k_R q28 q549 q13 (zdef_R) (by omega) (by omega) d_S_baseRowAt_14 (fun q14 hn14 => ?_)
  refine zr_dup hX rfl d_S_baseRowAt_17 ?_
  refine zr_eI0 hX (c_R_init g (d - 1) (by omega) _ q14 (zput_s _ _ _)) l_S_323 rfl im_R_init f_R_init rfl (Nat.le_of_ble_eq_true rfl) (by omega) (by omega) (by omega) d_S_baseRowAt_18 (fun Gn hGn => ?_)
  obtain ⟨aa, haa, rfl⟩ := hGn
  refine zr_aast hX k_R.1 rfl (zput_k (zfr hn14 hH.ro) (zput_k (zfr haa (zput_k (zfr hn14 hH.ro) hH.ro)) (zput_k (zfr hn14 hH.ro) hH.ro))) (zput_s _ _ _) (zixN rfl (by omega) (by decide)) d_S_baseRowAt_21 ?_
  rw [show (nI dp : Int32).toNatClampNeg = dp from nI_clamp (by omega)]
  refine zr_aload_n hX rfl d_S_baseRowAt_22 ?_
  refine zr_get hX k_S 12 (by decide) q115 rfl (zput_k (zne hH.x hH.ro rfl) (zput_k (zfr hn14 hH.x) (zput_k (zfr haa (zput_k (zfr hn14 hH.x) hH.x)) (zput_k (zfr hn14 hH.x) hH.x)))) rfl d_S_baseRowAt_23 ?_
  refine zr_iload_n hX rfl d_S_baseRowAt_26 ?_
  refine zr_aaldN hX rfl (zput_s _ _ _) dp rfl (by omega) (by decide) d_S_baseRowAt_27 ?_
  rw [va_up_self]
  exact zr_rret hX rfl (Or.inl ⟨_, rfl⟩) rfl d_S_baseRowAt_28 ⟨_, rfl, zrow_new hH hdp ho6 hw hn14 haa⟩
theorem c_S_joinBase_t (g : zGt) (d : Nat) (hdd : 3 ≤ d) (G : zG) (w : zW) (u : zU) (cm : Nat) (hH : zHp w G) (hR : zRl w u cm) (dp n qr : Nat) (hq6 : w.o 6 dp = some qr)  (hn : n < cm) : zMet g y_S_joinBase b_S_joinBase 6 none [] d 0 0 [.ref (w.a 0 0), .ref qr, .int 0, .int (nI n), .int (nI dp)] G (fun r G1 => r = .inl none ∧ ∃ f, G1 = zput G (w.a 7 dp) (zI 4096 f) ∧ ∀ k, k < 4096 → f k = s_S_valueOf (w.f 2 n k)) := by
  refine zMet.of (by decide) (Nat.le_of_ble_eq_true rfl) rfl (fun X hX => ?_)
  obtain ⟨qc, hqc, hzc⟩ := hR.cmn hn
  refine zr_aload_n hX rfl d_S_joinBase_0 ?_
  refine zr_iload_n hX rfl d_S_joinBase_1 ?_
  refine zr_pV hX (c_S_commitAt_1 g (d - 1) _ w hH (nI n) qc hzc) l_S_77 im_S_commitAt se_S_commitAt f_S_commitAt k_S.1 hH.x rfl (Nat.le_of_ble_eq_true rfl) (by omega) (Nat.zero_le _) (Nat.zero_le _) d_S_joinBase_2 ?_
  refine zs_astore hX (by decide) rfl d_S_joinBase_5 ?_
  refine zr_aload hX rfl d_S_joinBase_7 ?_
  refine zr_ifnonnull hX (tgt := 13) (by decide) d_S_joinBase_9 ?_
  refine zr_iload_n hX rfl d_S_joinBase_13 ?_
  refine zr_if_ne hX (tgt := 29) d_S_joinBase_14 (by decide) (fun h => absurd h (by decide)) (fun _ => ?_)
  refine zr_aload_n hX rfl d_S_joinBase_17 ?_
  refine zr_aload hX rfl d_S_joinBase_18 ?_
  refine zr_get hX k_C 3 (by decide) q46 rfl (hH.cmo hqc) rfl d_S_joinBase_20 ?_
  refine zr_eV0 hX (c_R_take g (d - 1) (by omega) _ qr (w.a 7 dp) (w.a 2 n) (w.n 7 dp) (w.f 2 n) (hH.rm hq6) (hH.rv hq6) (hH.cj hqc)) l_S_315 im_R_take se_R_take f_R_take k_R.1 (hH.rm hq6) rfl (Nat.le_of_ble_eq_true rfl) (by omega) (by omega) (by omega) d_S_joinBase_23 (fun Gn hGn => ?_)
  obtain ⟨f, rfl, hf⟩ := hGn
  refine zr_goto hX (tgt := 60) (by decide) d_S_joinBase_26 ?_
  exact zr_vret hX d_S_joinBase_60 ⟨rfl, f, rfl, hf⟩
theorem zBk.dn {dp : Nat} {w w2 : zW} (h : zBk (dp + 1) w w2) : zBk dp w w2 := ⟨h.1, h.2.1, h.2.2.1, h.2.2.2.1, h.2.2.2.2.1, fun d hd => h.2.2.2.2.2 d (by omega)⟩
theorem c_S_joinBase_m (g : zGt) (d : Nat) (hdd : 4 ≤ d) (G : zG) (w : zW) (u : zU) (cm : Nat) (hH : zHp w G) (hR : zRl w u cm) (dp n qr : Nat) (S : Int32) (mcB msB wm2 : Nat) (bs : Nat → Int32) (hq6 : w.o 6 dp = some qr)  (hn : n < cm) (hS : ¬ S = 0) (hdp : dp + 1 < 24) (hB : zMet g y_S_baseOf b_S_baseOf 8 (some (.object "SurveyStore$BaseRow")) [] (d - 1) mcB msB [.ref (w.a 0 0), .int S, .int (nI n), .int (nI (dp + 1))] G (fun r G1 => ∃ v, r = .inl (some v) ∧ zBp (dp + 1) w wm2 bs G v G1)) : zMet g y_S_joinBase b_S_joinBase 6 none [] d mcB msB [.ref (w.a 0 0), .ref qr, .int S, .int (nI n), .int (nI dp)] G (fun r G1 => r = .inl none ∧ ∃ w3, zHp w3 G1 ∧ zFr w G w3 G1 ∧ zBk dp w w3 ∧ w3.o 6 dp = some qr ∧ zRw w3 wm2 ∧ ∀ k, k < 4096 → w3.n 7 dp k = zjn (w.n 7 dp) (fun i => s_S_valueOf (w.f 2 n i)) bs k) := by
  refine zMet.of (by decide) (Nat.le_of_ble_eq_true rfl) rfl (fun X hX => ?_)
  obtain ⟨qc, hqc, hzc⟩ := hR.cmn hn
  refine zr_aload_n hX rfl d_S_joinBase_0 ?_
  refine zr_iload_n hX rfl d_S_joinBase_1 ?_
  refine zr_pV hX (c_S_commitAt_1 g (d - 1) _ w hH (nI n) qc hzc) l_S_77 im_S_commitAt se_S_commitAt f_S_commitAt k_S.1 hH.x rfl (Nat.le_of_ble_eq_true rfl) (by omega) (Nat.zero_le _) (Nat.zero_le _) d_S_joinBase_2 ?_
  refine zs_astore hX (by decide) rfl d_S_joinBase_5 ?_
  refine zr_aload hX rfl d_S_joinBase_7 ?_
  refine zr_ifnonnull hX (tgt := 13) (by decide) d_S_joinBase_9 ?_
  refine zr_iload_n hX rfl d_S_joinBase_13 ?_
  refine zr_if_ne hX (tgt := 29) d_S_joinBase_14 (by decide) (fun _ => ?_) (fun h9 => absurd h9 hS)
  refine zr_iload hX rfl d_S_joinBase_29 ?_
  refine zr_iconst (v := 1) hX rfl d_S_joinBase_31 ?_
  refine zn_iadd (a := dp) (b := 1) hX d_S_joinBase_32 ?_
  refine zr_bipush (v := 24) hX rfl d_S_joinBase_33 ?_
  refine zr_icmp_ge hX (tgt := 60) d_S_joinBase_35 (by decide) (fun h9 => absurd h9 (nI_ge (a := (dp + 1)) (b := 24) (by omega) (by decide))) (fun _ => ?_)
  refine zr_aload_n hX rfl d_S_joinBase_38 ?_
  refine zr_aload hX rfl d_S_joinBase_39 ?_
  refine zr_get hX k_C 3 (by decide) q46 rfl (hH.cmo hqc) rfl d_S_joinBase_41 ?_
  refine zr_aload_n hX rfl d_S_joinBase_44 ?_
  refine zr_iload_n hX rfl d_S_joinBase_45 ?_
  refine zr_iload_n hX rfl d_S_joinBase_46 ?_
  refine zr_iload hX rfl d_S_joinBase_47 ?_
  refine zr_iconst (v := 1) hX rfl d_S_joinBase_49 ?_
  refine zn_iadd (a := dp) (b := 1) hX d_S_joinBase_50 ?_
  refine zr_eV1 hX hB l_S_189 im_S_baseOf se_S_baseOf f_S_baseOf k_S.1 hH.x rfl (Nat.le_of_ble_eq_true rfl) (by omega) (by omega) (by omega) d_S_joinBase_51 (fun v9 G9 hG9 => ?_)
  obtain ⟨w2, q2, rfl, h2, f2, b2, o2, r2, v2⟩ := hG9
  have o6 : w2.o 6 dp = some qr := (b2.2.2.2.2.2 dp (by omega)).1.trans hq6
  have oc : w2.o 1 n = some qc := by rw [b2.1 1 (by decide)]; exact hqc
  have ea : w2.a 2 n = w.a 2 n := by rw [b2.2.1 2 (by decide)]
  have hcj := h2.cj oc
  rw [ea, b2.2.2.2.1] at hcj
  refine zr_get hX k_R 0 (by decide) q555 rfl (h2.rm o2) rfl d_S_joinBase_54 ?_
  refine zr_eV0 hX (c_R_mergeWith g (d - 1) (by omega) _ qr (w2.a 7 dp) (w.a 2 n) (w2.n 7 dp) (w.f 2 n) (w2.a 7 (dp + 1)) (w2.n 7 (dp + 1)) (h2.rm o6) (h2.rv o6) hcj (h2.rv o2) (h2.ne 7 dp 7 (dp + 1) (zmp o6) (zmp o2) (by omega))) l_S_319 im_R_mergeWith se_R_mergeWith f_R_mergeWith k_R.1 (h2.rm o6) rfl (Nat.le_of_ble_eq_true rfl) (by omega) (by omega) (by omega) d_S_joinBase_57 (fun Gn hGn => ?_)
  obtain ⟨f, rfl, hf⟩ := hGn
  exact zr_vret hX d_S_joinBase_60 ⟨rfl, zWn w2 7 dp f, h2.wr o6 f, f2.tr (zFr.wr o6 f), zBk.tr (zBk.dn b2) (zBk.wr w2 dp f) (Nat.le_refl _), o6, r2, fun k hk => by
        show zud w2.n 7 dp f 7 dp k = _
        rw [zud_s, hf k hk]
        exact zjn_c (congrFun (b2.2.2.2.2.2 dp (by omega)).2.2 k) rfl (v2 k hk)⟩
