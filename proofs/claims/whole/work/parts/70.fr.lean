theorem c_S_mergeCells (g : zGt) (d : Nat) (hdd : 3 ≤ d) (G : zG) (w : zW) (u : zU) (p c qb qc qr kq : Nat) (hp : p < 4) (hc : c < 24) (hH : zHp w G) (hq3 : w.o 3 p = some qb) (hqc : w.o 1 c = some qc) (hq6 : w.o 6 0 = some qr) (hk : w.o 5 p = some kq) (e7 : w.i 7 p = nI 0) (e8 : w.i 8 p = nI 0) (hcr : zCr (w.f 2 c) u c) (hbs : ∀ k, k < 4096 → w.n 7 0 k = u.ar 26 k) (hki : ∀ k, k < 4 → w.n 9 0 k = u.ar 3 k) (hs0 : zMg p u u (w.f 4 p) (fun k => w.n k p) 0 0) : zMet g y_S_mergeCells b_S_mergeCells 9 none [] d 0 0 [.ref (w.a 0 0), .ref (w.a 4 p), .ref (w.a 2 c), .ref (w.a 7 0), .ref kq] G (fun r G1 => r = .inl none ∧ ∃ w2 e, zHp w2 G1 ∧ zFr w G w2 G1 ∧ zMw p w w2 ∧ zMg p u (zfor 4096 (st_M_merge p c) u) (w2.f 4 p) (fun k => w2.n k p) e 4096 ∧ w2.i 7 p = nI e ∧ w2.i 8 p = nI e) := by
  refine zMet.of (by decide) (Nat.le_of_ble_eq_true rfl) rfl (fun X hX => ?_)
  refine zr_iconst (v := 0) hX rfl d_S_mergeCells_0 ?_
  refine zs_istore hX (by decide) rfl d_S_mergeCells_1 ?_
  have L : ∀ j, j ≤ 4096 → ∀ (w9 : zW) (e9 : Nat) (G9 : zG), zHp w9 G9 → zFr w G w9 G9 → zMw p w w9 → zMg p u (zfor j (st_M_merge p c) u) (w9.f 4 p) (fun k => w9.n k p) e9 j → w9.i 7 p = nI e9 → w9.i 8 p = nI e9 → zw g X (fun r G1 => r = .inl none ∧ ∃ w2 e, zHp w2 G1 ∧ zFr w G w2 G1 ∧ zMw p w w2 ∧ zMg p u (zfor 4096 (st_M_merge p c) u) (w2.f 4 p) (fun k => w2.n k p) e 4096 ∧ w2.i 7 p = nI e ∧ w2.i 8 p = nI e) 3 [some (.ref (w9.a 0 0)), some (.ref (w9.a 4 p)), some (.ref (w9.a 2 c)), some (.ref (w9.a 7 0)), some (.ref kq), some (.int (nI j)), none, none, none] [] G9 0 0 := by
    refine zup 4096 (fun j hj ih => ?_)
    intro w9 e9 G9 hH9 f9 m9 hs9 e79 e89
    by_cases hlt : j < 4096
    · have h1 := hs9.1
      have hs := hs9
      obtain ⟨k1, k2, k3, k4, k5, k6, k7, -⟩ := hs
      have o9 : w9.o = w.o := m9.1
      have hf2 : w9.f 2 c = w.f 2 c := m9.2.2.2.1 2 c (by omega)
      have hcell : w9.f 2 c j = zcell ((zfor j (st_M_merge p c) u).ar 1 (4096 * c + j)) ((zfor j (st_M_merge p c) u).ar 2 (4096 * c + j)) := by
        rw [hf2, hcr j hlt, (k3 (4096 * c + j) (by omega)).1, (k3 (4096 * c + j) (by omega)).2]
      have hvo := k4 (4096 * c + j) (by omega)
      have hm : zmk w9 p c j (zfor j (st_M_merge p c) u) := ⟨hs9.val hp hlt, by rw [hcell]; exact zc_val hvo, by rw [m9.2.2.2.2 7 0 (by omega), hbs j hlt, k2 26 (by omega) (by omega) (by omega)], by rw [m9.2.2.2.2 9 0 (by omega), hki (j / 1024) (by omega), k2 3 (by omega) (by omega) (by omega)], k5 j hlt, hcell, k4 _ (by omega), hvo⟩
      refine zmc_step hX hdd (w := w9) (G := G9) (qb := qb) (qc := qc) (qr := qr) (kq := kq) hp hlt (by omega) hH9 (by rw [o9]; exact hq3) (by rw [o9]; exact hqc) (by rw [o9]; exact hq6) (by rw [o9]; exact hk) e79 e89 hm hs9 (fun w2 e2 G2 a1 a2 a3 a4 a5 a6 => ?_)
      have hz := ih hlt w2 e2 G2 a1 (f9.tr a2) (m9.tr a3) (by rw [zfor_s]; exact a4) a5 a6
      rw [a3.2.1] at hz
      exact hz
    · have ej : 4096 = j := by omega
      subst ej
      refine zr_iload hX rfl d_S_mergeCells_3 ?_
      refine zr_sipush (v := 4096) hX rfl d_S_mergeCells_5 ?_
      refine zr_icmp_ge hX (tgt := 135) d_S_mergeCells_8 (by decide) (fun _ => ?_) (fun h9 => absurd h9 (zq_leT (a := 4096) (b := 4096) (by omega) (by decide)))
      exact zr_vret hX d_S_mergeCells_135 ⟨rfl, w9, e9, hH9, f9, m9, hs9, e79, e89⟩
  exact L 0 (Nat.zero_le _) w 0 G hH (zFr.rf w G) (zMw.rf p w) hs0 e7 e8
theorem c_B_fresh_k (g : zGt) (d : Nat) (hdd : 1 ≤ d) (G : zG) (q bc kq a0 a1 a2 a3 a4 : Nat) (t h9 mg c un : Int32) (hq : G q = some (zO 2 [.ref bc, .int t, .int h9, .int mg, .ref kq])) (hk : G kq = some (zO 3 [.ref a0, .ref a1, .ref a2, .ref a3, .ref a4, .int c, .int un]))  : zMet g y_B_freshConflicts b_B_freshConflicts 1 (some (.object "SurveyStore$Conflicts")) [] d 0 0 [.ref q] G (zD1 (.ref kq) (zput G kq (zO 3 [.ref a0, .ref a1, .ref a2, .ref a3, .ref a4, .int 0, .int 0]))) := by
  refine zMet.of (by decide) (Nat.le_of_ble_eq_true rfl) rfl (fun X hX => ?_)
  refine zr_aload_n hX rfl d_B_freshConflicts_0 ?_
  refine zr_get hX k_B 4 (by decide) q71 rfl hq rfl d_B_freshConflicts_1 ?_
  refine zr_ifnonnull hX (tgt := 18) (by decide) d_B_freshConflicts_4 ?_
  refine zr_aload_n hX rfl d_B_freshConflicts_18 ?_
  refine zr_get hX k_B 4 (by decide) q71 rfl hq rfl d_B_freshConflicts_19 ?_
  refine zr_uV0 hX (c_K_forget g (d - 1) _ kq a0 a1 a2 a3 a4 c un hk) l_B_40 im_K_forget se_K_forget f_K_forget k_K.1 hk rfl (Nat.le_of_ble_eq_true rfl) (by omega) (by omega) (by omega) d_B_freshConflicts_22 ?_
  refine zr_aload_n hX rfl d_B_freshConflicts_25 ?_
  refine zr_get hX k_B 4 (by decide) q71 rfl (zput_k (zne hq hk rfl) hq) rfl d_B_freshConflicts_26 ?_
  exact zr_rret hX rfl (Or.inl ⟨_, rfl⟩) rfl d_B_freshConflicts_29 ⟨rfl, rfl⟩
theorem c_B_fresh_n (g : zGt) (d : Nat) (hdd : 2 ≤ d) (G : zG) (q bc : Nat) (t h9 mg : Int32) (hq : G q = some (zO 2 [.ref bc, .int t, .int h9, .int mg, .null]))  : zMet g y_B_freshConflicts b_B_freshConflicts 1 (some (.object "SurveyStore$Conflicts")) [] d 6 20487 [.ref q] G (fun r G1 => ∃ v, r = .inl (some v) ∧ ∃ kq a0 a1 a2 a3 a4, v = .ref kq ∧ (G kq = none ∧ G a0 = none ∧ G a1 = none ∧ G a2 = none ∧ G a3 = none ∧ G a4 = none) ∧ (kq ≠ a0 ∧ kq ≠ a1 ∧ kq ≠ a2 ∧ kq ≠ a3 ∧ kq ≠ a4 ∧ a0 ≠ a1 ∧ a0 ≠ a2 ∧ a0 ≠ a3 ∧ a0 ≠ a4 ∧ a1 ≠ a2 ∧ a1 ≠ a3 ∧ a1 ≠ a4 ∧ a2 ≠ a3 ∧ a2 ≠ a4 ∧ a3 ≠ a4) ∧ G1 kq = some (zO 3 [.ref a0, .ref a1, .ref a2, .ref a3, .ref a4, .int 0, .int 0]) ∧ G1 a0 = some (zI 4096 (fun _ => 0)) ∧ G1 a1 = some (zI 4096 (fun _ => 0)) ∧ G1 a2 = some (zI 4096 (fun _ => 0)) ∧ G1 a3 = some (zI 4096 (fun _ => 0)) ∧ G1 a4 = some (zB 4096 (fun _ => 0)) ∧ G1 q = some (zO 2 [.ref bc, .int t, .int h9, .int mg, .ref kq]) ∧ ∀ r, r ≠ kq → r ≠ a0 → r ≠ a1 → r ≠ a2 → r ≠ a3 → r ≠ a4 → r ≠ q → G1 r = G r) := by
  refine zMet.of (by decide) (Nat.le_of_ble_eq_true rfl) rfl (fun X hX => ?_)
  refine zr_aload_n hX rfl d_B_freshConflicts_0 ?_
  refine zr_get hX k_B 4 (by decide) q71 rfl hq rfl d_B_freshConflicts_1 ?_
  refine zr_ifnonnullN hX d_B_freshConflicts_4 ?_
  refine zr_aload_n hX rfl d_B_freshConflicts_7 ?_
  refine zr_new (fs := [.null, .null, .null, .null, .null, .int 0, .int 0]) hX k_K q580 q581 q14 (zdef_K) (by omega) (by omega) d_B_freshConflicts_8 (fun q8 hn8 => ?_)
  refine zr_dup hX rfl d_B_freshConflicts_11 ?_
  refine zr_eI0 hX (c_K_init g (d - 1) (by omega) _ q8 (zput_s _ _ _)) l_B_45 rfl im_K_init f_K_init rfl (Nat.le_of_ble_eq_true rfl) (by omega) (by omega) (by omega) d_B_freshConflicts_12 (fun Gn hGn => ?_)
  obtain ⟨a0, a1, a2, a3, a4, ⟨g0, g1, g2, g3, g4⟩, hne, hkq, n0, n1, n2, n3, n4, nr⟩ := hGn
  have z0 := zpn g0
  have z1 := zpn g1
  have z2 := zpn g2
  have z3 := zpn g3
  have z4 := zpn g4
  have nq8 : q ≠ q8 := zfr hn8 hq
  have nqa : q ≠ a0 ∧ q ≠ a1 ∧ q ≠ a2 ∧ q ≠ a3 ∧ q ≠ a4 := ⟨zfr z0.2 hq, zfr z1.2 hq, zfr z2.2 hq, zfr z3.2 hq, zfr z4.2 hq⟩
  have hqn : Gn q = some (zO 2 [.ref bc, .int t, .int h9, .int mg, .null]) := ((nr q nq8 nqa.1 nqa.2.1 nqa.2.2.1 nqa.2.2.2.1 nqa.2.2.2.2).trans (zput_n nq8)).trans hq
  refine zr_put hX k_B 4 (by decide) q71 rfl rfl rfl rfl (Nat.le_of_ble_eq_true rfl) hqn d_B_freshConflicts_15 ?_
  refine zr_aload_n hX rfl d_B_freshConflicts_18 ?_
  refine zr_get hX k_B 4 (by decide) q71 rfl (zput_s _ _ _) rfl d_B_freshConflicts_19 ?_
  refine zr_uV0 hX (c_K_forget g (d - 1) _ q8 a0 a1 a2 a3 a4 0 0 (zput_k (zne hkq hqn rfl) hkq)) l_B_40 im_K_forget se_K_forget f_K_forget k_K.1 (zput_k (zne hkq hqn rfl) hkq) rfl (Nat.le_of_ble_eq_true rfl) (by omega) (by omega) (by omega) d_B_freshConflicts_22 ?_
  refine zr_aload_n hX rfl d_B_freshConflicts_25 ?_
  refine zr_get hX k_B 4 (by decide) q71 rfl (zput_k (zne hqn hkq rfl) (zput_s _ _ _)) rfl d_B_freshConflicts_26 ?_
  exact zr_rret hX rfl (Or.inl ⟨_, rfl⟩) rfl d_B_freshConflicts_29 ⟨_, rfl, q8, a0, a1, a2, a3, a4, rfl, ⟨hn8, z0.2, z1.2, z2.2, z3.2, z4.2⟩, ⟨Ne.symm z0.1, Ne.symm z1.1, Ne.symm z2.1, Ne.symm z3.1, Ne.symm z4.1, hne⟩, zput_s _ _ _, (zput_n z0.1).trans ((zput_n (Ne.symm nqa.1)).trans n0), (zput_n z1.1).trans ((zput_n (Ne.symm nqa.2.1)).trans n1), (zput_n z2.1).trans ((zput_n (Ne.symm nqa.2.2.1)).trans n2), (zput_n z3.1).trans ((zput_n (Ne.symm nqa.2.2.2.1)).trans n3), (zput_n z4.1).trans ((zput_n (Ne.symm nqa.2.2.2.2)).trans n4), (zput_n nq8).trans (zput_s _ _ _), fun r r0 r1 r2 r3 r4 r5 r6 => (zput_n r0).trans ((zput_n r6).trans ((nr r r0 r1 r2 r3 r4 r5).trans (zput_n r0)))⟩
