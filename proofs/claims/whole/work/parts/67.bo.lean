theorem c_S_baseRowAt (g : zGt) (d : Nat) (hdd : 2 ≤ d) (G : zG) (w : zW) (hH : zHp w G) (dp wm : Nat) (hdp : dp < 24) (hw : zRw w wm) (hdw : dp ≤ wm) : zMet g y_S_baseRowAt b_S_baseRowAt 2 (some (.object "SurveyStore$BaseRow")) [] d (2 * (max wm (dp + 1) - wm)) (4097 * (max wm (dp + 1) - wm)) [.ref (w.a 0 0), .int (nI dp)] G (fun r G1 => ∃ v, r = .inl (some v) ∧ ∃ w2 q, v = .ref q ∧ zHp w2 G1 ∧ zFr w G w2 G1 ∧ zBk dp w w2 ∧ w2.o 6 dp = some q ∧ zRw w2 (max wm (dp + 1))) := by
  by_cases e : dp < wm
  · rw [show max wm (dp + 1) = wm by omega, Nat.sub_self]
    cases ho : w.o 6 dp with
    | none => exact absurd ((hw.2 dp hdp).mp ho) (by omega)
    | some q =>
      refine (c_S_baseRowAt_old g d G w hH dp hdp q ho).mono (fun r G1 h => ?_)
      obtain ⟨h1, h2⟩ := h
      subst h2
      exact ⟨_, h1, w, q, rfl, hH, zFr.rf w G1, zBk.rf dp w, ho, hw⟩
  · have e2 : wm = dp := by omega
    subst e2
    rw [show max wm (wm + 1) = wm + 1 by omega, show wm + 1 - wm = 1 by omega]
    exact c_S_baseRowAt_new g d hdd G w hH wm hdp ((hw.2 wm hdp).mpr (Nat.le_refl _)) hw
theorem c_S_baseOf (g : zGt) (u : zU) (cm : Nat) : ∀ (f d : Nat) (G : zG) (w : zW) (wm dp c : Nat) (S : Int32), 2 * f + 8 ≤ d → zHp w G → zRl w u cm → zRw w wm → dp ≤ wm → c < f → dp + c < 24 → c < cm → (∀ k, k < 32 → zbt S k = true → k < cm ∧ ¬ zbt (w.i 3 k) c = true) → (∃ k, k < 32 ∧ zbt S k = true) →
    zMet g y_S_baseOf b_S_baseOf 8 (some (.object "SurveyStore$BaseRow")) [] d (2 * (max wm (dp + (zbs (fun n k => u.ar 1 (4096 * n + k)) (fun s c => s_M_nearestOf u s (nI c) cm) cm f S c).2) - wm)) (4097 * (max wm (dp + (zbs (fun n k => u.ar 1 (4096 * n + k)) (fun s c => s_M_nearestOf u s (nI c) cm) cm f S c).2) - wm)) [.ref (w.a 0 0), .int S, .int (nI c), .int (nI dp)] G (fun r G1 => ∃ v, r = .inl (some v) ∧ zBp dp w (max wm (dp + (zbs (fun n k => u.ar 1 (4096 * n + k)) (fun s c => s_M_nearestOf u s (nI c) cm) cm f S c).2)) (zbs (fun n k => u.ar 1 (4096 * n + k)) (fun s c => s_M_nearestOf u s (nI c) cm) cm f S c).1 G v G1) := by
  intro f
  induction f with
  | zero => intro d G w wm dp c S _ _ _ _ _ hc; exact absurd hc (Nat.not_lt_zero _)
  | succ f ih =>
    intro d G w wm dp c S hd hH hR hw hdw hcf hdc hcm hS hSn
    have hm := hR.hm
    obtain ⟨V, hV⟩ : ∃ V : Nat → Nat → Int32, V = fun n k => u.ar 1 (4096 * n + k) := ⟨_, rfl⟩
    obtain ⟨N, hN⟩ : ∃ N : Int32 → Nat → Int32, N = fun s c => s_M_nearestOf u s (nI c) cm := ⟨_, rfl⟩
    rw [← hV, ← hN] at ih ⊢
    obtain ⟨W, hW⟩ : ∃ W, W = N S c := ⟨_, rfl⟩
    obtain ⟨stp, hstp⟩ : ∃ stp, stp = zbst V (zbs V N cm f) W := ⟨_, rfl⟩
    obtain ⟨s0, hs0⟩ : ∃ s0 : Int32 × (Nat → Int32) × Nat, s0 = (0, (fun _ => 0), 1) := ⟨_, rfl⟩
    have hzb : zbs V N cm (f + 1) S c = (zfor cm stp s0).2 := by rw [hstp, hs0, hW]; rfl
    rw [hzb]
    have hWb : W = s_M_nearestOf u S (nI c) cm := by rw [hW, hN]
    have hSb : ∀ k, k < 32 → zbt S k = true → k < cm := fun k hk hz => (hS k hk hz).1
    have hmono : ∀ n, n ≤ cm → (zfor n stp s0).2.2 ≤ (zfor cm stp s0).2.2 := fun n hn => by rw [hstp]; exact zbsm _ _ _ _ cm n hn
    have h1t : 1 ≤ (zfor cm stp s0).2.2 := by
      have h9 := hmono 0 (Nat.zero_le _)
      have e9 : (zfor 0 stp s0).2.2 = 1 := by rw [zfor_0, hs0]
      omega
    obtain ⟨TT, hTT⟩ : ∃ TT, TT = (zfor cm stp s0).2.2 := ⟨_, rfl⟩
    rw [← hTT] at hmono h1t ⊢
    obtain ⟨RR, hRR⟩ : ∃ RR, RR = (zfor cm stp s0).2.1 := ⟨_, rfl⟩
    rw [← hRR]
    refine zMet.of (by decide) (Nat.le_of_ble_eq_true rfl) rfl (fun X hX => ?_)
    refine zr_aload_n hX rfl d_S_baseOf_0 ?_
    refine zr_iload_n hX rfl d_S_baseOf_1 ?_
    refine zr_eV1 hX (c_S_baseRowAt g (d - 1) (by omega) G w hH dp wm (by omega) hw hdw) l_S_307 im_S_baseRowAt se_S_baseRowAt f_S_baseRowAt k_S.1 hH.x rfl (Nat.le_of_ble_eq_true rfl) (by omega) (by omega) (by omega) d_S_baseOf_2 (fun v1 G1 h1 => ?_)
    obtain ⟨w1, q, rfl, hH1, f1, b1, o1, r1⟩ := h1
    have hR1 := hR.we b1.we
    have x1 := b1.x
    refine zs_astore hX (by decide) rfl d_S_baseOf_5 ?_
    refine zr_aload_n hX rfl d_S_baseOf_7 ?_
    refine zr_iload_n hX rfl d_S_baseOf_8 ?_
    refine zr_iload_n hX rfl d_S_baseOf_9 ?_
    have cN := c_S_nearestOf g (d - 1) (by omega) G1 w1 u cm hH1 hR1 S c hcm
    rw [x1, znr_eq hR1.hi hSb hcm, ← hWb] at cN
    have hx1 := hH1.x
    rw [x1] at hx1
    refine zr_pV hX cN l_S_260 im_S_nearestOf se_S_nearestOf f_S_nearestOf k_S.1 hx1 rfl (Nat.le_of_ble_eq_true rfl) (by omega) (by omega) (by omega) d_S_baseOf_10 ?_
    refine zs_istore hX (by decide) rfl d_S_baseOf_13 ?_
    refine zr_iconst (v := 0) hX rfl d_S_baseOf_15 ?_
    refine zs_istore hX (by decide) rfl d_S_baseOf_16 ?_
    refine zr_iconst (v := 0) hX rfl d_S_baseOf_18 ?_
    refine zs_istore hX (by decide) rfl d_S_baseOf_19 ?_
    have L21 : ∀ n, n ≤ cm → ∀ (w9 : zW) (G9 : zG), zHp w9 G9 → zFr w G w9 G9 → zBk dp w w9 → w9.o 6 dp = some q → zRw w9 (max wm (dp + (zfor n stp s0).2.2)) → (¬ (zfor n stp s0).1 = 0 → ∀ k, k < 4096 → w9.n 7 dp k = (zfor n stp s0).2.1 k) → zw g X (fun r G1 => ∃ v, r = .inl (some v) ∧ zBp dp w (max wm (dp + TT)) RR G v G1) 21 [some (.ref (w.a 0 0)), some (.int S), some (.int (nI c)), some (.int (nI dp)), some (.ref q), some (.int W), some (.int (zfor n stp s0).1), some (.int (nI n))] [] G9 (2 * (max wm (dp + (zfor n stp s0).2.2) - wm)) (4097 * (max wm (dp + (zfor n stp s0).2.2) - wm)) := by
      refine zup cm (fun n hn ih2 => ?_)
      intro w9 G9 hH9 f9 b9 o9 r9 v9
      have hR9 := hR.we b9.we
      have x9 := b9.x
      have hx9 := hH9.x
      rw [x9] at hx9
      have a2 : w9.i 0 2 = nI cm := hR9.1.2.1
      have hbnd := hmono n hn
      have hA : w9.i 3 = w.i 3 := by rw [b9.2.2.1]
      refine zr_iload hX rfl d_S_baseOf_21 ?_
      refine zr_aload_n hX rfl d_S_baseOf_23 ?_
      refine zr_get hX k_S 2 (by decide) q105 rfl hx9 (zsf2 a2) d_S_baseOf_24 ?_
      by_cases hlt : n < cm
      · refine zr_icmp_ge hX (tgt := 66) d_S_baseOf_27 (by decide) (fun h9 => absurd h9 (nI_ge (a := n) (b := cm) (by omega) (by omega))) (fun _ => ?_)
        have hnext := hmono (n + 1) (by omega)
        have hst : zfor (n + 1) stp s0 = zbst V (zbs V N cm f) W n (zfor n stp s0) := by rw [zfor_s, hstp]
        have hD : ∀ k, k < 32 → (zbt (zfor n stp s0).1 k = true ↔ k < n ∧ zbt W k = true) := fun k hk => by rw [hstp, hs0]; exact zbst_D V (zbs V N cm f) W (fun _ => 0) 1 hm n hn k hk
        obtain ⟨t, ht⟩ : ∃ t, t = zfor n stp s0 := ⟨_, rfl⟩
        rw [← ht] at r9 v9 hbnd hst hD ⊢
        refine zr_iload hX rfl d_S_baseOf_30 ?_
        refine zr_iload hX rfl d_S_baseOf_32 ?_
        refine zr_pS hX (c_S_contains g (d - 1) _ W (nI n)) l_S_186 st_S_contains f_S_contains rfl (Nat.le_of_ble_eq_true rfl) (by omega) (by omega) (by omega) d_S_baseOf_34 ?_
        refine zr_if_eq hX (tgt := 60) d_S_baseOf_37 (by decide) (fun h37 => ?_) (fun h37 => ?_)
        · have hb : ¬ zbt W n = true := fun z => zcon0 h37 ((zbt_t (by omega)).mpr z)
          refine zs_iinc (v := nI (n + 1)) hX rfl (nI_add _ 1) (by decide) rfl d_S_baseOf_60 ?_
          refine zr_goto hX (tgt := 21) (by decide) d_S_baseOf_63 ?_
          have e : zfor (n + 1) stp s0 = t := by
            rw [hst]; unfold zbst; rw [if_neg hb]
          have hz := ih2 hlt w9 G9 hH9 f9 b9 o9
          rw [e] at hz
          exact hz r9 v9
        · have hb : zbt W n = true := (zbt_t (by omega)).mp (zcon1 h37)
          have hne : zNe cm (w.i 3) S c n := by
            rw [hWb] at hb
            exact (hR.hi.near hSb hcm (by omega)).mp hb
          have hnc : n < c := by
            have h1 := hR.hi.le c hcm n (by omega) hne.2.1.2
            by_cases e : n = c
            · obtain ⟨m, m1, m2, m3⟩ := hne.2.1.1
              rw [e] at m3
              exact absurd m3 (hS m (by omega) m2).2
            · omega
          refine zr_aload_n hX rfl d_S_baseOf_40 ?_
          refine zr_aload hX rfl d_S_baseOf_41 ?_
          refine zr_iload hX rfl d_S_baseOf_43 ?_
          refine zr_iload hX rfl d_S_baseOf_45 ?_
          refine zr_iload_n hX rfl d_S_baseOf_47 ?_
          have hval : ∀ k, k < 4096 → s_S_valueOf (w9.f 2 n k) = V n k := fun k hk => by
            rw [hV]
            exact (hR9.1.2.2.2.2.2.2 n hlt).2.2.val hR9.iv (by omega) hk
          by_cases h0 : t.1 = 0
          · have cJ := c_S_joinBase_t g (d - 1) (by omega) G9 w9 u cm hH9 hR9 dp n q o9 hlt
            rw [x9] at cJ
            refine zr_eV0 hX (st := [.int (nI dp), .int (nI n), .int t.1, .ref q, .ref (w.a 0 0)]) (by rw [← h0] at cJ; exact cJ) l_S_311 im_S_joinBase se_S_joinBase f_S_joinBase k_S.1 hx9 rfl (Nat.le_of_ble_eq_true rfl) (by omega) (by omega) (by omega) d_S_baseOf_48 (fun G8 h8 => ?_)
            obtain ⟨fv, rfl, hfv⟩ := h8
            refine zr_iload hX rfl d_S_baseOf_51 ?_
            refine zr_iconst (v := 1) hX rfl d_S_baseOf_53 ?_
            refine zr_iload hX rfl d_S_baseOf_54 ?_
            refine zr_ishl hX d_S_baseOf_56 ?_
            refine zr_ior hX d_S_baseOf_57 ?_
            refine zs_istore hX (by decide) rfl d_S_baseOf_58 ?_
            refine zs_iinc (v := nI (n + 1)) hX rfl (nI_add _ 1) (by decide) rfl d_S_baseOf_60 ?_
            refine zr_goto hX (tgt := 21) (by decide) d_S_baseOf_63 ?_
            have e : zfor (n + 1) stp s0 = (t.1 ||| (1 <<< (nI n &&& 31)), V n, t.2.2) := by
              rw [hst]; unfold zbst; rw [if_pos hb, if_pos h0, if_pos h0]
            have hz := ih2 hlt (zWn w9 7 dp fv) (zput G9 (w9.a 7 dp) (zI 4096 fv)) (hH9.wr o9 fv) (f9.tr (zFr.wr o9 fv)) (b9.tr (zBk.wr w9 dp fv) (Nat.le_refl _)) o9
            rw [e] at hz
            exact hz r9 (fun _ k hk => by
              show zud w9.n 7 dp fv 7 dp k = V n k
              rw [zud_s, hfv k hk, hval k hk])
          · have hdw9 : dp + 1 ≤ max wm (dp + t.2.2) := by
              apply Classical.byContradiction
              intro z
              have := (r9.2 dp (by omega)).mpr (by omega)
              rw [o9] at this
              cases this
            have hex : ∃ k, k < 32 ∧ zbt t.1 k = true := by
              apply Classical.byContradiction
              intro z
              exact h0 (zbt_ext (fun k hk => by
                rw [zbt_0]
                cases hz : zbt t.1 k with
                | false => rfl
                | true => exact absurd ⟨k, hk, hz⟩ z))
            have hn1 : 1 ≤ n := by
              obtain ⟨k, hk, hz⟩ := hex
              have := ((hD k hk).mp hz).1
              omega
            have hB := ih (d - 1 - 1) G9 w9 (max wm (dp + t.2.2)) (dp + 1) n t.1 (by omega) hH9 hR9 r9 hdw9 (by omega) (by omega) hlt (fun k hk hz => ⟨by have := ((hD k hk).mp hz).1; omega, fun z => by
                have h1 := ((hD k hk).mp hz).1
                have h2 := hR9.hi.le k (by omega) n (by omega) z
                omega⟩) hex
            have cJ := c_S_joinBase_m g (d - 1) (by omega) G9 w9 u cm hH9 hR9 dp n q t.1 _ _ _ _ o9 hlt h0 (by omega) hB
            rw [x9] at cJ
            obtain ⟨z9, hz9⟩ : ∃ z9, z9 = zbs V N cm f t.1 n := ⟨_, rfl⟩
            rw [← hz9] at cJ
            have e : zfor (n + 1) stp s0 = (t.1 ||| (1 <<< (nI n &&& 31)), zjn t.2.1 (V n) z9.1, max t.2.2 (z9.2 + 1)) := by
              rw [hst, hz9]; unfold zbst; rw [if_pos hb, if_neg h0, if_neg h0]
            rw [e] at hnext
            have hnext2 : max t.2.2 (z9.2 + 1) ≤ TT := hnext
            refine zr_eV0 hX (st := [.int (nI dp), .int (nI n), .int t.1, .ref q, .ref (w.a 0 0)]) cJ l_S_311 im_S_joinBase se_S_joinBase f_S_joinBase k_S.1 hx9 rfl (Nat.le_of_ble_eq_true rfl) (by omega) (by omega) (by omega) d_S_baseOf_48 (fun G8 h8 => ?_)
            obtain ⟨w8, hH8, f8, b8, o8, r8, v8⟩ := h8
            refine zr_iload hX rfl d_S_baseOf_51 ?_
            refine zr_iconst (v := 1) hX rfl d_S_baseOf_53 ?_
            refine zr_iload hX rfl d_S_baseOf_54 ?_
            refine zr_ishl hX d_S_baseOf_56 ?_
            refine zr_ior hX d_S_baseOf_57 ?_
            refine zs_istore hX (by decide) rfl d_S_baseOf_58 ?_
            refine zs_iinc (v := nI (n + 1)) hX rfl (nI_add _ 1) (by decide) rfl d_S_baseOf_60 ?_
            refine zr_goto hX (tgt := 21) (by decide) d_S_baseOf_63 ?_
            have hz := ih2 hlt w8 G8 hH8 (f9.tr f8) (b9.tr b8 (Nat.le_refl _)) o8
            rw [e] at hz
            have em : max (max wm (dp + t.2.2)) (dp + 1 + z9.2) = max wm (dp + max t.2.2 (z9.2 + 1)) := by omega
            rw [em] at r8
            have hz2 := hz r8 (fun _ k hk => by
              rw [v8 k hk]
              exact zjn_c (v9 h0 k hk) (hval k hk) rfl)
            rw [show 2 * (max wm (dp + t.2.2) - wm) + 2 * (max (max wm (dp + t.2.2)) (dp + 1 + z9.2) - max wm (dp + t.2.2)) = 2 * (max wm (dp + max t.2.2 (z9.2 + 1)) - wm) by omega, show 4097 * (max wm (dp + t.2.2) - wm) + 4097 * (max (max wm (dp + t.2.2)) (dp + 1 + z9.2) - max wm (dp + t.2.2)) = 4097 * (max wm (dp + max t.2.2 (z9.2 + 1)) - wm) by omega]
            exact hz2
      · have en : cm = n := by omega
        subst en
        refine zr_icmp_ge hX (tgt := 66) d_S_baseOf_27 (by decide) (fun _ => ?_) (fun h9 => absurd h9 (zq_leT (a := cm) (b := cm) (by omega) (by omega)))
        have hne : ¬ (zfor cm stp s0).1 = 0 := fun z => by
          obtain ⟨k0, hk0, hz0⟩ := hSn
          obtain ⟨k, hk⟩ := hR.hi.some hcm (hS k0 hk0 hz0).1 hz0
          have h1 : zbt W k = true := by
            rw [hWb]
            exact (hR.hi.near hSb hcm (by have := hk.1; omega)).mpr hk
          have h2 := (zbst_D V (zbs V N cm f) W (fun _ => 0) 1 hm cm (Nat.le_refl _) k (by have := hk.1; omega)).mpr ⟨hk.1, h1⟩
          rw [← hs0, ← hstp, z, zbt_0] at h2
          cases h2
        refine zr_aload hX rfl d_S_baseOf_66 ?_
        exact zr_rret hX rfl (Or.inl ⟨_, rfl⟩) rfl d_S_baseOf_68 ⟨_, rfl, w9, q, rfl, hH9, f9, b9, o9, by rw [hTT]; exact r9, fun k hk => by rw [hRR]; exact v9 hne k hk⟩
    have hz := L21 0 (Nat.zero_le _) w1 G1 hH1 f1 b1 o1
    rw [zfor_0, hs0] at hz
    have hz2 := hz r1 (fun z => absurd rfl z)
    rw [Nat.zero_add (2 * (max wm (dp + 1) - wm)), Nat.zero_add (4097 * (max wm (dp + 1) - wm))]
    exact hz2
