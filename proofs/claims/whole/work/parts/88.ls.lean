theorem zNc_le (w : zW) : zNc w ≤ 4 := by
  unfold zNc
  simp only [zfor]
  repeat' split
  all_goals omega
theorem zPc_le (w : zW) : zPc w 0 ≤ 75 := by
  have := zNc_le w
  unfold zPc
  split <;> omega
theorem zPs_le (w : zW) : zPs w 0 ≤ 213047 := by
  have := zNc_le w
  unfold zPs
  split <;> omega
theorem zdef_M : ∀ j, j < 28 → defaultValue (zt_M j) = vp_V [.int 0, .null, .null, .null, .null, .null, .int 0, .null, .null, .null, .null, .null, .null, .null, .null, .null, .int 0, .int 0, .int 0, .int 0, .null, .null, .null, .null, .null, .null, .null, .null] j := by decide +kernel
theorem lw_begin {g : zGt} {X : zX} {d b L : Nat} {xs : Nat → Int32} (hX : zOK g X b_L_law y_L_law (some .boolean) [] 7 d 601024 7293034) (hd9 : 100 ≤ d) (hs : zSc X b L xs) (hL : L ≤ 3584) : zw g X (fun r _ => r = .inl (some (.int 1))) 0 [some (.ref b), none, none, none, none, none, none] [] (fun _ => none) 0 0 := by
  refine zr_new (fs := [.null, .null, .int 0, .null, .int 0, .int 0, .int 0, .int 0, .null, .null, .null, .null, .null, .null]) hX k_S q16 q17 q1 zdef_S (by omega) (by omega) d_L_law_0 (fun x hx => ?_)
  refine zr_dup hX rfl d_L_law_3 ?_
  refine zr_callI hX (c_S_init g (d - 1) (by omega) _ x (zput_s _ _ _)) l_L_50 rfl im_S_init f_S_init rfl (Nat.le_of_ble_eq_true rfl) (by omega) (by omega) (by omega) d_L_law_4 (fun v9 G1 hq => ?_) (fun E9 G1 hq => by cases hq.1)
  obtain ⟨e9, w, w1, w2, w3, w4, w5⟩ := hq
  cases e9
  refine zs_astore_n hX (by decide) rfl d_L_law_7 ?_
  refine zr_new (fs := [.int 0, .null, .null, .null, .null, .null, .int 0, .null, .null, .null, .null, .null, .null, .null, .null, .null, .int 0, .int 0, .int 0, .int 0, .null, .null, .null, .null, .null, .null, .null, .null]) hX k_M q644 q645 q6 zdef_M (by omega) (by omega) d_L_law_8 (fun m hm => ?_)
  refine zr_dup hX rfl d_L_law_11 ?_
  refine zr_callI hX (c_M_init g (d - 1) (by omega) _ m (zput_s _ _ _)) l_L_53 rfl im_M_init f_M_init rfl (Nat.le_of_ble_eq_true rfl) (by omega) (by omega) (by omega) d_L_law_12 (fun v9 G2 hq => ?_) (fun E9 G2 hq => by cases hq.1)
  obtain ⟨e9, a, m1, m2, m3, m4⟩ := hq
  cases e9
  refine zs_astore_n hX (by decide) rfl d_L_law_15 ?_
  refine zr_iconst (v := 1) hX rfl d_L_law_16 ?_
  refine zr_newJ (N := 1) hX q57 (by decide) rfl (by decide) (by omega) (by omega) d_L_law_17 (fun out ho => ?_)
  refine zs_astore_n hX (by decide) rfl d_L_law_19 ?_
  refine zr_iconst (v := 0) hX rfl d_L_law_20 ?_
  refine zs_istore hX (by decide) rfl d_L_law_21 ?_
  have ow : ∀ f i q, zAd w f i = some q → G1 q ≠ none := fun f i q hq => by rw [w1.at f i hq]; exact fun z => nomatch z
  have om : ∀ f i q, zAd w f i = some q → q ≠ m := fun f i q hq e => ow f i q hq (e ▸ hm)
  have o2 : ∀ f i q, zAd w f i = some q → G2 q = G1 q := fun f i q hq => (m4 q (om f i q hq) (by rw [zput_n (om f i q hq)]; exact ow f i q hq)).trans (zput_n (om f i q hq))
  have no : ∀ q, G2 q ≠ none → q ≠ out := fun q hq e => hq (e ▸ ho)
  have h0 : zL0 x m out w (t_M_init (a, zMi, (fun _ _ => 0))) (fun _ => 0) (zput G2 out (zJ 1 (fun _ => 0))) := by
    refine ⟨w1.fr (fun f i q hq => (zput_n (no q (by rw [o2 f i q hq]; exact ow f i q hq))).trans (o2 f i q hq)), m1.fr (zput_n (no m (by rw [m1.m]; exact fun z => nomatch z))) (fun j hj => zput_n (no _ (by rw [m1.ar j hj]; exact fun z => nomatch z))), zput_s _ _ _, w2, fun f i q hq => ⟨om f i q hq, no q (by rw [o2 f i q hq]; exact ow f i q hq), fun j hj e => ?_⟩, fun e => no m (by rw [m1.m]; exact fun z => nomatch z) e.symm, fun j hj e => no _ (by rw [m1.ar j hj]; exact fun z => nomatch z) e.symm⟩
    rw [m2] at e
    have h9 := m3 j hj
    rw [← e, zput_n (om f i q hq)] at h9
    exact ow f i q hq h9
  have k1 := zPc_le w
  have k2 := zPs_le w
  exact lw_loop hX hd9 hs hL 112 643411 (by decide) (by decide) L 0 w 0 _ 1 (fun _ => 0) _ _ _ none none (by omega) (by omega) h0 (w3 a) (by omega) (by omega)
