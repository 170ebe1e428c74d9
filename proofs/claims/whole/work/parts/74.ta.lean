theorem zta_step {g : zGt} {X : zX} {d : Nat} {Post : zRes → zG → Prop} (hX : zOK g X b_T_addAll y_T_addAll none [] 5 d 0 0) (hdd : 4 ≤ d) {G : zG} {tq tv ts sc l x y : Nat} {sl vl : Nat → Int32} {src : Nat → Int64} {s : Nat × (Nat → Nat → Int32)} (hl : l < 4) (hx : x < 8) (hy : y < 8) (hc : s.1 < 1792) (ht : G tq = some (zO 5 [.ref tv, .ref ts, .int (nI s.1)])) (hv : G tv = some (zI 28672 vl)) (hs9 : G ts = some (zI 4096 sl)) (hsc : G sc = some (zJ 4096 src)) (nvs : tv ≠ ts) (hT : zTS sl vl s)
    (kk : ∀ G2, zTq tq tv ts G G2 (zadd s (fun k => s_S_valueOf (src ((1024 * l + 32 * (4 * y) + 4 * x) + k / 4 * 32 + k % 4)))) → zw g X Post 11 [some (.ref tq), some (.ref sc), some (.int (nI l)), some (.int (nI (4 * y))), some (.int (nI (4 * (x + 1))))] [] G2 0 0) : zw g X Post 11 [some (.ref tq), some (.ref sc), some (.int (nI l)), some (.int (nI (4 * y))), some (.int (nI (4 * x)))] [] G 0 0 := by
  refine zr_iload hX rfl d_T_addAll_11 ?_
  refine zr_bipush (v := 32) hX rfl d_T_addAll_13 ?_
  refine zr_icmp_ge hX (tgt := 53) d_T_addAll_15 (by decide) (fun h9 => absurd h9 (nI_ge (a := (4 * x)) (b := 32) (by omega) (by decide))) (fun _ => ?_)
  refine zr_aload_n hX rfl d_T_addAll_18 ?_
  refine zr_get hX k_T 2 (by decide) q307 rfl ht rfl d_T_addAll_19 ?_
  refine zr_sipush (v := 1792) hX rfl d_T_addAll_22 ?_
  refine zr_icmp_ge hX (tgt := 47) d_T_addAll_25 (by decide) (fun h9 => absurd h9 (nI_ge (a := s.1) (b := 1792) (by omega) (by decide))) (fun _ => ?_)
  refine zr_aload_n hX rfl d_T_addAll_28 ?_
  refine zr_aload_n hX rfl d_T_addAll_29 ?_
  refine zr_iload_n hX rfl d_T_addAll_30 ?_
  refine zr_iload hX rfl d_T_addAll_31 ?_
  refine zr_iload_n hX rfl d_T_addAll_33 ?_
  refine zr_pS hX (c_S_indexOf g (d - 1) _ (nI l) (nI (4 * x)) (nI (4 * y))) l_T_28 st_S_indexOf f_S_indexOf rfl (Nat.le_of_ble_eq_true rfl) (by omega) (Nat.zero_le _) (Nat.zero_le _) d_T_addAll_34 ?_
  rw [show s_S_indexOf (nI l) (nI (4 * x)) (nI (4 * y)) = nI (1024 * l + 32 * (4 * y) + (4 * x)) from zixS _ _ _]
  refine zr_eV1 hX (c_T_read g (d - 1) (by omega) _ tq tv ts s.1 sc (1024 * l + 32 * (4 * y) + 4 * x) src ht vl hv hsc hc (by omega)) l_T_32 im_T_read se_T_read f_T_read k_T.1 ht rfl (Nat.le_of_ble_eq_true rfl) (by omega) (Nat.zero_le _) (Nat.zero_le _) d_T_addAll_37 (fun v9 G9 hG9 => ?_)
  obtain ⟨f, rfl, hA, hB, hC⟩ := hG9
  have hT2 : zTS sl f s := hT.v (fun i hi => hB i (by omega))
  rcases hC with ⟨rfl, hN⟩ | ⟨rfl, hN⟩
  · skip
    refine zr_if_eq hX (tgt := 47) d_T_addAll_40 (by decide) (fun _ => ?_) (fun h => absurd h (by decide))
    refine zs_iinc (v := nI (4 * (x + 1))) hX rfl ((nI_add _ 4).trans (congrArg nI (by omega))) (by decide) rfl d_T_addAll_47 ?_
    refine zr_goto hX (tgt := 11) (by decide) d_T_addAll_50 ?_
    refine kk _ ⟨sl, f, by rw [zadd_old (Or.inl hN)]; exact (zput_k (zne ht hv rfl) ht), zput_s _ _ _, (zput_k (Ne.symm nvs) hs9), fun q q1 q2 q3 => zput_n q2, ?_⟩
    rw [zadd_old (Or.inl hN)]
    exact hT2
  · skip
    refine zr_if_eq hX (tgt := 47) d_T_addAll_40 (by decide) (fun h => absurd h (by decide)) (fun _ => ?_)
    refine zr_aload_n hX rfl d_T_addAll_43 ?_
    obtain ⟨t9, ht9, hzz, hocc, hend⟩ := hT2.probe2 hc (c := fun k => s_S_valueOf (src ((1024 * l + 32 * (4 * y) + 4 * x) + k / 4 * 32 + k % 4))) hA hN
    rcases hend with ⟨e1, e2, e3⟩ | ⟨i9, i1, i2, i3, i4⟩
    · skip
      refine zr_uV0 hX (c_T_keep_free g (d - 1) (by omega) _ tq tv ts s.1 (zSl (fun k => s_S_valueOf (src ((1024 * l + 32 * (4 * y) + 4 * x) + k / 4 * 32 + k % 4)))) t9 (zput_k (zne ht hv rfl) ht) f (zput_s _ _ _) sl (zput_k (Ne.symm nvs) hs9) nvs hc hzz ht9 hocc e1) l_T_36 im_T_keepIfNew se_T_keepIfNew f_T_keepIfNew k_T.1 (zput_k (zne ht hv rfl) ht) rfl (Nat.le_of_ble_eq_true rfl) (by omega) (Nat.zero_le _) (Nat.zero_le _) d_T_addAll_44 ?_
      refine zs_iinc (v := nI (4 * (x + 1))) hX rfl ((nI_add _ 4).trans (congrArg nI (by omega))) (by decide) rfl d_T_addAll_47 ?_
      refine zr_goto hX (tgt := 11) (by decide) d_T_addAll_50 ?_
      refine kk _ ⟨_, f, ?_, ?_, zput_s _ _ _, fun q q1 q2 q3 => (zput_n q3).trans ((zput_n q1).trans (zput_n q2)), e2⟩
      · rw [e3]; exact (zput_n (zne ht hs9 rfl)).trans (zput_s _ _ _)
      · exact (zput_n nvs).trans ((zput_n (zne hv ht rfl)).trans (zput_s _ _ _))
    · skip
      refine zr_uV0 hX (c_T_keep_same g (d - 1) (by omega) _ tq tv ts s.1 (zSl (fun k => s_S_valueOf (src ((1024 * l + 32 * (4 * y) + 4 * x) + k / 4 * 32 + k % 4)))) t9 (zput_k (zne ht hv rfl) ht) f (zput_s _ _ _) sl (zput_k (Ne.symm nvs) hs9) nvs hc hzz ht9 hocc i9 i1 i2 i3) l_T_36 im_T_keepIfNew se_T_keepIfNew f_T_keepIfNew k_T.1 (zput_k (zne ht hv rfl) ht) rfl (Nat.le_of_ble_eq_true rfl) (by omega) (Nat.zero_le _) (Nat.zero_le _) d_T_addAll_44 ?_
      refine zs_iinc (v := nI (4 * (x + 1))) hX rfl ((nI_add _ 4).trans (congrArg nI (by omega))) (by decide) rfl d_T_addAll_47 ?_
      refine zr_goto hX (tgt := 11) (by decide) d_T_addAll_50 ?_
      refine kk _ ⟨sl, f, by rw [i4]; exact (zput_k (zne ht hv rfl) ht), zput_s _ _ _, (zput_k (Ne.symm nvs) hs9), fun q q1 q2 q3 => zput_n q2, ?_⟩
      rw [i4]
      exact hT2
def zSe (s t : Nat × (Nat → Nat → Int32)) : Prop := s.1 = t.1 ∧ ∀ i, i < s.1 → ∀ k, k < 16 → s.2 i k = t.2 i k
theorem zTS.se {sl vl : Nat → Int32} {s t : Nat × (Nat → Nat → Int32)} (h : zTS sl vl s) (e : zSe s t) : zTS sl vl t := by
  obtain ⟨o, h1, h2, h3⟩ := h
  refine ⟨o, fun i hi k hk => ?_, h2, ?_⟩
  · rw [h1 i (by rw [e.1]; exact hi) k hk]
    exact e.2 i (by rw [e.1]; exact hi) k hk
  · obtain ⟨p1, p2, p3⟩ := h3
    refine ⟨fun k hk i hi => by rw [← e.1]; exact p1 k hk i hi, fun i hi => ?_, by rw [← e.1]; exact p3⟩
    have hi2 : i < s.1 := by rw [e.1]; exact hi
    have q := p2 i hi2
    rw [show (fun i => zSl (s.2 i)) i = (fun i => zSl (t.2 i)) i from zhS_c (e.2 i hi2)] at q
    exact q
theorem zTq.se {tq tv ts : Nat} {G0 G1 : zG} {s t : Nat × (Nat → Nat → Int32)} (h : zTq tq tv ts G0 G1 s) (e : zSe s t) : zTq tq tv ts G0 G1 t := by
  obtain ⟨sl, vl, a1, a2, a3, a4, a5⟩ := h
  exact ⟨sl, vl, by rw [← e.1]; exact a1, a2, a3, a4, a5.se e⟩
theorem zadd_se (s : Nat × (Nat → Nat → Int32)) {c c2 : Nat → Int32} (e : ∀ k, k < 16 → c k = c2 k) : zSe (zadd s c) (zadd s c2) := by
  by_cases h1 : ∀ k, k < 16 → c k = (-2147483648)
  · rw [zadd_old (Or.inl h1), zadd_old (Or.inl fun k hk => by rw [← e k hk]; exact h1 k hk)]
    exact ⟨rfl, fun _ _ _ _ => rfl⟩
  by_cases h2 : ∃ i, i < s.1 ∧ ∀ k, k < 16 → s.2 i k = c k
  · obtain ⟨i, hi, z⟩ := h2
    rw [zadd_old (Or.inr ⟨i, hi, z⟩), zadd_old (Or.inr ⟨i, hi, fun k hk => by rw [← e k hk]; exact z k hk⟩)]
    exact ⟨rfl, fun _ _ _ _ => rfl⟩
  rw [zadd_new h1 (fun i hi z => h2 ⟨i, hi, z⟩), zadd_new (fun z => h1 fun k hk => by rw [e k hk]; exact z k hk) (fun i hi z => h2 ⟨i, hi, fun k hk => by rw [e k hk]; exact z k hk⟩)]
  refine ⟨rfl, fun i hi k hk => ?_⟩
  show va_up s.2 s.1 c i k = va_up s.2 s.1 c2 i k
  by_cases q : i = s.1
  · rw [q, va_up_self, va_up_self]; exact e k hk
  · rw [va_up_ne _ _ q, va_up_ne _ _ q]
theorem zblX_se {u : zU} {src : Nat → Int64} {l p y x : Nat} (hl : l < 4) (hy : y < 8) (hx : x < 8) (hsv : ∀ k, k < 4096 → s_S_valueOf (src k) = u.ar 1 (4096 * p + k)) (s : Nat × (Nat → Nat → Int32)) : zSe (zadd s (fun k => s_S_valueOf (src (1024 * l + 32 * (4 * y) + 4 * x + k / 4 * 32 + k % 4)))) (zblX u l p y x s) :=
  zadd_se s (fun k hk => by
    unfold zbk
    rw [hsv _ (by omega)]
    congr 1
    omega)
theorem zblX_le (u : zU) (l p y : Nat) (s : Nat × (Nat → Nat → Int32)) : ∀ i, (zfor i (zblX u l p y) s).1 ≤ s.1 + i := by
  intro i
  induction i with
  | zero => exact Nat.le_refl _
  | succ i ih =>
    rw [zfor_s]
    have := zadd_le (zfor i (zblX u l p y) s) (zbk u (4096 * p + (1024 * l + 32 * (4 * y) + 4 * i)))
    unfold zblX at this ih ⊢
    omega
theorem zblY_le (u : zU) (l p : Nat) (s : Nat × (Nat → Nat → Int32)) : ∀ j, (zfor j (zblY u l p) s).1 ≤ s.1 + 8 * j := by
  intro j
  induction j with
  | zero => exact Nat.le_refl _
  | succ j ih =>
    rw [zfor_s]
    have := zblX_le u l p j (zfor j (zblY u l p) s) 8
    unfold zblY at this ih ⊢
    omega
theorem c_T_addAll (g : zGt) (d : Nat) (hdd : 4 ≤ d) (G : zG) (u : zU) (tq tv ts sc l p : Nat) (src : Nat → Int64) (s : Nat × (Nat → Nat → Int32)) (hl : l < 4) (hc : s.1 + 64 ≤ 1792) (nvs : tv ≠ ts) (hsc : G sc = some (zJ 4096 src)) (hT : zTq tq tv ts G G s) (hsv : ∀ k, k < 4096 → s_S_valueOf (src k) = u.ar 1 (4096 * p + k)) : zMet g y_T_addAll b_T_addAll 5 none [] d 0 0 [.ref tq, .ref sc, .int (nI l)] G (fun r G1 => r = .inl none ∧ zTq tq tv ts G G1 (zfor 8 (zblY u l p) s)) := by
  have nsc : sc ≠ tq ∧ sc ≠ tv ∧ sc ≠ ts := by
    obtain ⟨sl, vl, a1, a2, a3, -⟩ := hT
    exact ⟨zne hsc a1 rfl, zne hsc a2 rfl, zne hsc a3 rfl⟩
  refine zMet.of (by decide) (Nat.le_of_ble_eq_true rfl) rfl (fun X hX => ?_)
  refine zr_iconst (v := 0) hX rfl d_T_addAll_0 ?_
  refine zs_istore_n hX (by decide) rfl d_T_addAll_1 ?_
  have L : ∀ j, j ≤ 8 → ∀ G9 : zG, zTq tq tv ts G G9 (zfor j (zblY u l p) s) → zw g X (fun r G1 => r = .inl none ∧ zTq tq tv ts G G1 (zfor 8 (zblY u l p) s)) 2 [some (.ref tq), some (.ref sc), some (.int (nI l)), some (.int (nI (4 * j))), none] [] G9 0 0 := by
    refine zup 8 (fun j hj ih => ?_)
    intro G9 hT9
    by_cases hlt : j < 8
    · refine zr_iload_n hX rfl d_T_addAll_2 ?_
      refine zr_bipush (v := 32) hX rfl d_T_addAll_3 ?_
      refine zr_icmp_ge hX (tgt := 59) d_T_addAll_5 (by decide) (fun h9 => absurd h9 (nI_ge (a := 4 * j) (b := 32) (by omega) (by decide))) (fun _ => ?_)
      refine zr_iconst (v := 0) hX rfl d_T_addAll_8 ?_
      refine zs_istore hX (by decide) rfl d_T_addAll_9 ?_
      have LX : ∀ i, i ≤ 8 → ∀ G8 : zG, zTq tq tv ts G G8 (zfor i (zblX u l p j) (zfor j (zblY u l p) s)) → zw g X (fun r G1 => r = .inl none ∧ zTq tq tv ts G G1 (zfor 8 (zblY u l p) s)) 11 [some (.ref tq), some (.ref sc), some (.int (nI l)), some (.int (nI (4 * j))), some (.int (nI (4 * i)))] [] G8 0 0 := by
        refine zup 8 (fun i hi ih2 => ?_)
        intro G8 hT8
        by_cases hlt2 : i < 8
        · have hT0 := hT8
          obtain ⟨sl, vl, a1, a2, a3, a4, a5⟩ := hT0
          have b1 := zblX_le u l p j (zfor j (zblY u l p) s) i
          have b2 := zblY_le u l p s j
          refine zta_step hX hdd (x := i) (y := j) (src := src) hl hlt2 hlt (by omega) a1 a2 a3 ((a4 sc nsc.1 nsc.2.1 nsc.2.2).trans hsc) nvs a5 (fun G7 h7 => ?_)
          exact ih2 hlt2 G7 (by rw [zfor_s]; exact (hT8.tr h7).se (zblX_se hl hlt hlt2 hsv _))
        · have ei : 8 = i := by omega
          subst ei
          refine zr_iload hX rfl d_T_addAll_11 ?_
          refine zr_bipush (v := 32) hX rfl d_T_addAll_13 ?_
          refine zr_icmp_ge hX (tgt := 53) d_T_addAll_15 (by decide) (fun _ => ?_) (fun h9 => absurd h9 (zq_leT (a := 32) (b := 4 * 8) (by omega) (by decide)))
          refine zs_iinc (v := nI (4 * (j + 1))) hX rfl ((nI_add _ 4).trans (congrArg nI (by omega))) (by decide) rfl d_T_addAll_53 ?_
          refine zr_goto hX (tgt := 2) (by decide) d_T_addAll_56 ?_
          refine zw_drop 4 ?_
          exact ih hlt G8 (by rw [zfor_s]; exact hT8)
      exact LX 0 (Nat.zero_le _) G9 hT9
    · have ej : 8 = j := by omega
      subst ej
      refine zr_iload_n hX rfl d_T_addAll_2 ?_
      refine zr_bipush (v := 32) hX rfl d_T_addAll_3 ?_
      refine zr_icmp_ge hX (tgt := 59) d_T_addAll_5 (by decide) (fun _ => ?_) (fun h9 => absurd h9 (zq_leT (a := 32) (b := 4 * 8) (by omega) (by decide)))
      exact zr_vret hX d_T_addAll_59 ⟨rfl, hT9⟩
  exact L 0 (Nat.zero_le _) G hT
theorem zTS.new0 (vl : Nat → Int32) {sl : Nat → Int32} (h : ∀ k, k < 4096 → sl k = 0) : zTS sl vl (0, (fun _ _ => 0)) := ⟨(fun _ => none), fun i hi => absurd hi (Nat.not_lt_zero _), fun k hk => h k hk, zTb.new _⟩
theorem c_T_forget (g : zGt) (d : Nat) (hdd : 1 ≤ d) (G : zG) (tq tv ts : Nat) (cc : Int32) (vl sl : Nat → Int32) (ht : G tq = some (zO 5 [.ref tv, .ref ts, .int cc])) (hv : G tv = some (zI 28672 vl)) (hs9 : G ts = some (zI 4096 sl)) (nvs : tv ≠ ts)  : zMet g y_T_forget b_T_forget 1 none [] d 0 0 [.ref tq] G (fun r G1 => r = .inl none ∧ zTq tq tv ts G G1 (0, (fun _ _ => 0))) := by
  refine zMet.of (by decide) (Nat.le_of_ble_eq_true rfl) rfl (fun X hX => ?_)
  refine zr_aload_n hX rfl d_T_forget_0 ?_
  refine zr_get hX k_T 1 (by decide) q306 rfl ht rfl d_T_forget_1 ?_
  refine zr_iconst (v := 0) hX rfl d_T_forget_4 ?_
  refine zr_eS0 hX (c_A_fillI g (d - 1) _ ts 4096 sl 0 (by decide) hs9) l_T_18 st_A_fillI f_A_fillI rfl (Nat.le_of_ble_eq_true rfl) (by omega) (Nat.zero_le _) (Nat.zero_le _) d_T_forget_5 (fun G9 hG9 => ?_)
  obtain ⟨f, rfl, hf⟩ := hG9
  refine zr_aload_n hX rfl d_T_forget_8 ?_
  refine zr_iconst (v := 0) hX rfl d_T_forget_9 ?_
  refine zr_put hX k_T 2 (by decide) q307 rfl rfl rfl rfl (Nat.le_of_ble_eq_true rfl) (zput_k (zne ht hs9 rfl) ht) d_T_forget_10 ?_
  exact zr_vret hX d_T_forget_13 ⟨rfl, f, vl, zput_s _ _ _, (zput_k (zne hv ht rfl) (zput_k nvs hv)), (zput_k (zne hs9 ht rfl) (zput_s _ _ _)), fun q q1 q2 q3 => (zput_n q1).trans (zput_n q3), zTS.new0 vl hf⟩
