theorem zsfb {a : Nat → Nat} {i : Nat → Int32} {o : Option Nat} {t : Nat} (e : o = some t) : (zS a i (va_rf o))[13]? = some (.ref t) := by subst e; rfl
theorem zblP_le (u : zU) (l : Nat) (s : Nat × (Nat → Nat → Int32)) : ∀ p, (zfor p (zblP u l) s).1 ≤ s.1 + 64 * p := by
  intro p
  induction p with
  | zero => exact Nat.le_refl _
  | succ p ih =>
    rw [zfor_s]
    unfold zblP at ih ⊢
    by_cases h : s_M_isPlace u (nI p) = 0
    · rw [if_pos h]; omega
    · rw [if_neg h]
      have := zblY_le u l p (zfor p (fun p s => if s_M_isPlace u (nI p) = 0 then s else zfor 8 (zblY u l p) s) s) 8
      omega
theorem zbl_run {g : zGt} {X : zX} {d mc ms k n : Nat} {Post : zRes → zG → Prop} (hX : zOK g X b_S_blocks y_S_blocks (some .int) [] 4 d mc ms) (hdd : 5 ≤ d) (hk : k ≤ mc) (hn : n ≤ ms) {G : zG} {w : zW} {u : zU} {cm l tq : Nat} (hl : l < 4) (hH : zHp w G) (hR : zRl w u cm) (ht : w.o 8 0 = some tq)
    (hP : ∀ (w2 : zW) (G2 : zG), zHp w2 G2 → zFr w G w2 G2 → zWe w w2 → w2.o = w.o → Post (.inl (some (.int (nI (zbl9 u l).1)))) G2) : zw g X Post 27 [some (.ref (w.a 0 0)), some (.int (nI l)), none, none] [] G k n := by
  have nvs : w.a 8 1 ≠ w.a 8 2 := hH.ne 8 1 8 2 (zmp ht) (zmp ht) (by omega)
  refine zr_aload_n hX rfl d_S_blocks_27 ?_
  refine zr_get hX k_S 13 (by decide) q116 rfl hH.x (zsfb ht) d_S_blocks_28 ?_
  refine zr_eV0 hX (c_T_forget g (d - 1) (by omega) G tq (w.a 8 1) (w.a 8 2) (w.i 9 0) (w.n 8 1) (w.n 8 2) (hH.tm ht) (hH.tv ht) (hH.ts ht) nvs) l_S_281 im_T_forget se_T_forget f_T_forget k_T.1 (hH.tm ht) rfl (Nat.le_of_ble_eq_true rfl) (by omega) (by omega) (by omega) d_S_blocks_31 (fun G9 h9 => ?_)
  refine zr_iconst (v := 0) hX rfl d_S_blocks_34 ?_
  refine zs_istore_n hX (by decide) rfl d_S_blocks_35 ?_
  have L : ∀ p, p ≤ 28 → ∀ G8 : zG, zTq tq (w.a 8 1) (w.a 8 2) G G8 (zfor p (zblP u l) (0, (fun _ _ => 0))) → zw g X Post 36 [some (.ref (w.a 0 0)), some (.int (nI l)), some (.int (nI p)), none] [] G8 k n := by
    refine zup 28 (fun p hp ih => ?_)
    intro G8 hT
    have hT0 := hT
    obtain ⟨sl, vl, a1, a2, a3, a4, a5⟩ := hT0
    obtain ⟨hH8, f8⟩ := hH.tb ht a1 a2 a3 a4
    have hR8 := hR.we (zWe.tb w sl vl (zfor p (zblP u l) (0, (fun _ _ => 0))).1)
    have hx8 : G8 (w.a 0 0) = some (zO 0 (zS (w.a 9) ((zWtb w sl vl (zfor p (zblP u l) (0, (fun _ _ => 0))).1).i 0) (va_rf (w.o 8 0)))) := hH8.x
    by_cases hlt : p < 28
    · refine zr_iload_n hX rfl d_S_blocks_36 ?_
      refine zr_bipush (v := 28) hX rfl d_S_blocks_37 ?_
      refine zr_icmp_ge hX (tgt := 67) d_S_blocks_39 (by decide) (fun h9 => absurd h9 (nI_ge (a := p) (b := 28) (by omega) (by decide))) (fun _ => ?_)
      refine zr_aload_n hX rfl d_S_blocks_42 ?_
      refine zr_iload_n hX rfl d_S_blocks_43 ?_
      by_cases hpl : s_M_isPlace u (nI p) = 0
      · refine zr_pV hX (c_S_cellsOf_0 g (d - 1) (by omega) G8 _ u cm hH8 hR8 (nI p) hpl) l_S_248 im_S_cellsOf se_S_cellsOf f_S_cellsOf k_S.1 hx8 rfl (Nat.le_of_ble_eq_true rfl) (by omega) (by omega) (by omega) d_S_blocks_44 ?_
        refine zs_astore_nN hX (by decide) rfl d_S_blocks_47 ?_
        refine zr_aload_nN hX rfl d_S_blocks_48 ?_
        refine zr_ifnullN hX (tgt := 61) (by decide) d_S_blocks_49 ?_
        refine zs_iinc (v := nI (p + 1)) hX rfl (nI_add _ 1) (by decide) rfl d_S_blocks_61 ?_
        refine zr_goto hX (tgt := 36) (by decide) d_S_blocks_64 ?_
        refine zw_drop 3 ?_
        refine ih hlt G8 ?_
        rw [zfor_s]
        show zTq tq (w.a 8 1) (w.a 8 2) G G8 (if s_M_isPlace u (nI p) = 0 then _ else _)
        rw [if_pos hpl]
        exact hT
      · obtain ⟨qa, fa, hz, hcr, hg⟩ := hR8.cel hlt hpl
        refine zr_pV hX (c_S_cellsOf_1 g (d - 1) (by omega) G8 _ hH8 (nI p) qa hz) l_S_248 im_S_cellsOf se_S_cellsOf f_S_cellsOf k_S.1 hx8 rfl (Nat.le_of_ble_eq_true rfl) (by omega) (by omega) (by omega) d_S_blocks_44 ?_
        refine zs_astore_n hX (by decide) rfl d_S_blocks_47 ?_
        refine zr_aload_n hX rfl d_S_blocks_48 ?_
        refine zr_ifnull hX d_S_blocks_49 ?_
        refine zr_aload_n hX rfl d_S_blocks_52 ?_
        refine zr_get hX k_S 13 (by decide) q116 rfl hx8 (zsfb ht) d_S_blocks_53 ?_
        refine zr_aload_n hX rfl d_S_blocks_56 ?_
        refine zr_iload_n hX rfl d_S_blocks_57 ?_
        have hle := zblP_le u l (0, (fun _ _ => 0)) p
        refine zr_eV0 hX (c_T_addAll g (d - 1) (by omega) G8 u tq (w.a 8 1) (w.a 8 2) qa l p fa (zfor p (zblP u l) (0, (fun _ _ => 0))) hl (by have h0 : (zfor p (zblP u l) (0, (fun _ _ => 0))).1 ≤ 0 + 64 * p := hle; omega) nvs (hg G8 hH8) ⟨sl, vl, a1, a2, a3, fun _ _ _ _ => rfl, a5⟩ (fun k hk => hcr.val hR8.iv hlt hk)) l_S_284 im_T_addAll se_T_addAll f_T_addAll k_T.1 a1 rfl (Nat.le_of_ble_eq_true rfl) (by omega) (by omega) (by omega) d_S_blocks_58 (fun G7 h7 => ?_)
        refine zs_iinc (v := nI (p + 1)) hX rfl (nI_add _ 1) (by decide) rfl d_S_blocks_61 ?_
        refine zr_goto hX (tgt := 36) (by decide) d_S_blocks_64 ?_
        refine zw_drop 3 ?_
        refine ih hlt G7 ?_
        rw [zfor_s]
        show zTq tq (w.a 8 1) (w.a 8 2) G G7 (if s_M_isPlace u (nI p) = 0 then _ else _)
        rw [if_neg hpl]
        exact hT.tr h7
    · have ep : 28 = p := by omega
      subst ep
      refine zr_iload_n hX rfl d_S_blocks_36 ?_
      refine zr_bipush (v := 28) hX rfl d_S_blocks_37 ?_
      refine zr_icmp_ge hX (tgt := 67) d_S_blocks_39 (by decide) (fun _ => ?_) (fun h9 => absurd h9 (zq_leT (a := 28) (b := 28) (by omega) (by decide)))
      refine zr_aload_n hX rfl d_S_blocks_67 ?_
      refine zr_get hX k_S 13 (by decide) q116 rfl hx8 (zsfb ht) d_S_blocks_68 ?_
      refine zr_get hX k_T 2 (by decide) q308 rfl a1 rfl d_S_blocks_71 ?_
      exact zr_iret hX d_S_blocks_74 (hP _ G8 hH8 f8 (zWe.tb w sl vl _) rfl)
  exact L 0 (Nat.zero_le _) G9 h9
theorem c_S_blocks_bad (g : zGt) (d : Nat) (hdd : 1 ≤ d) (G : zG) (w : zW) (u : zU) (cm : Nat) (hH : zHp w G) (hR : zRl w u cm) (l : Int32)  (h0 : s_M_isLayer l = 0) : zMet g y_S_blocks b_S_blocks 4 (some .int) [] d 0 0 [.ref (w.a 0 0), .int l] G (zD1 (.int (-1)) G) := by
  refine zMet.of (by decide) (Nat.le_of_ble_eq_true rfl) rfl (fun X hX => ?_)
  refine zr_iload_n hX rfl d_S_blocks_0 ?_
  refine zr_pS hX (c_S_isLayer g (d - 1) _ l) l_S_73 st_S_isLayer f_S_isLayer rfl (Nat.le_of_ble_eq_true rfl) (by omega) (Nat.zero_le _) (Nat.zero_le _) d_S_blocks_1 ?_
  refine zr_if_ne hX (tgt := 9) d_S_blocks_4 (by decide) (fun h9 => absurd h9 (not_not_intro h0)) (fun _ => ?_)
  refine zr_iconst (v := (-1)) hX rfl d_S_blocks_7 ?_
  exact zr_iret hX d_S_blocks_8 ⟨rfl, rfl⟩
theorem c_S_blocks_old (g : zGt) (d : Nat) (hdd : 6 ≤ d) (G : zG) (w : zW) (wm : Nat) (u : zU) (cm : Nat) (hH : zHp w G) (hI : zIn w wm u cm) (l : Nat)  (hl : l < 4) (ho0 : ¬ s_M_isLayer (nI l) = 0) (tq : Nat) (htq : w.o 8 0 = some tq) : zMet g y_S_blocks b_S_blocks 4 (some .int) [] d 0 0 [.ref (w.a 0 0), .int (nI l)] G (zSq (.inl (some (.int (nI (zbl9 u l).1)))) w wm u cm 0 0 G) := by
  refine zMet.of (by decide) (Nat.le_of_ble_eq_true rfl) rfl (fun X hX => ?_)
  refine zr_iload_n hX rfl d_S_blocks_0 ?_
  refine zr_pS hX (c_S_isLayer g (d - 1) _ (nI l)) l_S_73 st_S_isLayer f_S_isLayer rfl (Nat.le_of_ble_eq_true rfl) (by omega) (Nat.zero_le _) (Nat.zero_le _) d_S_blocks_1 ?_
  refine zr_if_ne hX (tgt := 9) d_S_blocks_4 (by decide) (fun _ => ?_) (fun h9 => absurd h9 ho0)
  refine zr_aload_n hX rfl d_S_blocks_9 ?_
  refine zr_get hX k_S 13 (by decide) q116 rfl hH.x rfl d_S_blocks_10 ?_
  rw [htq]
  refine zr_ifnonnull hX (tgt := 27) (by decide) d_S_blocks_13 ?_
  exact zbl_run hX (by omega) (by omega) (by omega) hl hH hI.1 htq (fun w2 G2 h2 f2 e2 o2 => zSq.of hI h2 f2 (hI.1.we e2) (by rw [o2]) (by rw [o2]) (by rw [o2]) (fun b hb => by rw [o2] at hb; exact hb) (by omega) (by omega))
theorem zbl_end {w w2 : zW} {wm : Nat} {u : zU} {cm q a1 a2 : Nat} {G G2 : zG} {res : zRes} (hI : zIn w wm u cm) (h0 : w.o 8 0 = none) (h2 : zHp w2 G2) (f2 : zFr w G w2 G2) (we : zWe w w2) (o2 : w2.o = (zWnt w q a1 a2).o) : zSq res w wm u cm 3 32771 G res G2 := by
  have o5 : w2.o 5 = w.o 5 := we.2.2.2.1
  have o6 : w2.o 6 = w.o 6 := by rw [o2]; exact funext fun j => zWnt_o w q a1 a2 6 j (by omega)
  have o8 : ¬ w2.o 8 0 = none := by rw [o2, zWnt_o0]; exact fun z => nomatch z
  refine ⟨rfl, w2, wm, h2, f2, ⟨hI.1.we we, ?_, fun b hb => by rw [o5]; rw [we.2.2.1] at hb; exact hI.2.2 b hb⟩, ?_, ?_⟩
  · unfold zRw; rw [o6]; exact hI.2.1
  · unfold zPc zNc; rw [o5, if_neg o8, if_pos h0]; omega
  · unfold zPs zNc; rw [o5, if_neg o8, if_pos h0]; omega
theorem c_S_blocks_new (g : zGt) (d : Nat) (hdd : 6 ≤ d) (G : zG) (w : zW) (wm : Nat) (u : zU) (cm : Nat) (hH : zHp w G) (hI : zIn w wm u cm) (l : Nat)  (hl : l < 4) (ho0 : ¬ s_M_isLayer (nI l) = 0) (htn : w.o 8 0 = none) : zMet g y_S_blocks b_S_blocks 4 (some .int) [] d 3 32771 [.ref (w.a 0 0), .int (nI l)] G (zSq (.inl (some (.int (nI (zbl9 u l).1)))) w wm u cm 3 32771 G) := by
  refine zMet.of (by decide) (Nat.le_of_ble_eq_true rfl) rfl (fun X hX => ?_)
  refine zr_iload_n hX rfl d_S_blocks_0 ?_
  refine zr_pS hX (c_S_isLayer g (d - 1) _ (nI l)) l_S_73 st_S_isLayer f_S_isLayer rfl (Nat.le_of_ble_eq_true rfl) (by omega) (Nat.zero_le _) (Nat.zero_le _) d_S_blocks_1 ?_
  refine zr_if_ne hX (tgt := 9) d_S_blocks_4 (by decide) (fun _ => ?_) (fun h9 => absurd h9 ho0)
  refine zr_aload_n hX rfl d_S_blocks_9 ?_
  refine zr_get hX k_S 13 (by decide) q116 rfl hH.x rfl d_S_blocks_10 ?_
  rw [htn]
  refine zr_ifnonnullN hX d_S_blocks_13 ?_
  refine zr_aload_n hX rfl d_S_blocks_16 ?_
  refine zr_new (fs := [.null, .null, .int 0]) hX k_T q299 q300 q15 (zdef_T) (by omega) (by omega) d_S_blocks_17 (fun q17 hn17 => ?_)
  refine zr_dup hX rfl d_S_blocks_20 ?_
  refine zr_eI0 hX (c_T_init g (d - 1) (by omega) _ q17 (zput_s _ _ _)) l_S_280 rfl im_T_init f_T_init rfl (Nat.le_of_ble_eq_true rfl) (by omega) (by omega) (by omega) d_S_blocks_21 (fun Gn hGn => ?_)
  obtain ⟨a1, a2, ⟨g1, g2, g12⟩, m0, m1, m2, mr⟩ := hGn
  have z1 := zpn g1
  have z2 := zpn g2
  have nx : w.a 0 0 ≠ q17 := zfr hn17 hH.x
  have nx1 : w.a 0 0 ≠ a1 := zfr z1.2 hH.x
  have nx2 : w.a 0 0 ≠ a2 := zfr z2.2 hH.x
  have hxn : Gn (w.a 0 0) = some (zO 0 (zS (w.a 9) (w.i 0) (va_rf (w.o 8 0)))) := ((mr _ nx nx1 nx2).trans (zput_n nx)).trans hH.x
  refine zr_put hX k_S 13 (by decide) q116 rfl rfl rfl rfl (Nat.le_of_ble_eq_true rfl) hxn d_S_blocks_24 ?_
  obtain ⟨h1, f1⟩ := hH.nt q17 a1 a2 hn17 z1.2 z2.2 ⟨Ne.symm z1.1, Ne.symm z2.1, g12⟩ (G1 := zput Gn (w.a 0 0) (zO 0 ((zS (w.a 9) (w.i 0) (va_rf (w.o 8 0))).set 13 (.ref q17)))) ((zput_n (Ne.symm nx)).trans m0) ((zput_n (Ne.symm nx1)).trans m1) ((zput_n (Ne.symm nx2)).trans m2) (zput_s _ _ _) (fun r r0 r1 r2 r3 => (zput_n r3).trans ((mr r r0 r1 r2).trans (zput_n r0)))
  have we : zWe w (zWnt w q17 a1 a2) := ⟨fun k hk => funext fun j => zWnt_i w q17 a1 a2 k j (by omega), funext fun j => zWnt_o w q17 a1 a2 1 j (by omega), funext fun j => zWnt_o w q17 a1 a2 3 j (by omega), funext fun j => zWnt_o w q17 a1 a2 5 j (by omega), rfl, fun k hk => funext fun j => zWnt_n w q17 a1 a2 k j (by omega)⟩
  have hz := zbl_run hX (k := 0 + 1 + 2) (n := 0 + 3 + 32768) (Post := zSq (.inl (some (.int (nI (zbl9 u l).1)))) w wm u cm 3 32771 G) (by omega) (by omega) (by omega) hl h1 (hI.1.we we) (zWnt_o0 w q17 a1 a2) (fun w2 G2 h2 f2 e2 o2 => zbl_end hI htn h2 (f1.tr f2) (we.tr e2) o2)
  rw [show (zWnt w q17 a1 a2).a 0 0 = w.a 0 0 from zWnt_a w q17 a1 a2 0 0 (by omega)] at hz
  exact hz
