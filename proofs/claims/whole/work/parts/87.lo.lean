section ZLW
variable {g : zGt} {X : zX} {d b L x m out : Nat} {xs : Nat → Int32}
theorem lw_head {G : zG} {k n : Nat} {o5 o6 : Option Value} (hX : zOK g X b_L_law y_L_law (some .boolean) [] 7 d 601024 7293034) (hs : zSc X b L xs) (hL : L ≤ 3584) (t : Nat) (ht : 7 * t ≤ L) (kb : 7 * t + 7 ≤ L → zw g X (fun r _ => r = .inl (some (.int 1))) 33 (zll b x m out (7 * t) o5 o6) [] G k n) : zw g X (fun r _ => r = .inl (some (.int 1))) 23 (zll b x m out (7 * t) o5 o6) [] G k n := by
  refine zr_iload hX rfl d_L_law_23 ?_
  refine zr_aload_n hX rfl d_L_law_25 ?_
  refine zr_slen hX hs d_L_law_26 ?_
  refine zr_bipush (v := nI 7) hX rfl d_L_law_27 ?_
  refine zr_isub hX d_L_law_29 ?_
  have e1 : (nI L - nI 7).toInt = (L : Int) - 7 := pk_sub_toInt (by omega) (by omega)
  have e2 : (nI (7 * t)).toInt = ((7 * t : Nat) : Int) := nI_toInt (by omega)
  refine zr_icmp_gt hX (tgt := 1461) d_L_law_30 (by decide) (fun _ => ?_) (fun h => ?_)
  · refine zr_iconst (v := 1) hX rfl d_L_law_1461 ?_
    exact zr_zret hX rfl d_L_law_1462 rfl
  · rw [Int32.lt_iff_toInt_lt, e1, e2] at h
    exact kb (by omega)
theorem lw_loop (hX : zOK g X b_L_law y_L_law (some .boolean) [] 7 d 601024 7293034) (hd9 : 100 ≤ d) (hs : zSc X b L xs) (hL : L ≤ 3584) (K N : Nat) (hK : K + 1026 ≤ 601024) (hN : N + 2103813 ≤ 7293034) : ∀ (f t : Nat) (w : zW) (wm : Nat) (u : zU) (cm : Nat) (fo : Nat → Int64) (G : zG) (k n : Nat) (o5 o6 : Option Value), L < 7 * (t + f) + 7 → 7 * t ≤ L → zL0 x m out w u fo G → zIn w wm u cm → k + zPc w wm ≤ K + 2 * t → n + zPs w wm ≤ N + 4101 * t → zw g X (fun r _ => r = .inl (some (.int 1))) 23 (zll b x m out (7 * t) o5 o6) [] G k n := by
  intro f
  induction f with
  | zero =>
    intro t w wm u cm fo G k n o5 o6 hf ht h0 hI hk hn
    exact lw_head hX hs hL t ht (fun z => absurd z (by omega))
  | succ f ih =>
    intro t w wm u cm fo G k n o5 o6 hf ht h0 hI hk hn
    refine lw_head hX hs hL t ht (fun ht7 => ?_)
    have kk : zNext g X b x m out t (K + 2 * t + 2) (N + 4101 * t + 4101) := by
      intro w wm u cm fo G k n o5 o6 h0 hI hk hn
      unfold zll
      refine zs_iinc (v := nI (7 * (t + 1))) hX rfl ?_ (by decide) rfl d_L_law_1455 ?_
      · exact nI_add (7 * t) 7
      refine zr_goto hX (tgt := 23) (by decide) d_L_law_1458 ?_
      exact ih (t + 1) w wm u cm fo G k n o5 o6 (by omega) (by omega) h0 hI (by rw [Nat.mul_add, Nat.mul_one, ← Nat.add_assoc]; exact hk) (by rw [Nat.mul_add, Nat.mul_one, ← Nat.add_assoc]; exact hn)
    unfold zll
    refine zr_aload_n hX rfl d_L_law_33 ?_
    refine zr_iload hX rfl d_L_law_34 ?_
    refine zr_sld hX hs (by omega) hL d_L_law_36 ?_
    refine zr_bipush (v := 31) hX rfl d_L_law_37 ?_
    refine zr_iand hX d_L_law_39 ?_
    obtain ⟨j, hj, ej⟩ := pk_andE (xs (7 * t)) (m := 31) 5 (by decide)
    rw [ej]
    clear ej
    by_cases h23 : 23 ≤ j
    · refine zr_tabOut hX (tgt := 1455) d_L_law_40 (Or.inr ?_) (by decide) ?_
      · rw [nI_toInt (by omega)]; omega
      · exact kk w wm u cm fo G k n o5 o6 h0 hI (by omega) (by omega)
    have : j = 0 ∨ j = 1 ∨ j = 2 ∨ j = 3 ∨ j = 4 ∨ j = 5 ∨ j = 6 ∨ j = 7 ∨ j = 8 ∨ j = 9 ∨ j = 10 ∨ j = 11 ∨ j = 12 ∨ j = 13 ∨ j = 14 ∨ j = 15 ∨ j = 16 ∨ j = 17 ∨ j = 18 ∨ j = 19 ∨ j = 20 ∨ j = 21 ∨ j = 22 := by omega
    rcases this with rfl | rfl | rfl | rfl | rfl | rfl | rfl | rfl | rfl | rfl | rfl | rfl | rfl | rfl | rfl | rfl | rfl | rfl | rfl | rfl | rfl | rfl | rfl
    · exact zr_tabIn hX (off := 108) (tgt := 148) d_L_law_40 (by decide) (by decide) (by decide) (by decide) (lc_kind hX hd9 hs hL t ht7 h0 hI hk hn (by omega) (by omega) kk)
    · exact zr_tabIn hX (off := 145) (tgt := 185) d_L_law_40 (by decide) (by decide) (by decide) (by decide) (lc_branch hX hd9 hs hL t ht7 h0 hI hk hn (by omega) (by omega) kk)
    · exact zr_tabIn hX (off := 193) (tgt := 233) d_L_law_40 (by decide) (by decide) (by decide) (by decide) (lc_drop hX hd9 hs hL t ht7 h0 hI hk hn (by omega) (by omega) kk)
    · exact zr_tabIn hX (off := 218) (tgt := 258) d_L_law_40 (by decide) (by decide) (by decide) (by decide) (lc_region hX hd9 hs hL t ht7 h0 hI hk hn (by omega) (by omega) kk)
    · exact zr_tabIn hX (off := 279) (tgt := 319) d_L_law_40 (by decide) (by decide) (by decide) (by decide) (lc_paint hX hd9 hs hL t ht7 h0 hI hk hn (by omega) (by omega) kk)
    · exact zr_tabIn hX (off := 339) (tgt := 379) d_L_law_40 (by decide) (by decide) (by decide) (by decide) (lc_corner hX hd9 hs hL t ht7 h0 hI hk hn (by omega) (by omega) kk)
    · exact zr_tabIn hX (off := 388) (tgt := 428) d_L_law_40 (by decide) (by decide) (by decide) (by decide) (lc_polygon hX hd9 hs hL t ht7 h0 hI hk hn (by omega) (by omega) kk)
    · exact zr_tabIn hX (off := 460) (tgt := 500) d_L_law_40 (by decide) (by decide) (by decide) (by decide) (lc_copy hX hd9 hs hL t ht7 h0 hI hk hn (by omega) (by omega) kk)
    · exact zr_tabIn hX (off := 558) (tgt := 598) d_L_law_40 (by decide) (by decide) (by decide) (by decide) (lc_entry hX hd9 hs hL t ht7 h0 hI hk hn (by omega) (by omega) kk)
    · exact zr_tabIn hX (off := 607) (tgt := 647) d_L_law_40 (by decide) (by decide) (by decide) (by decide) (lc_map hX hd9 hs hL t ht7 h0 hI hk hn (by omega) (by omega) kk)
    · exact zr_tabIn hX (off := 655) (tgt := 695) d_L_law_40 (by decide) (by decide) (by decide) (by decide) (lc_combine hX hd9 hs hL t ht7 h0 hI hk hn (by omega) (by omega) kk)
    · exact zr_tabIn hX (off := 727) (tgt := 767) d_L_law_40 (by decide) (by decide) (by decide) (by decide) (lc_commit hX hd9 hs hL t ht7 h0 hI hk hn (by omega) (by omega) kk)
    · exact zr_tabIn hX (off := 783) (tgt := 823) d_L_law_40 (by decide) (by decide) (by decide) (by decide) (lc_merge hX hd9 hs hL t ht7 h0 hI hk hn (by omega) (by omega) kk)
    · exact zr_tabIn hX (off := 851) (tgt := 891) d_L_law_40 (by decide) (by decide) (by decide) (by decide) (lc_conflict hX hd9 hs hL t ht7 h0 hI hk hn (by omega) (by omega) kk)
    · exact zr_tabIn hX (off := 900) (tgt := 940) d_L_law_40 (by decide) (by decide) (by decide) (by decide) (lc_settle hX hd9 hs hL t ht7 h0 hI hk hn (by omega) (by omega) kk)
    · exact zr_tabIn hX (off := 980) (tgt := 1020) d_L_law_40 (by decide) (by decide) (by decide) (by decide) (lc_value hX hd9 hs hL t ht7 h0 hI hk hn (by omega) (by omega) kk)
    · exact zr_tabIn hX (off := 1041) (tgt := 1081) d_L_law_40 (by decide) (by decide) (by decide) (by decide) (lc_origin hX hd9 hs hL t ht7 h0 hI hk hn (by omega) (by omega) kk)
    · exact zr_tabIn hX (off := 1114) (tgt := 1154) d_L_law_40 (by decide) (by decide) (by decide) (by decide) (lc_total hX hd9 hs hL t ht7 h0 hI hk hn (by omega) (by omega) kk)
    · exact zr_tabIn hX (off := 1194) (tgt := 1234) d_L_law_40 (by decide) (by decide) (by decide) (by decide) (lc_differing hX hd9 hs hL t ht7 h0 hI hk hn (by omega) (by omega) kk)
    · exact zr_tabIn hX (off := 1243) (tgt := 1283) d_L_law_40 (by decide) (by decide) (by decide) (by decide) (lc_differs hX hd9 hs hL t ht7 h0 hI hk hn (by omega) (by omega) kk)
    · exact zr_tabIn hX (off := 1304) (tgt := 1344) d_L_law_40 (by decide) (by decide) (by decide) (by decide) (lc_nearest hX hd9 hs hL t ht7 h0 hI hk hn (by omega) (by omega) kk)
    · exact zr_tabIn hX (off := 1353) (tgt := 1393) d_L_law_40 (by decide) (by decide) (by decide) (by decide) (lc_about hX hd9 hs hL t ht7 h0 hI hk hn (by omega) (by omega) kk)
    · exact zr_tabIn hX (off := 1390) (tgt := 1430) d_L_law_40 (by decide) (by decide) (by decide) (by decide) (lc_blocks hX hd9 hs hL t ht7 h0 hI hk hn (by omega) (by omega) kk)
end ZLW
