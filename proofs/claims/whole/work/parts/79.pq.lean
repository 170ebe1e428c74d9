theorem zn32 : (32 : Int32) = nI 32 := rfl
theorem zn1 : (1 : Int32) = nI 1 := rfl
theorem zn0 : (0 : Int32) = nI 0 := rfl
theorem zn5 : (5 : Int32) = nI 5 := rfl
theorem zn6 : (6 : Int32) = nI 6 := rfl
theorem zn7 : (7 : Int32) = nI 7 := rfl
theorem zn8 : (8 : Int32) = nI 8 := rfl
/-- a side of a rectangle -/
def zsd (p r : Int32) : Prop := ∃ x k, p = nI x ∧ r = nI k ∧ x + k ≤ 32 ∧ 1 ≤ k
theorem zpos_of {r : Int32} (h : ¬ r < 1) : ∃ k, k < 2 ^ 31 ∧ r = nI k ∧ 1 ≤ k := by
  have h0 : ¬ r < 0 := fun q => h (Int32.lt_trans q (by decide))
  obtain ⟨k, hk, rfl⟩ := nI_of h0
  refine ⟨k, hk, rfl, ?_⟩
  rw [zn1, nI_ltI hk (by decide)] at h
  omega
theorem zsd_S {p r : Int32} (hr : ¬ r < 1) (h : ¬ s_S_fits p r = 0) : zsd p r := by
  unfold s_S_fits at h
  by_cases a : p < 0
  · rw [if_pos a] at h; exact absurd rfl h
  rw [if_neg a] at h
  by_cases b : 32 < r
  · rw [if_pos b] at h; exact absurd rfl h
  rw [if_neg b] at h
  by_cases c : 32 - r < p
  · rw [if_pos c] at h; exact absurd rfl h
  obtain ⟨k, hk, rfl, h1⟩ := zpos_of hr
  obtain ⟨x, hx, rfl⟩ := nI_of a
  rw [zn32, nI_ltI (by decide) hk] at b
  rw [zn32, pk_sub (by omega), nI_ltI (by omega) hx] at c
  exact ⟨x, k, rfl, rfl, by omega, h1⟩
theorem zsd_S2 {p r : Int32} (h : zsd p r) : ¬ s_S_fits p r = 0 ∧ ¬ r < 1 := by
  obtain ⟨x, k, rfl, rfl, h1, h2⟩ := h
  refine ⟨?_, by rw [zn1, nI_ltI (by omega) (by decide)]; omega⟩
  unfold s_S_fits
  rw [if_neg (nI_pos (by omega)), if_neg (by rw [zn32, nI_ltI (by decide) (by omega)]; omega), if_neg (by rw [zn32, pk_sub (by omega), nI_ltI (by omega) (by omega)]; omega)]
  decide
theorem zsd_M {p r : Int32} (h0 : ¬ p < 0) (h1 : ¬ r < 1) (h2 : ¬ 32 ≤ p) (h3 : ¬ 32 - p < r) : zsd p r := by
  obtain ⟨k, hk, rfl, h4⟩ := zpos_of h1
  obtain ⟨x, hx, rfl⟩ := nI_of h0
  rw [zn32, nI_leI (by decide) hx] at h2
  rw [zn32, pk_sub (by omega), nI_ltI (by omega) hk] at h3
  exact ⟨x, k, rfl, rfl, by omega, h4⟩
theorem zsd_M2 {p r : Int32} (h : zsd p r) : ¬ p < 0 ∧ ¬ 32 ≤ p ∧ ¬ 32 - p < r ∧ r ≤ 32 - p := by
  obtain ⟨x, k, rfl, rfl, h1, h2⟩ := h
  refine ⟨nI_pos (by omega), ?_, ?_, ?_⟩
  · rw [zn32, nI_leI (by decide) (by omega)]; omega
  · rw [zn32, pk_sub (by omega), nI_ltI (by omega) (by omega)]; omega
  · rw [zn32, pk_sub (by omega), nI_leI (by omega) (by omega)]; omega
theorem zput2 (G : zG) (a : Nat) (c c2 : zC) : zput (zput G a c) a c2 = zput G a c2 := by
  funext q
  by_cases e : q = a
  · subst e; rw [zput_s, zput_s]
  · rw [zput_n e, zput_n e, zput_n e]
section ZPQ
variable {g : zGt} {w : zW} {wm : Nat} {u : zU} {cm : Nat}
theorem zSq.ee {res : zRes} {G G1 : zG} {p : Nat} {t : zU} (hI : zIn w wm u cm) (hH : zHp w G) (hp : p < 4) (ho0 : ¬ s_M_isBranch u (nI p) = 0) (h : ∃ f, G1 = zput G (w.a 4 p) (zJ 4096 f) ∧ zEe p (zuc u 0 0) t f) : zSq res w wm t cm 0 0 G res G1 := by
  obtain ⟨f, h1, h2⟩ := h
  obtain ⟨b, q, hb, e, h3, -⟩ := hI.1.bra1 ho0
  have e2 : p = b := (nI_eq (by omega) (by omega)).mp e
  subst e2
  subst h1
  exact zSq.of hI (hH.wf4 h3 f) (zFr.put 4 p (zmp h3) (zAd_f _ _ _ _) _ rfl) (h2.rl (hI.1.ue (zUe.c0 u 0)) hp) rfl rfl rfl (fun _ h => h) (by omega) (by omega)
theorem P_region (hI : zIn w wm u cm) (p q r t : Int32) : zPv g w wm u y_S_region b_S_region 5 (some .boolean) y_M_region b_M_region 5 (some .boolean) [.int p, .int q, .int r, .int t] := by
  by_cases H : zsd p r ∧ zsd q t
  · obtain ⟨H1, H2⟩ := H
    obtain ⟨a1, a2⟩ := zsd_S2 H1
    obtain ⟨b1, b2⟩ := zsd_S2 H2
    obtain ⟨c1, c2, c3, -⟩ := zsd_M2 H1
    obtain ⟨d1, d2, -, d3⟩ := zsd_M2 H2
    have e1 : zput = zput := rfl
    let x9 : Nat → Int32 := upd (upd (upd (upd (w.i 0) 4 p) 5 q) 6 r) 7 t
    let u9 : zU := zuc (zuc (zuc (zuc (zuc u 0 0) 16 p) 17 q) 18 r) 19 t
    refine ⟨1, u9, cm, 0, 0, ⟨by omega, by omega⟩, fun d G hd hH => (c_S_region g d (by omega) G (zWv w) (w.a 0 0) hH.sv p q r t).mono (fun r G1 h => ?_), fun d G m hd hM => (c_M_region g d G u m hM p q r t).mono (fun r G1 h => ?_)⟩
    · unfold P_S_region at h
      rw [if_neg a2, if_neg b2, if_neg a1, if_neg b1] at h
      obtain ⟨r1, r2⟩ := h
      subst r1
      rw [zput2, zput2, zput2] at r2
      subst r2
      obtain ⟨x, k, e1, e2, e3, e4⟩ := H1
      obtain ⟨y, l, f1, f2, f3, f4⟩ := H2
      exact zSq.of hI (hH.w0 x9) (zFr.put 0 0 rfl rfl _ rfl) (hI.1.region (u2 := u9) (x := x9) (lf := x) (tp := y) (wd := k) (hg := l) rfl (fun j h1 h2 => by
        have : j = 4 ∨ j = 5 ∨ j = 6 ∨ j = 7 := by omega
        rcases this with rfl | rfl | rfl | rfl <;> rfl) (fun j j0 j1 => by
          show upd (upd (upd (upd (upd u.2.1 0 0) 16 p) 17 q) 18 _) 19 t j = u.2.1 j
          rw [pk_un (by omega), pk_un (by omega), pk_un (by omega), pk_un (by omega), pk_un (by omega)]) rfl e1 f1 e2 f2 e3 f3 e4 f4) rfl rfl rfl (fun _ h => h) (by omega) (by omega)
    · unfold P_M_region at h
      rw [if_neg c1, if_neg d1, if_neg a2, if_neg b2, if_neg c2, if_neg d2, if_neg c3, if_pos d3] at h
      obtain ⟨r1, r2⟩ := h
      subst r1
      rw [zput2, zput2, zput2, zput2] at r2
      subst r2
      exact ⟨rfl, u9, hM.put u9.2.1, zMf.obj zMf.rf _, rfl, zUe.rf _, rfl⟩
  · refine ⟨0, zuc u 0 0, cm, 0, 0, ⟨by omega, by omega⟩, fun d G hd hH => (c_S_region g d (by omega) G (zWv w) (w.a 0 0) hH.sv p q r t).mono (fun r9 G1 h => zSq.d1 hI hH (zUe.c0 u 0) (by omega) (by omega) ?_), fun d G m hd hM => (c_M_region g d G u m hM p q r t).mono (fun r9 G1 h => zRx.d hM ?_)⟩
    · unfold P_S_region at h
      by_cases a1 : r < 1
      · rw [if_pos a1] at h; exact h
      by_cases a2 : t < 1
      · rw [if_neg a1, if_pos a2] at h; exact h
      by_cases a3 : s_S_fits p r = 0
      · rw [if_neg a1, if_neg a2, if_pos a3] at h; exact h
      by_cases a4 : s_S_fits q t = 0
      · rw [if_neg a1, if_neg a2, if_neg a3, if_pos a4] at h; exact h
      · exact absurd ⟨zsd_S a1 a3, zsd_S a2 a4⟩ H
    · unfold P_M_region at h
      by_cases a1 : p < 0
      · rw [if_pos a1] at h; exact h
      by_cases a2 : q < 0
      · rw [if_neg a1, if_pos a2] at h; exact h
      by_cases a3 : r < 1
      · rw [if_neg a1, if_neg a2, if_pos a3] at h; exact h
      by_cases a4 : t < 1
      · rw [if_neg a1, if_neg a2, if_neg a3, if_pos a4] at h; exact h
      by_cases a5 : 32 ≤ p
      · rw [if_neg a1, if_neg a2, if_neg a3, if_neg a4, if_pos a5] at h; exact h
      by_cases a6 : 32 ≤ q
      · rw [if_neg a1, if_neg a2, if_neg a3, if_neg a4, if_neg a5, if_pos a6] at h; exact h
      by_cases a7 : 32 - p < r
      · rw [if_neg a1, if_neg a2, if_neg a3, if_neg a4, if_neg a5, if_neg a6, if_pos a7] at h; exact h
      by_cases a8 : t ≤ 32 - q
      · exact absurd ⟨zsd_M a1 a3 a5 a7, zsd_M a2 a4 a6 (Int32.not_lt.mpr a8)⟩ H
      · rw [if_neg a1, if_neg a2, if_neg a3, if_neg a4, if_neg a5, if_neg a6, if_neg a7, if_neg a8] at h; exact h
theorem zpt0 {q : Int32} (h1 : ¬ q < 0) (h2 : ¬ 32 < q) : ¬ s_S_isPoint q = 0 := by
  unfold s_S_isPoint
  rw [if_neg h1, if_neg h2]
  decide
theorem zpt1 {q : Int32} (h : ¬ s_S_isPoint q = 0) : ¬ q < 0 ∧ ¬ 32 < q := by
  unfold s_S_isPoint at h
  by_cases a : q < 0
  · rw [if_pos a] at h; exact absurd rfl h
  by_cases b : 32 < q
  · rw [if_neg a, if_pos b] at h; exact absurd rfl h
  exact ⟨a, b⟩
theorem zle_of {p : Int32} {a b : Int32} (n : Nat) (hn : n < 1000) (ha : a = nI n) (hb : b = nI (n + 1)) (h0 : ¬ p < 0) : (b ≤ p ↔ a < p) := by
  obtain ⟨x, hx, rfl⟩ := nI_of h0
  rw [ha, hb, nI_leI (by omega) hx, nI_ltI (by omega) hx]
  omega
theorem P_corner (hI : zIn w wm u cm) (p q r : Int32) : zPv g w wm u y_S_corner b_S_corner 4 (some .boolean) y_M_corner b_M_corner 4 (some .boolean) [.int p, .int q, .int r] := by
  have n89 : ∀ G, zHp w G → w.a 9 8 ≠ w.a 9 9 := fun G hH => hH.ne 9 8 9 9 rfl rfl (by omega)
  by_cases H : ¬ p < 0 ∧ ¬ 5 < p ∧ ¬ q < 0 ∧ ¬ 32 < q ∧ ¬ r < 0 ∧ r ≤ 32
  · obtain ⟨H1, H2, H3, H4, H5, H6⟩ := H
    have H2b : ¬ 6 ≤ p := fun z => H2 ((zle_of 5 (by decide) zn5 zn6 H1).mp z)
    obtain ⟨x, hx, ex⟩ := nI_of2 (x := q) (M := 32) (n := 32) rfl H3 (Int32.not_lt.mp H4)
    obtain ⟨y, hy, ey⟩ := nI_of2 (x := r) (M := 32) (n := 32) rfl H5 H6
    obtain ⟨c1, c2⟩ := zcl_of (n := 6) H1 H2b rfl (by decide)
    refine ⟨1, zua (zua (zuc u 0 0) 20 (upd (u.ar 20) p.toNatClampNeg q)) 21 (upd (u.ar 21) p.toNatClampNeg r), cm, 0, 0, ⟨by omega, by omega⟩, fun d G hd hH => (c_S_corner g d (by omega) G (zWv w) (w.a 0 0) hH.sv (n89 G hH) p q r).mono (fun r9 G1 h => ?_), fun d G m hd hM => (c_M_corner g d G u m hM p q r).mono (fun r9 G1 h => ?_)⟩
    rotate_left 1
    · unfold P_M_corner at h
      rw [if_neg H1, if_neg H2, if_neg H3, if_neg H4, if_neg H5, if_pos H6] at h
      exact zRx.d2 hM 20 21 rfl rfl _ _ h
    · unfold P_S_corner at h
      rw [if_neg H1, if_neg H2b, if_neg (zpt0 H3 H4), if_neg (zpt0 H5 (Int32.not_lt.mpr H6))] at h
      obtain ⟨r1, r2⟩ := h
      subst r1 r2
      subst ex ey
      have k1 := hH.wn 9 8 rfl (upd (w.n 9 8) p.toNatClampNeg (nI x)) (congrArg (zI 6) (zud_s w.n 9 8 (upd (w.n 9 8) p.toNatClampNeg (nI x))))
      have k2 := k1.wn 9 9 (q := w.a 9 9) rfl (upd (w.n 9 9) p.toNatClampNeg (nI y)) (congrArg (zI 6) (zud_s (zWn w 9 8 (upd (w.n 9 8) p.toNatClampNeg (nI x))).n 9 9 (upd (w.n 9 9) p.toNatClampNeg (nI y))))
      exact zSq.of hI k2 ((zFr.put 9 8 rfl (zAd_n w 9 8 (upd (w.n 9 8) p.toNatClampNeg (nI x))) _ rfl).tr (zFr.put 9 9 rfl (zAd_n _ _ _ _) _ rfl)) (hI.1.corner hx hy) rfl rfl rfl (fun _ h => h) (by omega) (by omega)
  · refine ⟨0, zuc u 0 0, cm, 0, 0, ⟨by omega, by omega⟩, fun d G hd hH => (c_S_corner g d (by omega) G (zWv w) (w.a 0 0) hH.sv (n89 G hH) p q r).mono (fun r9 G1 h => zSq.d1 hI hH (zUe.c0 u 0) (by omega) (by omega) ?_), fun d G m hd hM => (c_M_corner g d G u m hM p q r).mono (fun r9 G1 h => zRx.d hM ?_)⟩
    · unfold P_S_corner at h
      by_cases a1 : p < 0
      · rw [if_pos a1] at h; exact h
      by_cases a2 : 6 ≤ p
      · rw [if_neg a1, if_pos a2] at h; exact h
      by_cases a3 : s_S_isPoint q = 0
      · rw [if_neg a1, if_neg a2, if_pos a3] at h; exact h
      by_cases a4 : s_S_isPoint r = 0
      · rw [if_neg a1, if_neg a2, if_neg a3, if_pos a4] at h; exact h
      · exact absurd ⟨a1, fun z => a2 ((zle_of 5 (by decide) zn5 zn6 a1).mpr z), (zpt1 a3).1, (zpt1 a3).2, (zpt1 a4).1, Int32.not_lt.mp (zpt1 a4).2⟩ H
    · unfold P_M_corner at h
      by_cases a1 : p < 0
      · rw [if_pos a1] at h; exact h
      by_cases a2 : 5 < p
      · rw [if_neg a1, if_pos a2] at h; exact h
      by_cases a3 : q < 0
      · rw [if_neg a1, if_neg a2, if_pos a3] at h; exact h
      by_cases a4 : 32 < q
      · rw [if_neg a1, if_neg a2, if_neg a3, if_pos a4] at h; exact h
      by_cases a5 : r < 0
      · rw [if_neg a1, if_neg a2, if_neg a3, if_neg a4, if_pos a5] at h; exact h
      by_cases a6 : r ≤ 32
      · exact absurd ⟨a1, a2, a3, a4, a5, a6⟩ H
      · rw [if_neg a1, if_neg a2, if_neg a3, if_neg a4, if_neg a5, if_neg a6] at h; exact h
theorem P_entry (hI : zIn w wm u cm) (p q r : Int32) : zPv g w wm u y_S_entry b_S_entry 4 (some .boolean) y_M_entry b_M_entry 4 (some .boolean) [.int p, .int q, .int r] := by
  have n89 : ∀ G, zHp w G → w.a 9 10 ≠ w.a 9 11 := fun G hH => hH.ne 9 10 9 11 rfl rfl (by omega)
  by_cases H : ¬ p < 0 ∧ ¬ 7 < p ∧ ¬ s_M_isValue q = 0 ∧ ¬ s_M_isValue r = 0
  · obtain ⟨H1, H2, H3, H4⟩ := H
    have H2b : ¬ 8 ≤ p := fun z => H2 ((zle_of 7 (by decide) zn7 zn8 H1).mp z)
    obtain ⟨c1, c2⟩ := zcl_of (n := 8) H1 H2b rfl (by decide)
    refine ⟨1, zua (zua (zuc u 0 0) 22 (upd (u.ar 22) p.toNatClampNeg q)) 23 (upd (u.ar 23) p.toNatClampNeg r), cm, 0, 0, ⟨by omega, by omega⟩, fun d G hd hH => (c_S_entry g d (by omega) G (zWv w) (w.a 0 0) hH.sv (n89 G hH) p q r).mono (fun r9 G1 h => ?_), fun d G m hd hM => (c_M_entry g d (by omega) G u m hM p q r).mono (fun r9 G1 h => ?_)⟩
    rotate_left 1
    · unfold P_M_entry at h
      rw [if_neg H1, if_neg H2, if_neg H3, if_neg H4] at h
      exact zRx.d2 hM 22 23 rfl rfl _ _ h
    · unfold P_S_entry at h
      rw [if_neg H1, if_neg H2b, if_neg (show ¬ s_S_isValue q = 0 from H3), if_neg (show ¬ s_S_isValue r = 0 from H4)] at h
      obtain ⟨r1, r2⟩ := h
      subst r1 r2
      have k1 := hH.wn 9 10 rfl (upd (w.n 9 10) p.toNatClampNeg q) (congrArg (zI 8) (zud_s w.n 9 10 (upd (w.n 9 10) p.toNatClampNeg q)))
      have k2 := k1.wn 9 11 (q := w.a 9 11) rfl (upd (w.n 9 11) p.toNatClampNeg r) (congrArg (zI 8) (zud_s (zWn w 9 10 (upd (w.n 9 10) p.toNatClampNeg q)).n 9 11 (upd (w.n 9 11) p.toNatClampNeg r)))
      exact zSq.of hI k2 ((zFr.put 9 10 rfl (zAd_n w 9 10 (upd (w.n 9 10) p.toNatClampNeg q)) _ rfl).tr (zFr.put 9 11 rfl (zAd_n _ _ _ _) _ rfl)) hI.1.entry rfl rfl rfl (fun _ h => h) (by omega) (by omega)
  · refine ⟨0, zuc u 0 0, cm, 0, 0, ⟨by omega, by omega⟩, fun d G hd hH => (c_S_entry g d (by omega) G (zWv w) (w.a 0 0) hH.sv (n89 G hH) p q r).mono (fun r9 G1 h => zSq.d1 hI hH (zUe.c0 u 0) (by omega) (by omega) ?_), fun d G m hd hM => (c_M_entry g d (by omega) G u m hM p q r).mono (fun r9 G1 h => zRx.d hM ?_)⟩
    · unfold P_S_entry at h
      by_cases a1 : p < 0
      · rw [if_pos a1] at h; exact h
      by_cases a2 : 8 ≤ p
      · rw [if_neg a1, if_pos a2] at h; exact h
      by_cases a3 : s_S_isValue q = 0
      · rw [if_neg a1, if_neg a2, if_pos a3] at h; exact h
      by_cases a4 : s_S_isValue r = 0
      · rw [if_neg a1, if_neg a2, if_neg a3, if_pos a4] at h; exact h
      · exact absurd ⟨a1, fun z => a2 ((zle_of 7 (by decide) zn7 zn8 a1).mpr z), a3, a4⟩ H
    · unfold P_M_entry at h
      by_cases a1 : p < 0
      · rw [if_pos a1] at h; exact h
      by_cases a2 : 7 < p
      · rw [if_neg a1, if_pos a2] at h; exact h
      by_cases a3 : s_M_isValue q = 0
      · rw [if_neg a1, if_neg a2, if_pos a3] at h; exact h
      by_cases a4 : s_M_isValue r = 0
      · rw [if_neg a1, if_neg a2, if_neg a3, if_pos a4] at h; exact h
      · exact absurd ⟨a1, a2, a3, a4⟩ H
end ZPQ
