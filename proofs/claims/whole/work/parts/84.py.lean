section ZPY
variable {g : zGt} {w : zW} {wm : Nat} {u : zU} {cm : Nat}
theorem znof_c {u9 u : zU} (ha : ∀ j, u9.2.2 j = u.2.2 j) {s q : Int32} {cm : Nat} : s_M_nearestOf u9 s q cm = s_M_nearestOf u s q cm := by
  obtain ⟨a, b, c⟩ := u9
  obtain ⟨a2, b2, c2⟩ := u
  obtain rfl : c = c2 := funext ha
  rfl
theorem P_total (hI : zIn w wm u cm) (p q e : Int32) : zPo g w wm u y_L_total b_L_total 6 [(0, 12, 15, 13)] y_M_total b_M_total 11 [.int p, .int q, .int e] := by
  by_cases hb : s_M_isPlace u p = 0 ∨ s_M_isLayer q = 0 ∨ e < 0 ∨ ¬ e ≤ 3
  · exact zPo.bad hI 1 (by decide) (fun d G out hd hH => c_L_total_iae g d (by omega) G (w.a 0 0) (zS (w.a 9) (w.i 0) (va_rf (w.o 8 0))) (hH.at 0 0 rfl) p q e 1 6 out (c_S_total_bad g (d - 1) (by omega) G w u cm hH hI.1 p q e hb)) (fun d G m hd hm => c_M_total_bad g d (by omega) G u m hm p q e hb)
  simp only [not_or] at hb
  obtain ⟨h0, h1, h2, h3⟩ := hb
  obtain ⟨a, a1, rfl⟩ := zpl28 hI.1 h0
  obtain ⟨b, b1, rfl⟩ := zlay h1
  obtain ⟨lf, tp, wd, hg, r1, r2, r3, r4, r5, r6⟩ := zrgn hI
  have hs : ∀ (d : Nat) (G : zG), 79 ≤ d → zHp w G → zMet g y_S_total b_S_total 12 (some .int) [] d 0 0 [.ref (w.a 0 0), .int (nI a), .int (nI b), .int e] G (zSq (.inl (some (.int (s_M_total u a b e lf tp wd hg)))) w wm (zuc u 0 0) cm 0 0 G) := fun d G hd hH => (c_S_total_ok g d (by omega) G w u cm hH hI.1 a b e lf tp wd hg r1 r2 r3 r4 r5 r6 a1 b1 h0 h1 h2 h3).mono (fun r G1 h => zSq.d1 hI hH (zUe.c0 u 0) (by omega) (by omega) h)
  exact ⟨0, s_M_total u a b e lf tp wd hg, zuc u 0 0, cm, 0, 0, ⟨by omega, by omega⟩, fun d G out fo hd hH ho hn => (c_L_total_ok g d (by omega) G (w.a 0 0) (zS (w.a 9) (w.i 0) (va_rf (w.o 8 0))) (hH.at 0 0 rfl) (nI a) (nI b) e (0) (0) out _ (s_M_total u a b e lf tp wd hg) fo (fun G1 h => h.out ho hn) (hs (d - 1) G (by omega) hH).sq).mono (fun r G1 h => by
      obtain ⟨h1, G2, h2, h3⟩ := h
      exact ⟨G2, _, h3, fun _ => pk_uLs, h1, h2.2⟩), fun d G m hd hm => (c_M_total_ok g d (by omega) G u m hm a b e lf tp wd hg r1 r2 r3 r4 r5 r6 a1 b1 h0 h1 h2 h3).mono (fun r G1 h => zRx.q h (zc00 u 0))⟩
theorem P_settle (hI : zIn w wm u cm) (p q v : Int32) : zPo g w wm u y_L_settle b_L_settle 6 [(0, 12, 15, 13)] y_M_settle b_M_settle 4 [.int p, .int q, .int v] := by
  by_cases hb : s_M_isConflict u p q = 0 ∨ s_M_isValue v = 0
  · exact zPo.bad hI 1 (by decide) (fun d G out hd hH => c_L_settle_iae g d (by omega) G (w.a 0 0) (zS (w.a 9) (w.i 0) (va_rf (w.o 8 0))) (hH.at 0 0 rfl) p q v 1 6 out (c_S_settle_bad g (d - 1) (by omega) G w u cm hH hI.1 p q v hb)) (fun d G m hd hm => c_M_settle_bad g d (by omega) G u m hm p q v hb)
  simp only [not_or] at hb
  obtain ⟨h0, h1⟩ := hb
  have h0b : ¬ s_M_isBranch u p = 0 := fun z => h0 (by unfold s_M_isConflict; rw [if_pos z])
  obtain ⟨a, qa, a1, rfl, a3, -, a7, at9⟩ := hI.1.bra1 h0b
  obtain ⟨-, -, -, -, e, e1, e2, e3, e4⟩ := at9
  have hq0 : ¬ q < 0 := fun z => h0 (by unfold s_M_isConflict; rw [if_neg h0b, if_pos z])
  have hq1 : ¬ nI e ≤ q := fun z => h0 (by unfold s_M_isConflict; rw [if_neg h0b, if_neg hq0, nI_clamp (by omega), e2, if_pos z])
  obtain ⟨b1, b2⟩ := zcl_of (n := e) hq0 hq1 (nI_toInt (by omega)) (by omega)
  generalize q.toNatClampNeg = b at b1 b2
  subst b2
  obtain ⟨kq, hk⟩ : ∃ kq, w.o 5 a = some kq := by
    cases h5 : w.o 5 a with
    | none => have := e3 h5; omega
    | some kq => exact ⟨kq, rfl⟩
  obtain ⟨-, -, k3⟩ := e4 kq hk
  obtain ⟨-, ⟨ct, t1, t2⟩, -⟩ := k3 b b1
  have hs : ∀ (d : Nat) (G : zG), 79 ≤ d → zHp w G → zMet g y_S_settle b_S_settle 5 (some .int) [] d 0 0 [.ref (w.a 0 0), .int (nI a), .int (nI b), .int v] G (zSq (.inl (some (.int (s_M_settle u a b v ct e)))) w wm (t_M_settle u a b v ct e) cm 0 0 G) := fun d G hd hH => c_S_settle_ok g d (by omega) G w wm u cm hH hI a b v a1 e e2 e1 b1 ct t2 t1 h0 h1
  exact ⟨0, s_M_settle u a b v ct e, t_M_settle u a b v ct e, cm, 0, 0, ⟨by omega, by omega⟩, fun d G out fo hd hH ho hn => (c_L_settle_ok g d (by omega) G (w.a 0 0) (zS (w.a 9) (w.i 0) (va_rf (w.o 8 0))) (hH.at 0 0 rfl) (nI a) (nI b) v (0) (0) out _ (s_M_settle u a b v ct e) fo (fun G1 h => h.out ho hn) (hs (d - 1) G (by omega) hH).sq).mono (fun r G1 h => by
      obtain ⟨h1, G2, h2, h3⟩ := h
      exact ⟨G2, _, h3, fun _ => pk_uLs, h1, h2.2⟩), fun d G m hd hm => (c_M_settle_ok g d (by omega) G u m hm a b v a1 e e2 e1 b1 ct t2 t1 h0 h1).mono (fun r G1 h => zRx.q h (i_settle u a b v ct e))⟩
theorem P_commit (hI : zIn w wm u cm) (p : Int32) : zPo g w wm u y_L_commit b_L_commit 4 [(0, 9, 12, 13), (0, 9, 15, 15)] y_M_commit b_M_commit 4 [.int p] := by
  by_cases h0 : s_M_isBranch u p = 0
  · exact zPo.bad hI 1 (by decide) (fun d G out hd hH => c_L_commit_iae g d (by omega) G (w.a 0 0) (zS (w.a 9) (w.i 0) (va_rf (w.o 8 0))) (hH.at 0 0 rfl) p 1 6 out (c_S_commit_bad g (d - 1) (by omega) G w u cm hH hI.1 p h0)) (fun d G m hd hm => c_M_commit_bad g d (by omega) G u m hm p h0)
  obtain ⟨a, qa, a1, rfl, a3, -, a7, at9⟩ := hI.1.bra1 h0
  obtain ⟨-, -, ⟨x, x1, x2, -⟩, -, e, e1, e2, -⟩ := at9
  have x3 : x < 24 := Nat.lt_of_lt_of_le x2 hI.1.hm
  have hcm := hI.1.hm
  by_cases hb : s_M_isChanged u a x = 0 ∨ 0 < zfor e (st_M_unsettled u a) 0 ∨ u.i 6 = 24
  · exact zPo.bad hI 2 (by decide) (fun d G out hd hH => c_L_commit_ise g d (by omega) G (w.a 0 0) (zS (w.a 9) (w.i 0) (va_rf (w.o 8 0))) (hH.at 0 0 rfl) (nI a) 1 6 out (c_S_commit_two g (d - 1) (by omega) G w u cm hH hI.1 a a1 h0 x x1 x3 e e2 e1 hb)) (fun d G m hd hm => c_M_commit_two g d (by omega) G u m hm a a1 h0 x x1 x3 e e2 e1 hb)
  simp only [not_or] at hb
  obtain ⟨b1, b2, b3⟩ := hb
  have b4 : cm < 24 := by
    apply Classical.byContradiction
    intro z
    have : cm = 24 := by omega
    subst this
    exact b3 hI.1.i6
  have hs : ∀ (d : Nat) (G : zG), 79 ≤ d → zHp w G → zMet g y_S_commit b_S_commit 5 (some .int) [] d 2 4100 [.ref (w.a 0 0), .int (nI a)] G (zSq (.inl (some (.int (s_M_commit u a cm)))) w wm (t_M_commit u a cm) (cm + 1) 2 4100 G) := by
    intro d G hd hH
    cases h5 : w.o 5 a with
    | none => exact c_S_commit_n g d (by omega) G w wm u cm hH hI a a1 h0 x x1 x3 e e2 e1 b1 b2 b4 h5
    | some kq => exact c_S_commit_k g d (by omega) G w wm u cm hH hI a a1 h0 x x1 x3 e e2 e1 b1 b2 b4 kq h5
  exact ⟨0, s_M_commit u a cm, t_M_commit u a cm, cm + 1, 2, 4100, ⟨by omega, by omega⟩, fun d G out fo hd hH ho hn => (c_L_commit_ok g d (by omega) G (w.a 0 0) (zS (w.a 9) (w.i 0) (va_rf (w.o 8 0))) (hH.at 0 0 rfl) (nI a) (2) (4100) out _ (s_M_commit u a cm) fo (fun G1 h => h.out ho hn) (hs (d - 1) G (by omega) hH).sq).mono (fun r G1 h => by
      obtain ⟨h1, G2, h2, h3⟩ := h
      exact ⟨G2, _, h3, fun _ => pk_uLs, h1, h2.2⟩), fun d G m hd hm => (c_M_commit_ok g d (by omega) G u m hm a a1 h0 x x1 x3 e e2 e1 cm hI.1.i6 hI.1.hm b1 b2 b4).mono (fun r G1 h => zRx.q h (i_commit u a cm))⟩
theorem P_merge (hI : zIn w wm u cm) (p q : Int32) : zPo g w wm u y_L_merge b_L_merge 5 [(0, 10, 13, 13), (0, 10, 17, 15)] y_M_merge b_M_merge 9 [.int p, .int q] := by
  by_cases hb : s_M_isBranch u p = 0 ∨ s_M_isCommit u q = 0
  · exact zPo.bad hI 1 (by decide) (fun d G out hd hH => c_L_merge_iae g d (by omega) G (w.a 0 0) (zS (w.a 9) (w.i 0) (va_rf (w.o 8 0))) (hH.at 0 0 rfl) p q 1 6 out (c_S_merge_bad g (d - 1) (by omega) G w u cm hH hI.1 p q hb)) (fun d G m hd hm => c_M_merge_bad g d (by omega) G u m hm p q hb)
  simp only [not_or] at hb
  obtain ⟨h0, h1⟩ := hb
  obtain ⟨a, qa, a1, rfl, a3, -, a7, at9⟩ := hI.1.bra1 h0
  obtain ⟨-, -, ⟨x, x1, x2, -⟩, -⟩ := at9
  have hcm := hI.1.hm
  have x3 : x < 24 := by omega
  obtain ⟨c, c1, rfl⟩ := zisc0 hI.1.i6 hI.1.hm h1
  have c2 : c < 24 := by omega
  by_cases hb : ¬ s_M_isChanged u a x = 0 ∨ ((s_M_ancestors u (1 <<< ((nI x) &&& 31)) cm) >>> ((nI c) &&& 31)) &&& 1 = 1
  · exact zPo.bad hI 2 (by decide) (fun d G out hd hH => c_L_merge_ise g d (by omega) G (w.a 0 0) (zS (w.a 9) (w.i 0) (va_rf (w.o 8 0))) (hH.at 0 0 rfl) (nI a) (nI c) 1 6 out (c_S_merge_two g (d - 1) (by omega) G w u cm hH hI.1 a c a1 c2 h0 h1 x x1 x3 hb)) (fun d G m hd hm => c_M_merge_two g d (by omega) G u m hm a c a1 h0 h1 x x1 x3 cm hI.1.i6 hI.1.h1 hI.1.hm hb)
  rw [not_or] at hb
  obtain ⟨b1, b2⟩ := hb
  have b1 : s_M_isChanged u a x = 0 := Classical.not_not.mp b1
  have hac : ¬ zbt (w.i 3 x) c = true := fun z => b2 ((zbt_t (by omega)).mpr ((hI.1.hi.anc1 x2 (by omega)).mpr z))
  have hle := zbs_le (fun n k => u.ar 1 (4096 * n + k)) (fun s c => s_M_nearestOf u s (nI c) cm) cm 24 (1 <<< (nI x &&& 31)) c
  have hw := hI.2.1.1
  have hbd : ((if w.o 5 a = none then 6 else 0) + 2 * (max wm (zbs (fun n k => u.ar 1 (4096 * n + k)) (fun s c => s_M_nearestOf u s (nI c) cm) cm 24 (1 <<< (nI x &&& 31)) c).2 - wm)) ≤ zPc w wm + 2 ∧ ((if w.o 5 a = none then 20487 else 0) + 4097 * (max wm (zbs (fun n k => u.ar 1 (4096 * n + k)) (fun s c => s_M_nearestOf u s (nI c) cm) cm 24 (1 <<< (nI x &&& 31)) c).2 - wm)) ≤ zPs w wm + 4101 := by
    generalize (zbs (fun n k => u.ar 1 (4096 * n + k)) (fun s c => s_M_nearestOf u s (nI c) cm) cm 24 (1 <<< (nI x &&& 31)) c).2 = z9 at hle ⊢
    unfold zPc zPs
    by_cases h5 : w.o 5 a = none
    · have := zNc_p a1 h5
      rw [if_pos h5, if_pos h5]
      exact ⟨by omega, by omega⟩
    · rw [if_neg h5, if_neg h5]
      exact ⟨by omega, by omega⟩
  have hm9 : ∀ (d : Nat) (G : zG) (m : Nat), 80 ≤ d → zMv u m G → zMet g y_M_merge b_M_merge 9 (some .int) [] d 0 0 [.ref m, .int (nI a), .int (nI c)] G (zRx (some (.int ((t_M_merge (zub u (zbs (fun n k => u.ar 1 (4096 * n + k)) (fun s c => s_M_nearestOf u s (nI c) cm) cm 24 (1 <<< (nI x &&& 31)) c).1) a c).ar 14 a))) 0 (t_M_merge (zub u (zbs (fun n k => u.ar 1 (4096 * n + k)) (fun s c => s_M_nearestOf u s (nI c) cm) cm 24 (1 <<< (nI x &&& 31)) c).1) a c) u m G) := fun d G m hd hm => (c_M_merge_ok g d (by omega) G u m hm a c a1 c2 h0 h1 x x1 x3 cm hI.1.i6 hI.1.h1 hI.1.hm b1 b2 _ (fun d hd G u9 m hm ha hi => by
      have h6 : u9.i 6 = nI cm := hi.trans hI.1.i6
      have h9 : zHi u9 cm (w.i 3) := hI.1.hi.u (fun c _ => by rw [zU.ar, ha]) (fun c _ => by rw [zU.ar, ha])
      have k := c_M_base g d (by omega) G u9 m hm x c cm (w.i 3) h9 h6 x2 c1 hac
      have e1 : (fun n k => u9.ar 1 (4096 * n + k)) = (fun n k => u.ar 1 (4096 * n + k)) := by
        funext n k
        rw [zU.ar, ha]
      have e2 : (fun s c => s_M_nearestOf u9 s (nI c) cm) = (fun s c => s_M_nearestOf u s (nI c) cm) := by
        funext s c
        exact znof_c ha
      rw [e1, e2] at k
      exact k)).mono (fun r G1 h => by
      obtain ⟨u2, g1, g2, g3, g4, g5⟩ := h
      obtain ⟨k1, k2⟩ := zmcg g1 a c
      refine ⟨?_, t_M_merge u2 a c, g3, g4, g5, k1, k2⟩
      rw [g2, k1.2 14 (by decide)])
  exact ⟨0, (t_M_merge (zub u (zbs (fun n k => u.ar 1 (4096 * n + k)) (fun s c => s_M_nearestOf u s (nI c) cm) cm 24 (1 <<< (nI x &&& 31)) c).1) a c).ar 14 a, t_M_merge (zub u (zbs (fun n k => u.ar 1 (4096 * n + k)) (fun s c => s_M_nearestOf u s (nI c) cm) cm 24 (1 <<< (nI x &&& 31)) c).1) a c, cm, ((if w.o 5 a = none then 6 else 0) + 2 * (max wm (zbs (fun n k => u.ar 1 (4096 * n + k)) (fun s c => s_M_nearestOf u s (nI c) cm) cm 24 (1 <<< (nI x &&& 31)) c).2 - wm)), ((if w.o 5 a = none then 20487 else 0) + 4097 * (max wm (zbs (fun n k => u.ar 1 (4096 * n + k)) (fun s c => s_M_nearestOf u s (nI c) cm) cm 24 (1 <<< (nI x &&& 31)) c).2 - wm)), hbd, fun d G out fo hd hH ho hn => (c_L_merge_ok g d (by omega) G (w.a 0 0) (zS (w.a 9) (w.i 0) (va_rf (w.o 8 0))) (hH.at 0 0 rfl) (nI a) (nI c) (((if w.o 5 a = none then 6 else 0) + 2 * (max wm (zbs (fun n k => u.ar 1 (4096 * n + k)) (fun s c => s_M_nearestOf u s (nI c) cm) cm 24 (1 <<< (nI x &&& 31)) c).2 - wm))) (((if w.o 5 a = none then 20487 else 0) + 4097 * (max wm (zbs (fun n k => u.ar 1 (4096 * n + k)) (fun s c => s_M_nearestOf u s (nI c) cm) cm 24 (1 <<< (nI x &&& 31)) c).2 - wm))) out _ ((t_M_merge (zub u (zbs (fun n k => u.ar 1 (4096 * n + k)) (fun s c => s_M_nearestOf u s (nI c) cm) cm 24 (1 <<< (nI x &&& 31)) c).1) a c).ar 14 a) fo (fun G1 h => h.out ho hn) (c_S_merge_ok g (d - 1) (by omega) G w wm u cm hH hI a c a1 c2 h0 h1 x x1 x3 b1 b2).sq).mono (fun r G1 h => by
      obtain ⟨h1, G2, h2, h3⟩ := h
      exact ⟨G2, _, h3, fun _ => pk_uLs, h1, h2.2⟩), fun d G m hd hm => hm9 d G m hd hm⟩
end ZPY
