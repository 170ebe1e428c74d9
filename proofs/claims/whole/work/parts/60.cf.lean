/-! conflicts, told -/
theorem zkhas {u : zU} {b e : Nat} {c q : Int32} (hc : c = nI e) (he : u.ar 14 b = nI e) (hb : b < 4) (ho : ¬ s_M_isBranch u (nI b) = 0) : s_K_has c q = s_M_isConflict u (nI b) q := by
  unfold s_K_has s_M_isConflict
  rw [if_neg ho, nI_clamp (by omega), he, hc]
theorem zkin {c q : Int32} {e : Nat} (hc : c = nI e) (he : e ≤ 4096) (h : ¬ s_K_has c q = 0) : ∃ i, i < e ∧ q = nI i := by
  unfold s_K_has at h
  by_cases a : q < 0
  · rw [if_pos a] at h; exact absurd rfl h
  rw [if_neg a] at h
  by_cases b : c ≤ q
  · rw [if_pos b] at h; exact absurd rfl h
  rw [hc] at b
  obtain ⟨g1, g2⟩ := zcl_of (n := e) a b (nI_toInt (by omega)) (by omega)
  exact ⟨_, g1, g2⟩
theorem zkvp {c q : Int32} {e : Nat} (hc : c = nI e) (he : e ≤ 4096) (h : ¬ s_K_has c q = 0) : vp_in q 4096 := by
  obtain ⟨i, h1, h2⟩ := zkin hc he h
  exact zixN h2 (by omega) (by decide)
theorem ztell {w : zW} {u : zU} {b k : Nat} (hb : b < 4) (ho : ¬ s_M_isBranch u (nI b) = 0) (hk : zRk w u b) (h5 : w.o 5 b = some k) (q x : Int32) : s_K_tell (w.n 10 b) (w.n 11 b) (w.n 12 b) (w.n 13 b) (w.n 14 b) (w.i 7 b) q x = s_M_conflict u (nI b) q x := by
  obtain ⟨e, e1, e2, e3, e4⟩ := hk
  obtain ⟨a1, a2, a3⟩ := e4 k h5
  have hh := zkhas (q := q) a1 e2 hb ho
  have hh2 : s_M_isConflict (zuc u 0 0) (nI b) q = s_M_isConflict u (nI b) q := rfl
  unfold s_K_tell s_M_conflict
  rw [hh2, ← hh]
  by_cases h0 : s_K_has (w.i 7 b) q = 0
  · rw [if_pos h0, if_pos h0]
  rw [if_neg h0, if_neg h0]
  obtain ⟨i, hi, rfl⟩ := zkin a1 e1 h0
  have ix : (4096 * nI b + nI i).toNatClampNeg = 4096 * b + i := by
    rw [zl4096, pk_mul, nI_add, nI_clamp (by omega)]
  obtain ⟨c1, c2, c3, c4, c5, c6, c7⟩ := a3 i hi
  rw [ix, nI_clamp (by omega), c1, c3, c4, c5, c6]
  rfl
theorem zcnone {w : zW} {u : zU} {b : Nat} (hb : b < 4) (hk : zRk w u b) (h5 : w.o 5 b = none) (q : Int32) : s_M_isConflict u (nI b) q = 0 := by
  obtain ⟨e, e1, e2, e3, -⟩ := hk
  have e0 := e3 h5
  subst e0
  unfold s_M_isConflict
  rw [nI_clamp (by omega), e2]
  by_cases h : s_M_isBranch u (nI b) = 0
  · rw [if_pos h]
  rw [if_neg h]
  by_cases a : q < 0
  · rw [if_pos a]
  · rw [if_neg a, if_pos (show nI 0 ≤ q from Int32.not_lt.mp a)]
/-! what a call of the store leaves -/
def zNc (w : zW) : Nat := zfor 4 (fun b n => if w.o 5 b = none then n + 1 else n) 0
def zPc (w : zW) (wm : Nat) : Nat := 6 * zNc w + 2 * (24 - wm) + (if w.o 8 0 = none then 3 else 0)
def zPs (w : zW) (wm : Nat) : Nat := 20487 * zNc w + 4097 * (24 - wm) + (if w.o 8 0 = none then 32771 else 0)
def zIn (w : zW) (wm : Nat) (u : zU) (cm : Nat) : Prop := zRl w u cm ∧ zRw w wm ∧ ∀ b, w.o 3 b = none → w.o 5 b = none
def zSq (res : zRes) (w : zW) (wm : Nat) (u2 : zU) (cm2 mc ms : Nat) (G : zG) : zRes → zG → Prop := fun r G1 => r = res ∧ ∃ w2 wm2, zHp w2 G1 ∧ zFr w G w2 G1 ∧ zIn w2 wm2 u2 cm2 ∧ zPc w2 wm2 + mc ≤ zPc w wm + 2 ∧ zPs w2 wm2 + ms ≤ zPs w wm + 4101
theorem zSq.of {res : zRes} {w w2 : zW} {wm : Nat} {u u2 : zU} {cm cm2 mc ms : Nat} {G G1 : zG} (hI : zIn w wm u cm) (h1 : zHp w2 G1) (h2 : zFr w G w2 G1) (h3 : zRl w2 u2 cm2) (h5 : w2.o 5 = w.o 5) (h6 : w2.o 6 = w.o 6) (h8 : w2.o 8 = w.o 8) (ho : ∀ b, w2.o 3 b = none → w.o 3 b = none) (hc : mc ≤ 2) (hs : ms ≤ 4101) : zSq res w wm u2 cm2 mc ms G res G1 := by
  refine ⟨rfl, w2, wm, h1, h2, ⟨h3, ?_, fun b hb => by rw [h5]; exact hI.2.2 b (ho b hb)⟩, ?_, ?_⟩
  · unfold zRw; rw [h6]; exact hI.2.1
  · unfold zPc zNc; rw [h5, h8]; omega
  · unfold zPs zNc; rw [h5, h8]; omega
theorem zSq.same {res : zRes} {w : zW} {wm : Nat} {u u2 : zU} {cm mc ms : Nat} {G : zG} (hI : zIn w wm u cm) (hH : zHp w G) (hu : zUe u u2) (hc : mc ≤ 2) (hs : ms ≤ 4101) : zSq res w wm u2 cm mc ms G res G :=
  zSq.of hI hH (zFr.rf w G) (hI.1.ue hu) rfl rfl rfl (fun _ h => h) hc hs
