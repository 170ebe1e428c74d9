/-! the class's state, read -/
section ZWX
variable {w : zW} {u : zU} {cm : Nat} {G : zG}
theorem zHp.x (h : zHp w G) : G (w.a 0 0) = some (zO 0 (zS (w.a 9) (w.i 0) (va_rf (w.o 8 0)))) := h.at 0 0 rfl
theorem zHp.a0 (h : zHp w G) : G (w.a 9 0) = some (zI 4 (w.n 9 0)) := h.at 9 0 rfl
theorem zHp.co (h : zHp w G) : G (w.a 9 1) = some (zR 3 24 (w.o 1)) := h.at 9 1 rfl
theorem zHp.br (h : zHp w G) : G (w.a 9 3) = some (zR 4 4 (w.o 3)) := h.at 9 3 rfl
theorem zHp.a8 (h : zHp w G) : G (w.a 9 8) = some (zI 6 (w.n 9 8)) := h.at 9 8 rfl
theorem zHp.a9 (h : zHp w G) : G (w.a 9 9) = some (zI 6 (w.n 9 9)) := h.at 9 9 rfl
theorem zHp.a10 (h : zHp w G) : G (w.a 9 10) = some (zI 8 (w.n 9 10)) := h.at 9 10 rfl
theorem zHp.a11 (h : zHp w G) : G (w.a 9 11) = some (zI 8 (w.n 9 11)) := h.at 9 11 rfl
theorem zHp.ro (h : zHp w G) : G (w.a 9 12) = some (zR 5 24 (w.o 6)) := h.at 9 12 rfl
theorem zHp.cmo (h : zHp w G) {c q : Nat} (hq : w.o 1 c = some q) : G q = some (zO 1 [.int (w.i 1 c), .int (w.i 2 c), .int (w.i 3 c), .ref (w.a 2 c)]) := h.at 1 c hq
theorem zHp.cj (h : zHp w G) {c q : Nat} (hq : w.o 1 c = some q) : G (w.a 2 c) = some (zJ 4096 (w.f 2 c)) := h.at 2 c (zmp hq)
theorem zHp.bm (h : zHp w G) {b q : Nat} (hq : w.o 3 b = some q) : G q = some (zO 2 [.ref (w.a 4 b), .int (w.i 4 b), .int (w.i 5 b), .int (w.i 6 b), va_rf (w.o 5 b)]) := h.at 3 b hq
theorem zHp.bmn (h : zHp w G) {b q : Nat} (hq : w.o 3 b = some q) (hk : w.o 5 b = none) : G q = some (zO 2 [.ref (w.a 4 b), .int (w.i 4 b), .int (w.i 5 b), .int (w.i 6 b), .null]) := by
  have := h.bm hq
  rw [hk] at this
  exact this
theorem zHp.bmk (h : zHp w G) {b q k : Nat} (hq : w.o 3 b = some q) (hk : w.o 5 b = some k) : G q = some (zO 2 [.ref (w.a 4 b), .int (w.i 4 b), .int (w.i 5 b), .int (w.i 6 b), .ref k]) := by
  have := h.bm hq
  rw [hk] at this
  exact this
theorem zHp.bj (h : zHp w G) {b q : Nat} (hq : w.o 3 b = some q) : G (w.a 4 b) = some (zJ 4096 (w.f 4 b)) := h.at 4 b (zmp hq)
theorem zHp.km (h : zHp w G) {b k : Nat} (hk : w.o 5 b = some k) : G k = some (zO 3 [.ref (w.a 10 b), .ref (w.a 11 b), .ref (w.a 12 b), .ref (w.a 13 b), .ref (w.a 14 b), .int (w.i 7 b), .int (w.i 8 b)]) := h.at 5 b hk
theorem zHp.k0 (h : zHp w G) {b k : Nat} (hk : w.o 5 b = some k) : G (w.a 10 b) = some (zI 4096 (w.n 10 b)) := h.at 10 b (zmp hk)
theorem zHp.k1 (h : zHp w G) {b k : Nat} (hk : w.o 5 b = some k) : G (w.a 11 b) = some (zI 4096 (w.n 11 b)) := h.at 11 b (zmp hk)
theorem zHp.k2 (h : zHp w G) {b k : Nat} (hk : w.o 5 b = some k) : G (w.a 12 b) = some (zI 4096 (w.n 12 b)) := h.at 12 b (zmp hk)
theorem zHp.k3 (h : zHp w G) {b k : Nat} (hk : w.o 5 b = some k) : G (w.a 13 b) = some (zI 4096 (w.n 13 b)) := h.at 13 b (zmp hk)
theorem zHp.k4 (h : zHp w G) {b k : Nat} (hk : w.o 5 b = some k) : G (w.a 14 b) = some (zB 4096 (w.n 14 b)) := h.at 14 b (zmp hk)
theorem zHp.kne (h : zHp w G) {b k : Nat} (hk : w.o 5 b = some k) : w.a 10 b ≠ w.a 11 b ∧ w.a 10 b ≠ w.a 12 b ∧ w.a 10 b ≠ w.a 13 b ∧ w.a 11 b ≠ w.a 12 b ∧ w.a 11 b ≠ w.a 13 b ∧ w.a 12 b ≠ w.a 13 b :=
  ⟨h.ne 10 b 11 b (zmp hk) (zmp hk) (by omega), h.ne 10 b 12 b (zmp hk) (zmp hk) (by omega), h.ne 10 b 13 b (zmp hk) (zmp hk) (by omega), h.ne 11 b 12 b (zmp hk) (zmp hk) (by omega), h.ne 11 b 13 b (zmp hk) (zmp hk) (by omega), h.ne 12 b 13 b (zmp hk) (zmp hk) (by omega)⟩
theorem zHp.rm (h : zHp w G) {r q : Nat} (hq : w.o 6 r = some q) : G q = some (zO 4 [.ref (w.a 7 r)]) := h.at 6 r hq
theorem zHp.rv (h : zHp w G) {r q : Nat} (hq : w.o 6 r = some q) : G (w.a 7 r) = some (zI 4096 (w.n 7 r)) := h.at 7 r (zmp hq)
theorem zHp.tm (h : zHp w G) {q : Nat} (hq : w.o 8 0 = some q) : G q = some (zO 5 [.ref (w.a 8 1), .ref (w.a 8 2), .int (w.i 9 0)]) := h.at 8 0 hq
theorem zHp.tv (h : zHp w G) {q : Nat} (hq : w.o 8 0 = some q) : G (w.a 8 1) = some (zI 28672 (w.n 8 1)) := h.at 8 1 (zmp hq)
theorem zHp.ts (h : zHp w G) {q : Nat} (hq : w.o 8 0 = some q) : G (w.a 8 2) = some (zI 4096 (w.n 8 2)) := h.at 8 2 (zmp hq)
theorem zRl.bra (h : zRl w u cm) {p : Nat} (hp : p < 4) (ho : ¬ s_M_isBranch u (nI p) = 0) : ∃ q, w.o 3 p = some q ∧ zbra (zWv w) (nI p) = some q ∧ ¬ u.ar 7 p = 0 ∧ zRt w u cm p := by
  obtain ⟨b, q, h1, h2, h3, h4, h5, h6⟩ := h.bra1 ho
  have e : p = b := (nI_eq (by omega) (by omega)).mp h2
  subst e
  exact ⟨q, h3, h4, h5, h6⟩
theorem zRl.cmt (h : zRl w u cm) {c : Nat} (hc : c < 24) (ho : ¬ s_M_isCommit u (nI c) = 0) : ∃ q, c < cm ∧ w.o 1 c = some q ∧ zcmt (zWv w) (nI c) = some q ∧ zCr (w.f 2 c) u c := by
  have hm := h.hm
  obtain ⟨b, q, h1, h2, h3, h4⟩ := h.cmt1 ho
  have e : c = b := (nI_eq (by omega) (by omega)).mp h2
  subst e
  exact ⟨q, h1, h3, h4, (h.1.2.2.2.2.2.2 c h1).2.2⟩
theorem zRl.cel (h : zRl w u cm) {c : Nat} (hc : c < 28) (ho : ¬ s_M_isPlace u (nI c) = 0) : ∃ a f, zcel (zWv w) (nI c) = some a ∧ zCr f u c ∧ ∀ G, zHp w G → G a = some (zJ 4096 f) := by
  obtain ⟨b, a, f, h1, h2, h3, h4, h5⟩ := h.cel1 ho
  have e : c = b := (nI_eq (by omega) (by omega)).mp h2
  subst e
  exact ⟨a, f, h3, h4, h5⟩
theorem c_S_branchAt_0 (g : zGt) (d : Nat) (G : zG) (w : zW) (u : zU) (cm : Nat) (hH : zHp w G) (hR : zRl w u cm) (p : Int32) (h0 : s_M_isBranch u p = 0) : zMet g y_S_branchAt b_S_branchAt 2 (some (.object "SurveyStore$Branch")) [] d 0 0 [.ref (w.a 0 0), .int p] G (zD1 .null G) := by
  have := c_S_branchAt g d G (zWv w) (w.a 0 0) hH.sv p
  rw [hR.bra0 h0] at this
  exact this
theorem c_S_branchAt_1 (g : zGt) (d : Nat) (G : zG) (w : zW) (hH : zHp w G) (p : Int32) (q : Nat) (h0 : zbra (zWv w) p = some q) : zMet g y_S_branchAt b_S_branchAt 2 (some (.object "SurveyStore$Branch")) [] d 0 0 [.ref (w.a 0 0), .int p] G (zD1 (.ref q) G) := by
  have := c_S_branchAt g d G (zWv w) (w.a 0 0) hH.sv p
  rw [h0] at this
  exact this
theorem c_S_commitAt_0 (g : zGt) (d : Nat) (G : zG) (w : zW) (u : zU) (cm : Nat) (hH : zHp w G) (hR : zRl w u cm) (p : Int32) (h0 : s_M_isCommit u p = 0) : zMet g y_S_commitAt b_S_commitAt 2 (some (.object "SurveyStore$Commit")) [] d 0 0 [.ref (w.a 0 0), .int p] G (zD1 .null G) := by
  have := c_S_commitAt g d G (zWv w) (w.a 0 0) hH.sv p
  rw [hR.cmt0 h0] at this
  exact this
theorem c_S_commitAt_1 (g : zGt) (d : Nat) (G : zG) (w : zW) (hH : zHp w G) (p : Int32) (q : Nat) (h0 : zcmt (zWv w) p = some q) : zMet g y_S_commitAt b_S_commitAt 2 (some (.object "SurveyStore$Commit")) [] d 0 0 [.ref (w.a 0 0), .int p] G (zD1 (.ref q) G) := by
  have := c_S_commitAt g d G (zWv w) (w.a 0 0) hH.sv p
  rw [h0] at this
  exact this
theorem c_S_cellsOf_0 (g : zGt) (d : Nat) (hd : 2 ≤ d) (G : zG) (w : zW) (u : zU) (cm : Nat) (hH : zHp w G) (hR : zRl w u cm) (p : Int32) (h0 : s_M_isPlace u p = 0) : zMet g y_S_cellsOf b_S_cellsOf 4 (some (.array .long)) [] d 0 0 [.ref (w.a 0 0), .int p] G (zD1 .null G) := by
  have := c_S_cellsOf g d G (zWv w) (w.a 0 0) hH.sv p hd
  rw [hR.cel0 h0] at this
  exact this
theorem c_S_cellsOf_1 (g : zGt) (d : Nat) (hd : 2 ≤ d) (G : zG) (w : zW) (hH : zHp w G) (p : Int32) (q : Nat) (h0 : zcel (zWv w) p = some q) : zMet g y_S_cellsOf b_S_cellsOf 4 (some (.array .long)) [] d 0 0 [.ref (w.a 0 0), .int p] G (zD1 (.ref q) G) := by
  have := c_S_cellsOf g d G (zWv w) (w.a 0 0) hH.sv p hd
  rw [h0] at this
  exact this
end ZWX
