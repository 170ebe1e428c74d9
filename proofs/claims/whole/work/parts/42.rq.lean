/-! what the class finds is what the reference finds -/
theorem zisc0 {u : zU} {cm : Nat} (hc : u.i 6 = nI cm) (hm : cm ≤ 24) {p : Int32} (h : ¬ s_M_isCommit u p = 0) : ∃ c, c < cm ∧ p = nI c := by
  unfold s_M_isCommit at h
  by_cases h1 : p < 0
  · rw [if_pos h1] at h; exact absurd rfl h
  · rw [if_neg h1, hc] at h
    by_cases h2 : nI cm ≤ p
    · rw [if_pos h2] at h; exact absurd rfl h
    · obtain ⟨g1, g2⟩ := zcl_of (n := cm) h1 h2 (nI_toInt (by omega)) (by omega)
      exact ⟨_, g1, g2⟩
theorem zRl.cmt0 {w : zW} {u : zU} {cm : Nat} (h : zRl w u cm) {p : Int32} (hp : s_M_isCommit u p = 0) : zcmt (zWv w) p = none := by
  obtain ⟨⟨c1, c2, c3, c4, -⟩, -⟩ := h
  unfold zcmt
  by_cases h1 : p < 0
  · rw [if_pos h1]
  · rw [if_neg h1]
    by_cases h2 : 24 ≤ p
    · rw [if_pos h2]
    · rw [if_neg h2]
      obtain ⟨g1, g2⟩ := zcl_of (n := 24) h1 h2 rfl (by decide)
      refine (c4 _ g1).mpr ?_
      unfold s_M_isCommit at hp
      rw [if_neg h1, c1] at hp
      by_cases h3 : nI cm ≤ p
      · rw [g2] at h3
        exact (nI_leI (by have := c3.2.1; omega) (by omega)).mp h3
      · rw [if_neg h3] at hp
        exact absurd hp (by decide)
theorem zRl.cmt1 {w : zW} {u : zU} {cm : Nat} (h : zRl w u cm) {p : Int32} (hp : ¬ s_M_isCommit u p = 0) : ∃ c q, c < cm ∧ p = nI c ∧ w.o 1 c = some q ∧ zcmt (zWv w) p = some q := by
  obtain ⟨⟨c1, c2, c3, c4, -⟩, -⟩ := h
  have hm := c3.2.1
  obtain ⟨c, g1, g2⟩ := zisc0 c1 hm hp
  cases ho : w.o 1 c with
  | none => exact absurd ((c4 c (by omega)).mp ho) (by omega)
  | some q =>
    refine ⟨c, q, g1, g2, ho, ?_⟩
    unfold zcmt
    have h24 : ¬ (24 : Int32) ≤ nI c := fun q => absurd ((nI_leI (a := 24) (b := c) (by decide) (by omega)).mp q) (by omega)
    rw [g2, if_neg (nI_pos (by omega)), if_neg h24, nI_clamp (by omega)]
    exact ho
theorem zRl.bra0 {w : zW} {u : zU} {cm : Nat} (h : zRl w u cm) {p : Int32} (hp : s_M_isBranch u p = 0) : zbra (zWv w) p = none := by
  obtain ⟨-, hb, -⟩ := h
  unfold zbra
  by_cases h1 : p < 0
  · rw [if_pos h1]
  · rw [if_neg h1]
    by_cases h2 : 4 ≤ p
    · rw [if_pos h2]
    · rw [if_neg h2]
      obtain ⟨g1, g2⟩ := zcl_of (n := 4) h1 h2 rfl (by decide)
      unfold s_M_isBranch at hp
      rw [if_neg h1, if_neg h2] at hp
      by_cases h3 : u.ar 7 p.toNatClampNeg = 0
      · obtain ⟨b1, b2, b3, -⟩ := hb _ g1
        cases ho : w.o 3 p.toNatClampNeg with
        | none => rw [show (zWv w).fb p.toNatClampNeg = none from ho]
        | some q =>
          rw [show (zWv w).fb p.toNatClampNeg = some q from ho]
          exact if_pos ((b3 q ho).trans h3)
      · rw [if_neg h3] at hp
        exact absurd hp (by decide)
theorem zRl.bra1 {w : zW} {u : zU} {cm : Nat} (h : zRl w u cm) {p : Int32} (hp : ¬ s_M_isBranch u p = 0) : ∃ b q, b < 4 ∧ p = nI b ∧ w.o 3 b = some q ∧ zbra (zWv w) p = some q ∧ ¬ u.ar 7 b = 0 ∧ zRt w u cm b := by
  obtain ⟨-, hb, -⟩ := h
  unfold s_M_isBranch at hp
  by_cases h1 : p < 0
  · rw [if_pos h1] at hp; exact absurd rfl hp
  · rw [if_neg h1] at hp
    by_cases h2 : 4 ≤ p
    · rw [if_pos h2] at hp; exact absurd rfl hp
    · rw [if_neg h2] at hp
      obtain ⟨g1, g2⟩ := zcl_of (n := 4) h1 h2 rfl (by decide)
      by_cases h3 : u.ar 7 p.toNatClampNeg = 0
      · rw [if_pos h3] at hp; exact absurd rfl hp
      · obtain ⟨b1, b2, b3, b4, b5⟩ := hb _ g1
        cases ho : w.o 3 p.toNatClampNeg with
        | none => exact absurd (b2 ho) h3
        | some q =>
          refine ⟨_, q, g1, g2, ho, ?_, h3, b5 h3⟩
          unfold zbra
          rw [if_neg h1, if_neg h2, show (zWv w).fb p.toNatClampNeg = some q from ho]
          exact if_neg (fun e => h3 ((b3 q ho).symm.trans e))
theorem zRl.cel0 {w : zW} {u : zU} {cm : Nat} (h : zRl w u cm) {p : Int32} (hp : s_M_isPlace u p = 0) : zcel (zWv w) p = none := by
  unfold s_M_isPlace at hp
  unfold zcel zbop
  by_cases h1 : 24 ≤ p
  · rw [if_pos h1] at hp
    have hc : zcmt (zWv w) p = none := by
      unfold zcmt
      by_cases h0 : p < 0
      · rw [if_pos h0]
      · rw [if_neg h0, if_pos h1]
    rw [hc, if_pos h1, h.bra0 hp]
  · rw [if_neg h1] at hp
    rw [h.cmt0 hp, if_neg h1]
theorem zRl.cel1 {w : zW} {u : zU} {cm : Nat} (h : zRl w u cm) {p : Int32} (hp : ¬ s_M_isPlace u p = 0) : ∃ c a f, c < 28 ∧ p = nI c ∧ zcel (zWv w) p = some a ∧ zCr f u c ∧ ∀ G, zHp w G → G a = some (zJ 4096 f) := by
  unfold s_M_isPlace at hp
  by_cases h1 : 24 ≤ p
  · rw [if_pos h1] at hp
    obtain ⟨b, q, hb, e, ho, hz, h7, ht⟩ := h.bra1 hp
    have e2 : p = nI (24 + b) := by
      have : p = p - 24 + 24 := (Int32.sub_add_cancel p 24).symm
      rw [this, e, show (24 : Int32) = nI 24 from rfl, nI_add, Nat.add_comm]
    refine ⟨24 + b, w.a 4 b, w.f 4 b, by omega, e2, ?_, ht.2.2.2.1, fun G hG => hG.at 4 b (zmp ho)⟩
    unfold zcel zbop
    have hc : zcmt (zWv w) p = none := by
      unfold zcmt
      by_cases h0 : p < 0
      · rw [if_pos h0]
      · rw [if_neg h0, if_pos h1]
    rw [hc, if_pos h1, hz]
    show some (w.a 4 (p - 24).toNatClampNeg) = _
    rw [e, nI_clamp (by omega)]
  · rw [if_neg h1] at hp
    obtain ⟨c, q, hc, e, ho, hz⟩ := h.cmt1 hp
    have hm := h.1.2.2.1.2.1
    refine ⟨c, w.a 2 c, w.f 2 c, by omega, e, ?_, (h.1.2.2.2.2.2.2 c hc).2.2, fun G hG => hG.at 2 c (zmp ho)⟩
    unfold zcel
    rw [hz]
    show some (w.a 2 p.toNatClampNeg) = _
    rw [e, nI_clamp (by omega)]
theorem zRl.hm {w : zW} {u : zU} {cm : Nat} (h : zRl w u cm) : cm ≤ 24 := h.1.2.2.1.2.1
theorem zRl.h1 {w : zW} {u : zU} {cm : Nat} (h : zRl w u cm) : 1 ≤ cm := h.1.2.2.1.1
theorem zRl.i6 {w : zW} {u : zU} {cm : Nat} (h : zRl w u cm) : u.i 6 = nI cm := h.1.1
theorem zRl.iv {w : zW} {u : zU} {cm : Nat} (h : zRl w u cm) : zIv u := h.2.2.2
theorem zRl.hi {w : zW} {u : zU} {cm : Nat} (h : zRl w u cm) : zHi u cm (w.i 3) := h.1.2.2.1
theorem zlay {p : Int32} (h : ¬ s_M_isLayer p = 0) : ∃ l, l < 4 ∧ p = nI l := by
  unfold s_M_isLayer at h
  by_cases h1 : p < 0
  · rw [if_pos h1] at h; exact absurd rfl h
  · rw [if_neg h1] at h
    by_cases h2 : 4 ≤ p
    · rw [if_pos h2] at h; exact absurd rfl h
    · obtain ⟨g1, g2⟩ := zcl_of (n := 4) h1 h2 rfl (by decide)
      exact ⟨_, g1, g2⟩
theorem zcoo {p : Int32} (h1 : ¬ p < 0) (h2 : ¬ 32 ≤ p) : ∃ l, l < 32 ∧ p = nI l := by
  obtain ⟨g1, g2⟩ := zcl_of (n := 32) h1 h2 rfl (by decide)
  exact ⟨_, g1, g2⟩
