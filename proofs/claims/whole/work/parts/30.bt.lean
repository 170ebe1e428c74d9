/-! sets of commits: bits of an int -/
def zbt (s : Int32) (k : Nat) : Bool := s.toBitVec.getLsbD k
theorem zk31 {k : Nat} (hk : k < 32) : nI k &&& 31 = nI k := by
  rw [pk_andN (by omega) 5 (by decide), Nat.mod_eq_of_lt hk]
theorem zksm {k : Nat} (hk : k < 32) : ((nI k).toBitVec.smod 32).toNat = k := by
  have : ∀ k, k < 32 → ((nI k).toBitVec.smod 32).toNat = k := by decide
  exact this k hk
theorem zbt_sh (s : Int32) {k : Nat} (hk : k < 32) : (s >>> (nI k &&& 31)) &&& 1 = if zbt s k = true then 1 else 0 := by
  rw [zk31 hk]
  apply Int32.toBitVec_inj.mp
  rw [Int32.toBitVec_and, Int32.toBitVec_shiftRight, BitVec.sshiftRight', zksm hk]
  apply BitVec.eq_of_getLsbD_eq
  intro i hi
  rw [BitVec.getLsbD_and, BitVec.getLsbD_sshiftRight]
  have h1 : (1 : Int32).toBitVec = 1#32 := rfl
  rw [h1, BitVec.getLsbD_one]
  by_cases h0 : i = 0
  · subst h0
    unfold zbt
    cases hb : s.toBitVec.getLsbD k
    · simp [hk]
    · simp [hk]
  · have h2 : decide (0 = i) = false := decide_eq_false (by omega)
    rw [show (0 < 32 && decide (i = 0)) = false by simp [h0], Bool.and_false]
    cases hb : zbt s k
    · show false = (0#32).getLsbD i
      simp
    · show false = (1#32).getLsbD i
      rw [BitVec.getLsbD_one]
      simp [h0]
theorem zbt_or (a b : Int32) (k : Nat) : zbt (a ||| b) k = (zbt a k || zbt b k) := by
  unfold zbt
  rw [Int32.toBitVec_or, BitVec.getLsbD_or]
theorem zbt_and (a b : Int32) (k : Nat) : zbt (a &&& b) k = (zbt a k && zbt b k) := by
  unfold zbt
  rw [Int32.toBitVec_and, BitVec.getLsbD_and]
theorem zbt_not (a : Int32) {k : Nat} (hk : k < 32) : zbt (a ^^^ (-1)) k = !zbt a k := by
  unfold zbt
  rw [Int32.toBitVec_xor, BitVec.getLsbD_xor, show ((-1 : Int32)).toBitVec = BitVec.allOnes 32 from by decide, BitVec.getLsbD_allOnes]
  simp [hk]
theorem zbt_1 {n : Nat} (hn : n < 32) {k : Nat} (hk : k < 32) : zbt (1 <<< (nI n &&& 31)) k = decide (k = n) := by
  have : ∀ n, n < 32 → ∀ k, k < 32 → zbt (1 <<< (nI n &&& 31)) k = decide (k = n) := by decide
  exact this n hn k hk
theorem zbt_0 (k : Nat) : zbt 0 k = false := by
  unfold zbt
  exact BitVec.getLsbD_zero
theorem zbt_ext {a b : Int32} (h : ∀ k, k < 32 → zbt a k = zbt b k) : a = b := by
  apply Int32.toBitVec_inj.mp
  exact BitVec.eq_of_getLsbD_eq h
theorem zbt_t {s : Int32} {k : Nat} (hk : k < 32) : (s >>> (nI k &&& 31)) &&& 1 = 1 ↔ zbt s k = true := by
  rw [zbt_sh s hk]
  cases zbt s k <;> decide
theorem zbt_f {s : Int32} {k : Nat} (hk : k < 32) : (s >>> (nI k &&& 31)) &&& 1 = 0 ↔ zbt s k = false := by
  rw [zbt_sh s hk]
  cases zbt s k <;> decide
/-! the history: A c is the set of c's ancestors, c among them -/
def zHi (u : zU) (cm : Nat) (A : Nat → Int32) : Prop := 1 ≤ cm ∧ cm ≤ 24 ∧ A 0 = 1 ∧ ∀ c, 0 < c → c < cm → ∃ (p : Nat) (x : Int32), p < c ∧ u.ar 4 c = nI p ∧ A c = ((1 <<< (nI c &&& 31)) ||| A p) ||| x ∧
  ((u.ar 5 c = (-1) ∧ x = 0) ∨ ∃ o, o < c ∧ o ≠ p ∧ u.ar 5 c = nI o ∧ x = A o)
theorem zbt_one {k : Nat} (hk : k < 32) : zbt 1 k = decide (k = 0) := by
  have : ∀ k, k < 32 → zbt 1 k = decide (k = 0) := by decide
  exact this k hk
section ZHI
variable {u : zU} {cm : Nat} {A : Nat → Int32}
theorem zHi.self (h : zHi u cm A) {c : Nat} (hc : c < cm) : zbt (A c) c = true := by
  obtain ⟨h1, h2, h3, h4⟩ := h
  cases c with
  | zero => rw [h3, zbt_one (by omega)]; rfl
  | succ c =>
    obtain ⟨p, x, hp, e1, e2, -⟩ := h4 (c + 1) (by omega) hc
    rw [e2, zbt_or, zbt_or, zbt_1 (by omega) (by omega), decide_eq_true rfl]
    rfl
theorem zHi.le (h : zHi u cm A) : ∀ c, c < cm → ∀ k, k < 32 → zbt (A c) k = true → k ≤ c := by
  intro c
  induction c using Nat.strongRecOn with
  | ind c ih =>
    intro hc k hk hb
    obtain ⟨h1, h2, h3, h4⟩ := h
    cases c with
    | zero =>
      rw [h3, zbt_one hk] at hb
      have := of_decide_eq_true hb
      omega
    | succ c =>
      obtain ⟨p, x, hp, e1, e2, e3⟩ := h4 (c + 1) (by omega) hc
      have h2 := h2
      rw [e2, zbt_or, zbt_or, zbt_1 (by omega) hk, Bool.or_eq_true, Bool.or_eq_true] at hb
      rcases hb with (hb | hb) | hb
      · have := of_decide_eq_true hb
        omega
      · have := ih p hp (by omega) k hk hb
        omega
      · rcases e3 with ⟨-, e3⟩ | ⟨o, ho, -, -, e3⟩
        · rw [e3, zbt_0] at hb
          cases hb
        · rw [e3] at hb
          have := ih o ho (by omega) k hk hb
          omega
theorem zHi.tr (h : zHi u cm A) : ∀ c, c < cm → ∀ k, k < 32 → zbt (A c) k = true → ∀ i, zbt (A k) i = true → zbt (A c) i = true := by
  intro c
  induction c using Nat.strongRecOn with
  | ind c ih =>
    intro hc k hk hb i hi
    have h2 := h.2.1
    have h4 := h.2.2.2
    cases c with
    | zero =>
      have := h.le 0 hc k hk hb
      have e : k = 0 := by omega
      rw [e] at hi
      exact hi
    | succ c =>
      obtain ⟨p, x, hp, e1, e2, e3⟩ := h4 (c + 1) (by omega) hc
      have hb0 := hb
      rw [e2, zbt_or, zbt_or, zbt_1 (by omega) hk, Bool.or_eq_true, Bool.or_eq_true] at hb
      rcases hb with (hb | hb) | hb
      · have e : k = c + 1 := of_decide_eq_true hb
        rw [e] at hi
        exact hi
      · have := ih p hp (by omega) k hk hb i hi
        rw [e2, zbt_or, zbt_or, this]
        simp
      · rcases e3 with ⟨-, e3⟩ | ⟨o, ho, -, -, e3⟩
        · rw [e3, zbt_0] at hb
          cases hb
        · rw [e3] at hb
          have := ih o ho (by omega) k hk hb i hi
          rw [e2, e3, zbt_or, this]
          simp
/-- the reference's 'ancestors' -/
theorem zHi.anc (h : zHi u cm A) {s : Int32} (hs : ∀ k, k < 32 → zbt s k = true → k < cm) {k : Nat} (hk : k < 32) : zbt (s_M_ancestors u s cm) k = true ↔ ∃ n, n < cm ∧ zbt s n = true ∧ zbt (A n) k = true := by
  have h1 := h.1
  have h2 := h.2.1
  have h4 := h.2.2.2
  have key := zfor_inv (f := st_M_ancestors u cm) (s0 := s) (N := cm - 1) (fun j a => (∀ k, k < 32 → zbt a k = true → ∃ n, n < cm ∧ zbt s n = true ∧ zbt (A n) k = true) ∧ (∀ k, k < 32 → zbt s k = true → zbt a k = true) ∧
      ∀ c, cm - j ≤ c → c < cm → 0 < c → zbt a c = true → ∀ q, q < c → (u.ar 4 c = nI q ∨ u.ar 5 c = nI q) → zbt a q = true)
    ⟨fun k hk hb => ⟨k, hs k hk hb, hb, h.self (hs k hk hb)⟩, fun k hk hb => hb, fun c c1 c2 => by omega⟩ (fun j a hj hP => by
      obtain ⟨i1, i2, i3⟩ := hP
      have hc0 : 0 < cm - 1 - j := by omega
      obtain ⟨p, x, hp, e1, e2, e3⟩ := h4 (cm - 1 - j) hc0 (by omega)
      unfold st_M_ancestors
      by_cases hb : ((a >>> ((nI (cm - 1 - j)) &&& 31)) &&& 1) = 0
      · rw [if_pos hb]
        rw [zbt_f (by omega)] at hb
        refine ⟨i1, i2, fun c c1 c2 c3 c4 => ?_⟩
        by_cases e : c = cm - 1 - j
        · rw [e, hb] at c4
          cases c4
        · exact i3 c (by omega) c2 c3 c4
      · rw [if_neg hb]
        have hb1 : zbt a (cm - 1 - j) = true := by
          cases hq : zbt a (cm - 1 - j)
          · exact absurd ((zbt_f (by omega)).mpr hq) hb
          · rfl
        obtain ⟨n, n1, n2, n3⟩ := i1 _ (by omega) hb1
        have hApc : zbt (A (cm - 1 - j)) p = true := by
          rw [e2, zbt_or, zbt_or, h.self (c := p) (by omega)]
          simp
        rw [e1]
        rcases e3 with ⟨e4, e5⟩ | ⟨o, ho, -, e4, e5⟩
        · rw [if_pos (by rw [e4]; decide)]
          refine ⟨fun k hk hb2 => ?_, fun k hk hb2 => by rw [zbt_or, i2 k hk hb2]; rfl, fun c c1 c2 c3 c4 q q1 q2 => ?_⟩
          · rw [zbt_or, zbt_1 (by omega) hk, Bool.or_eq_true] at hb2
            rcases hb2 with hb2 | hb2
            · exact i1 k hk hb2
            · have e : k = p := of_decide_eq_true hb2
              rw [e]
              exact ⟨n, n1, n2, h.tr n n1 _ (by omega) n3 _ hApc⟩
          · by_cases e : c = cm - 1 - j
            · subst e
              rcases q2 with q2 | q2
              · rw [e1] at q2
                have e9 : p = q := (nI_eq (by omega) (by omega)).mp q2
                subst e9
                rw [zbt_or, zbt_1 (by omega) (by omega), decide_eq_true rfl, Bool.or_true]
              · rw [e4] at q2
                exact absurd (q2 ▸ (by decide : (-1 : Int32) < 0)) (nI_pos (by omega))
            · have c5 : zbt a c = true := by
                rw [zbt_or, zbt_1 (by omega) (by omega), Bool.or_eq_true] at c4
                rcases c4 with c4 | c4
                · exact c4
                · have := of_decide_eq_true c4
                  omega
              rw [zbt_or, i3 c (by omega) c2 c3 c5 q q1 q2]
              rfl
        · have hAoc : zbt (A (cm - 1 - j)) o = true := by
            rw [e2, e5, zbt_or, h.self (c := o) (by omega)]
            simp
          rw [if_neg (by rw [e4]; exact nI_pos (by omega)), e4]
          refine ⟨fun k hk hb2 => ?_, fun k hk hb2 => by rw [zbt_or, zbt_or, i2 k hk hb2]; rfl, fun c c1 c2 c3 c4 q q1 q2 => ?_⟩
          · rw [zbt_or, zbt_or, zbt_1 (by omega) hk, zbt_1 (by omega) hk, Bool.or_eq_true, Bool.or_eq_true] at hb2
            rcases hb2 with (hb2 | hb2) | hb2
            · exact i1 k hk hb2
            · have e : k = p := of_decide_eq_true hb2
              rw [e]
              exact ⟨n, n1, n2, h.tr n n1 _ (by omega) n3 _ hApc⟩
            · have e : k = o := of_decide_eq_true hb2
              rw [e]
              exact ⟨n, n1, n2, h.tr n n1 _ (by omega) n3 _ hAoc⟩
          · by_cases e : c = cm - 1 - j
            · subst e
              rcases q2 with q2 | q2
              · rw [e1] at q2
                have e9 : p = q := (nI_eq (by omega) (by omega)).mp q2
                subst e9
                rw [zbt_or, zbt_or, zbt_1 (n := p) (by omega) (by omega), decide_eq_true rfl]
                simp
              · rw [e4] at q2
                have e9 : o = q := (nI_eq (by omega) (by omega)).mp q2
                subst e9
                rw [zbt_or, zbt_1 (n := o) (by omega) (by omega), decide_eq_true rfl, Bool.or_true]
            · have c5 : zbt a c = true := by
                rw [zbt_or, zbt_or, zbt_1 (by omega) (by omega), zbt_1 (by omega) (by omega), Bool.or_eq_true, Bool.or_eq_true] at c4
                rcases c4 with (c4 | c4) | c4
                · exact c4
                · have := of_decide_eq_true c4
                  omega
                · have := of_decide_eq_true c4
                  omega
              rw [zbt_or, zbt_or, i3 c (by omega) c2 c3 c5 q q1 q2]
              rfl) (cm - 1) (Nat.le_refl _)
  obtain ⟨i1, i2, i3⟩ := key
  have clo : ∀ n, n < cm → zbt (s_M_ancestors u s cm) n = true → ∀ k, zbt (A n) k = true → k < 32 → zbt (s_M_ancestors u s cm) k = true := by
    intro n
    induction n using Nat.strongRecOn with
    | ind n ih =>
      intro hn hb k hk hk2
      cases n with
      | zero =>
        have := h.le 0 hn k hk2 hk
        have e : k = 0 := by omega
        rw [e]
        exact hb
      | succ n =>
        obtain ⟨p, x, hp, e1, e2, e3⟩ := h4 (n + 1) (by omega) hn
        rw [e2, zbt_or, zbt_or, zbt_1 (by omega) hk2, Bool.or_eq_true, Bool.or_eq_true] at hk
        rcases hk with (hk | hk) | hk
        · have e : k = n + 1 := of_decide_eq_true hk
          rw [e]
          exact hb
        · exact ih p hp (by omega) (i3 (n + 1) (by omega) hn (by omega) hb p hp (Or.inl e1)) k hk hk2
        · rcases e3 with ⟨-, e5⟩ | ⟨o, ho, -, e4, e5⟩
          · rw [e5, zbt_0] at hk
            cases hk
          · rw [e5] at hk
            exact ih o ho (by omega) (i3 (n + 1) (by omega) hn (by omega) hb o ho (Or.inr e4)) k hk hk2
  constructor
  · exact i1 k hk
  · rintro ⟨n, n1, n2, n3⟩
    exact clo n n1 (i2 n (by omega) n2) k n3 hk
end ZHI
section ZNR
variable {u : zU} {cm : Nat} {A : Nat → Int32}
/-- k is an ancestor of one of s, and of c -/
def zBo (cm : Nat) (A : Nat → Int32) (s : Int32) (c k : Nat) : Prop := (∃ n, n < cm ∧ zbt s n = true ∧ zbt (A n) k = true) ∧ zbt (A c) k = true
/-- k is one of the nearest -/
def zNe (cm : Nat) (A : Nat → Int32) (s : Int32) (c k : Nat) : Prop := k < cm ∧ zBo cm A s c k ∧ ∀ i, k < i → i < cm → zBo cm A s c i → ¬ zbt (A i) k = true
theorem zHi.anc1 (h : zHi u cm A) {c : Nat} (hc : c < cm) {k : Nat} (hk : k < 32) : zbt (s_M_ancestors u (1 <<< (nI c &&& 31)) cm) k = true ↔ zbt (A c) k = true := by
  have h2 := h.2.1
  rw [h.anc (fun k hk hb => by rw [zbt_1 (by omega) hk] at hb; have := of_decide_eq_true hb; omega) hk]
  constructor
  · rintro ⟨n, n1, n2, n3⟩
    rw [zbt_1 (by omega) (by omega)] at n2
    rw [of_decide_eq_true n2] at n3
    exact n3
  · intro hb
    exact ⟨c, hc, by rw [zbt_1 (by omega) (by omega)]; exact decide_eq_true rfl, hb⟩
theorem zHi.bo (h : zHi u cm A) {s : Int32} (hs : ∀ k, k < 32 → zbt s k = true → k < cm) {c : Nat} (hc : c < cm) {k : Nat} (hk : k < 32) : zbt ((s_M_ancestors u s cm) &&& (s_M_ancestors u (1 <<< (nI c &&& 31)) cm)) k = true ↔ zBo cm A s c k := by
  rw [zbt_and, Bool.and_eq_true, h.anc hs hk, h.anc1 hc hk]
  rfl
theorem zHi.nin (h : zHi u cm A) {s : Int32} (hs : ∀ k, k < 32 → zbt s k = true → k < cm) {c : Nat} (hc : c < cm) {j : Nat} (hj : j < cm) : ∀ n, n ≤ cm - (j + 1) → (zfor n (st_M_nearestOf_i u cm s (nI c) j) 0 = 0 ∧ ∀ i, i < n → ¬ (zBo cm A s c (j + 1 + i) ∧ zbt (A (j + 1 + i)) j = true)) ∨ (zfor n (st_M_nearestOf_i u cm s (nI c) j) 0 = 1 ∧ ∃ i, i < n ∧ zBo cm A s c (j + 1 + i) ∧ zbt (A (j + 1 + i)) j = true) := by
  have h2 := h.2.1
  refine zfor_inv (N := cm - (j + 1)) (fun n t => (t = 0 ∧ ∀ i, i < n → ¬ (zBo cm A s c (j + 1 + i) ∧ zbt (A (j + 1 + i)) j = true)) ∨ (t = 1 ∧ ∃ i, i < n ∧ zBo cm A s c (j + 1 + i) ∧ zbt (A (j + 1 + i)) j = true)) (Or.inl ⟨rfl, fun i hi => by omega⟩) (fun n t hn hP => ?_)
  unfold st_M_nearestOf_i
  rcases hP with ⟨p1, p2⟩ | ⟨p1, i, i1, i2⟩
  · rw [if_pos p1]
    by_cases c1 : ((((s_M_ancestors u s cm) &&& (s_M_ancestors u (1 <<< (nI c &&& 31)) cm)) >>> ((nI (j + 1 + n)) &&& 31)) &&& 1) = 1
    · rw [if_pos c1]
      rw [zbt_t (by omega), h.bo hs hc (by omega)] at c1
      by_cases c2 : (((s_M_ancestors u (1 <<< ((nI (j + 1 + n)) &&& 31)) cm) >>> ((nI j) &&& 31)) &&& 1) = 1
      · rw [if_pos c2]
        rw [zbt_t (by omega), h.anc1 (by omega) (by omega)] at c2
        exact Or.inr ⟨rfl, n, by omega, c1, c2⟩
      · rw [if_neg c2]
        rw [zbt_t (by omega), h.anc1 (by omega) (by omega)] at c2
        refine Or.inl ⟨rfl, fun i hi q => ?_⟩
        by_cases e : i = n
        · rw [e] at q
          exact c2 q.2
        · exact p2 i (by omega) q
    · rw [if_neg c1]
      rw [zbt_t (by omega), h.bo hs hc (by omega)] at c1
      refine Or.inl ⟨rfl, fun i hi q => ?_⟩
      by_cases e : i = n
      · rw [e] at q
        exact c1 q.1
      · exact p2 i (by omega) q
  · rw [if_neg (by rw [p1]; decide)]
    exact Or.inr ⟨rfl, i, by omega, i2⟩
/-- the reference's 'nearestOf' -/
theorem zHi.near (h : zHi u cm A) {s : Int32} (hs : ∀ k, k < 32 → zbt s k = true → k < cm) {c : Nat} (hc : c < cm) {k : Nat} (hk : k < 32) : zbt (s_M_nearestOf u s (nI c) cm) k = true ↔ zNe cm A s c k := by
  have h2 := h.2.1
  have key := zfor_inv (f := st_M_nearestOf_k u cm s (nI c)) (s0 := 0) (N := cm) (fun n t => ∀ k, k < 32 → (zbt t k = true ↔ k < n ∧ zNe cm A s c k)) (fun k hk => by rw [zbt_0]; exact ⟨(fun q => nomatch q), fun q => absurd q.1 (Nat.not_lt_zero _)⟩) (fun n t hn hP => by
    intro k hk
    unfold st_M_nearestOf_k
    by_cases c1 : ((((s_M_ancestors u s cm) &&& (s_M_ancestors u (1 <<< (nI c &&& 31)) cm)) >>> ((nI n) &&& 31)) &&& 1) = 0
    · rw [if_pos c1, hP k hk]
      have c2 : ¬ zBo cm A s c n := fun q => by
        rw [zbt_f (by omega)] at c1
        rw [← h.bo hs hc (by omega), c1] at q
        cases q
      constructor
      · rintro ⟨q1, q2⟩
        exact ⟨by omega, q2⟩
      · rintro ⟨q1, q2⟩
        refine ⟨?_, q2⟩
        by_cases e : k = n
        · rw [e] at q2
          exact absurd q2.2.1 c2
        · omega
    · rw [if_neg c1]
      have c2 : zBo cm A s c n := by
        rw [← h.bo hs hc (by omega)]
        cases hq : zbt ((s_M_ancestors u s cm) &&& (s_M_ancestors u (1 <<< (nI c &&& 31)) cm)) n
        · exact absurd ((zbt_f (by omega)).mpr hq) c1
        · rfl
      rcases h.nin hs hc hn (cm - (n + 1)) (Nat.le_refl _) with ⟨d1, d2⟩ | ⟨d1, i, i1, i2, i3⟩
      · rw [if_pos d1, zbt_or, zbt_1 (by omega) hk, Bool.or_eq_true, hP k hk]
        have d3 : zNe cm A s c n := ⟨hn, c2, fun i j1 j2 j3 j4 => d2 (i - (n + 1)) (by omega) (by rw [show n + 1 + (i - (n + 1)) = i by omega]; exact ⟨j3, j4⟩)⟩
        constructor
        · rintro (q | q)
          · exact ⟨by omega, q.2⟩
          · rw [of_decide_eq_true q]
            exact ⟨by omega, d3⟩
        · rintro ⟨q1, q2⟩
          by_cases e : k = n
          · exact Or.inr (decide_eq_true e)
          · exact Or.inl ⟨by omega, q2⟩
      · rw [if_neg (by rw [d1]; decide), hP k hk]
        constructor
        · rintro ⟨q1, q2⟩
          exact ⟨by omega, q2⟩
        · rintro ⟨q1, q2⟩
          refine ⟨?_, q2⟩
          by_cases e : k = n
          · rw [e] at q2
            exact absurd i3 (q2.2.2 (n + 1 + i) (by omega) (by omega) i2)
          · omega) cm (Nat.le_refl _)
  unfold s_M_nearestOf
  rw [key k hk]
  exact ⟨fun q => q.2, fun q => ⟨q.1, q⟩⟩
end ZNR
