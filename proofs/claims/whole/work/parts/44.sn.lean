/-! the class's NEAREST is the reference's -/
def zofS (A : Nat → Int32) (S : Int32) (n : Nat) (s : Int32) : Int32 := if (S >>> (nI n &&& 31)) &&& 1 = 1 then s ||| A n else s
def zfaS (A : Nat → Int32) (S : Int32) (n : Nat) (s : Int32) : Int32 := if (S >>> (nI n &&& 31)) &&& 1 = 1 then s ||| (A n &&& ((1 <<< (nI n &&& 31)) ^^^ (-1))) else s
def znrS (A : Nat → Int32) (S : Int32) (c cm : Nat) : Int32 := (zfor cm (zofS A S) 0 &&& A c) &&& (zfor cm (zfaS A (zfor cm (zofS A S) 0 &&& A c)) 0 ^^^ (-1))
theorem zofS_b (A : Nat → Int32) (S : Int32) {cm : Nat} (hm : cm ≤ 24) {k : Nat} (hk : k < 32) : ∀ n, n ≤ cm → (zbt (zfor n (zofS A S) 0) k = true ↔ ∃ i, i < n ∧ zbt S i = true ∧ zbt (A i) k = true) := by
  intro n
  induction n with
  | zero => intro _; rw [zfor_0, zbt_0]; exact ⟨fun q => (nomatch q), fun ⟨i, h, _⟩ => absurd h (Nat.not_lt_zero _)⟩
  | succ n ih =>
    intro hn
    rw [zfor_s]
    unfold zofS
    by_cases hb : (S >>> (nI n &&& 31)) &&& 1 = 1
    · rw [if_pos hb, zbt_or, Bool.or_eq_true]
      have hb2 := (zbt_t (by omega)).mp hb
      have h9 := ih (by omega)
      unfold zofS at h9
      rw [h9]
      constructor
      · rintro (⟨i, h1, h2⟩ | h)
        · exact ⟨i, by omega, h2⟩
        · exact ⟨n, by omega, hb2, h⟩
      · rintro ⟨i, h1, h2, h3⟩
        by_cases e : i = n
        · subst e; exact Or.inr h3
        · exact Or.inl ⟨i, by omega, h2, h3⟩
    · rw [if_neg hb]
      have hb2 : ¬ zbt S n = true := fun q => hb ((zbt_t (by omega)).mpr q)
      have h9 := ih (by omega)
      unfold zofS at h9
      rw [h9]
      constructor
      · rintro ⟨i, h1, h2⟩
        exact ⟨i, by omega, h2⟩
      · rintro ⟨i, h1, h2, h3⟩
        by_cases e : i = n
        · subst e; exact absurd h2 hb2
        · exact ⟨i, by omega, h2, h3⟩
theorem zfaS_b (A : Nat → Int32) (S : Int32) {cm : Nat} (hm : cm ≤ 24) {k : Nat} (hk : k < 32) : ∀ n, n ≤ cm → (zbt (zfor n (zfaS A S) 0) k = true ↔ ∃ i, i < n ∧ zbt S i = true ∧ zbt (A i) k = true ∧ k ≠ i) := by
  intro n
  induction n with
  | zero => intro _; rw [zfor_0, zbt_0]; exact ⟨fun q => (nomatch q), fun ⟨i, h, _⟩ => absurd h (Nat.not_lt_zero _)⟩
  | succ n ih =>
    intro hn
    rw [zfor_s]
    unfold zfaS
    have h9 := ih (by omega)
    unfold zfaS at h9
    by_cases hb : (S >>> (nI n &&& 31)) &&& 1 = 1
    · rw [if_pos hb, zbt_or, Bool.or_eq_true, zbt_and, zbt_not _ hk, zbt_1 (by omega) hk, h9, Bool.and_eq_true]
      have hb2 := (zbt_t (by omega)).mp hb
      constructor
      · rintro (⟨i, h1, h2⟩ | ⟨h1, h2⟩)
        · exact ⟨i, by omega, h2⟩
        · exact ⟨n, by omega, hb2, h1, fun e => by rw [decide_eq_true e] at h2; cases h2⟩
      · rintro ⟨i, h1, h2, h3, h4⟩
        by_cases e : i = n
        · subst e; exact Or.inr ⟨h3, by rw [decide_eq_false h4]; rfl⟩
        · exact Or.inl ⟨i, by omega, h2, h3, h4⟩
    · rw [if_neg hb, h9]
      have hb2 : ¬ zbt S n = true := fun q => hb ((zbt_t (by omega)).mpr q)
      constructor
      · rintro ⟨i, h1, h2⟩
        exact ⟨i, by omega, h2⟩
      · rintro ⟨i, h1, h2, h3⟩
        by_cases e : i = n
        · subst e; exact absurd h2 hb2
        · exact ⟨i, by omega, h2, h3⟩
theorem znr_eq {u : zU} {cm : Nat} {A : Nat → Int32} (h : zHi u cm A) {S : Int32} (hs : ∀ k, k < 32 → zbt S k = true → k < cm) {c : Nat} (hc : c < cm) : znrS A S c cm = s_M_nearestOf u S (nI c) cm := by
  have hm := h.2.1
  have hco : ∀ k, k < 32 → (zbt (zfor cm (zofS A S) 0 &&& A c) k = true ↔ zBo cm A S c k) := fun k hk => by
    rw [zbt_and, Bool.and_eq_true, zofS_b A S hm hk cm (Nat.le_refl _)]
    rfl
  apply zbt_ext
  intro k hk
  have key : zbt (znrS A S c cm) k = true ↔ zbt (s_M_nearestOf u S (nI c) cm) k = true := by
    rw [h.near hs hc hk]
    unfold znrS
    rw [zbt_and, Bool.and_eq_true, zbt_not _ hk, hco k hk]
    unfold zNe
    constructor
    · rintro ⟨h1, h2⟩
      have hkc := h.le c hc k hk h1.2
      refine ⟨by omega, h1, fun i hi1 hi2 hi3 hi4 => ?_⟩
      have : zbt (zfor cm (zfaS A (zfor cm (zofS A S) 0 &&& A c)) 0) k = true := (zfaS_b A _ hm hk cm (Nat.le_refl _)).mpr ⟨i, hi2, (hco i (by omega)).mpr hi3, hi4, by omega⟩
      rw [this] at h2
      cases h2
    · rintro ⟨h1, h2, h3⟩
      refine ⟨h2, ?_⟩
      cases hb : zbt (zfor cm (zfaS A (zfor cm (zofS A S) 0 &&& A c)) 0) k with
      | false => rfl
      | true =>
        obtain ⟨i, hi1, hi2, hi3, hi4⟩ := (zfaS_b A _ hm hk cm (Nat.le_refl _)).mp hb
        have hik := h.le i hi1 k hk hi3
        exact absurd hi3 (h3 i (by omega) hi1 ((hco i (by omega)).mp hi2))
  cases h1 : zbt (znrS A S c cm) k with
  | true => rw [key.mp h1]
  | false =>
    cases h2 : zbt (s_M_nearestOf u S (nI c) cm) k with
    | false => rfl
    | true => rw [key.mpr h2] at h1; cases h1
