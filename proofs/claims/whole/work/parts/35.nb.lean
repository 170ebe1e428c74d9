/-! the reference's table of blocks -/
def zbk (u : zU) (a k : Nat) : Int32 := u.ar 1 (a + k / 4 * 32 + k % 4)
theorem z_same (u : zU) (a b : Nat) : (s_M_sameBlock u a b = 0 ∧ ¬ ∀ k, k < 16 → zbk u a k = zbk u b k) ∨ (¬ s_M_sameBlock u a b = 0 ∧ ∀ k, k < 16 → zbk u a k = zbk u b k) := by
  unfold s_M_sameBlock
  refine zfor_inv (f := st_M_sameBlock u a b) (s0 := 1) (N := 16) (fun n s => (s = 0 ∧ ¬ ∀ k, k < n → zbk u a k = zbk u b k) ∨ (¬ s = 0 ∧ ∀ k, k < n → zbk u a k = zbk u b k)) (Or.inr ⟨by decide, fun k hk => absurd hk (Nat.not_lt_zero _)⟩) (fun n s hn hP => ?_) 16 (Nat.le_refl _)
  unfold st_M_sameBlock
  rcases hP with ⟨h1, h2⟩ | ⟨h1, h2⟩
  · rw [if_pos h1]
    exact Or.inl ⟨h1, fun q => h2 (fun k hk => q k (by omega))⟩
  · rw [if_neg h1]
    by_cases c : ((u.ar 1) ((a + ((n / 4) * 32)) + (n % 4))) = ((u.ar 1) ((b + ((n / 4) * 32)) + (n % 4)))
    · rw [if_pos c]
      refine Or.inr ⟨by decide, fun k hk => ?_⟩
      by_cases e : k = n
      · rw [e]; exact c
      · exact h2 k (by omega)
    · rw [if_neg c]
      exact Or.inl ⟨rfl, fun q => c (q n (by omega))⟩
theorem z_some (u : zU) (p : Nat) : ((zfor 16 (st_M_isNew u p) (0, 0)).2 = 0 ∧ ∀ k, k < 16 → zbk u p k = (-2147483648)) ∨ (¬ (zfor 16 (st_M_isNew u p) (0, 0)).2 = 0 ∧ ¬ ∀ k, k < 16 → zbk u p k = (-2147483648)) := by
  refine zfor_inv (f := st_M_isNew u p) (s0 := (0, 0)) (N := 16) (fun n (s : Int32 × Int32) => (s.2 = 0 ∧ ∀ k, k < n → zbk u p k = (-2147483648)) ∨ (¬ s.2 = 0 ∧ ¬ ∀ k, k < n → zbk u p k = (-2147483648))) (Or.inl ⟨rfl, fun k hk => absurd hk (Nat.not_lt_zero _)⟩) (fun n s hn hP => ?_) 16 (Nat.le_refl _)
  unfold st_M_isNew
  rcases hP with ⟨h1, h2⟩ | ⟨h1, h2⟩
  · rw [if_pos h1]
    by_cases c : ((u.ar 1) ((p + ((n / 4) * 32)) + (n % 4))) = (-2147483648)
    · rw [if_pos c]
      refine Or.inl ⟨rfl, fun k hk => ?_⟩
      by_cases e : k = n
      · rw [e]; exact c
      · exact h2 k (by omega)
    · rw [if_neg c]
      exact Or.inr ⟨(by show ¬ (1 : Int32) = 0; decide), fun q => c (q n (by omega))⟩
  · rw [if_neg h1]
    exact Or.inr ⟨(by show ¬ (1 : Int32) = 0; decide), fun q => h2 (fun k hk => q k (by omega))⟩
theorem z_hash {u u2 : zU} {p q : Nat} (h : ∀ k, k < 16 → zbk u p k = zbk u2 q k) : zhM u p = zhM u2 q := by
  have key : ∀ n, n ≤ 16 → zfor n (st_M_isNew u p) (0, 0) = zfor n (st_M_isNew u2 q) (0, 0) := by
    intro n
    induction n with
    | zero => intro _; rfl
    | succ n ih =>
      intro hn
      rw [zfor_s, zfor_s, ih (by omega)]
      unfold st_M_isNew
      rw [show (u.ar 1) ((p + ((n / 4) * 32)) + (n % 4)) = (u2.ar 1) ((q + ((n / 4) * 32)) + (n % 4)) from h n (by omega)]
  unfold zhM
  rw [key 16 (Nat.le_refl _)]
def zTM (u us : zU) (s : Nat × (Nat → Nat → Int32)) : Prop := us.2.1 = u.2.1 ∧ (∀ j, j ≠ 27 → us.2.2 j = u.2.2 j) ∧ ∃ (ad : Nat → Nat) (o : Nat → Option Nat), (∀ i, i < s.1 → ad i + 100 ≤ 114688 ∧ ∀ k, k < 16 → s.2 i k = zbk u (ad i) k) ∧
  (∀ k, k < 4096 → us.ar 27 k = match o k with
    | none => (-1)
    | some i => nI (ad i)) ∧ zTb o s.1 (fun i => (zhM u (ad i)).toNatClampNeg)
theorem zbk_c {u us : zU} (h : us.2.2 1 = u.2.2 1) (a k : Nat) : zbk us a k = zbk u a k := congrFun h _
theorem c_M_isNew (g : zGt) (d : Nat) (hdd : 1 ≤ d) (G : zG) (u us : zU) (m : Nat) (h : zMv us m G) (p : Nat) (hp : p + 100 ≤ 114688) (s : Nat × (Nat → Nat → Int32)) (hs : s.1 < 4096) (hT : zTM u us s) :
    zMet g y_M_isNew b_M_isNew 6 (some .boolean) [] d 0 0 [.ref m, .int (nI p)] G (fun r G1 => ∃ us2, zMv us2 m G1 ∧ zMf us m G G1 ∧ us2.1 = us.1 ∧ zTM u us2 (zadd s (zbk u p)) ∧ ((r = .inl (some (.int 0)) ∧ (zadd s (zbk u p)).1 = s.1) ∨ (r = .inl (some (.int 1)) ∧ (zadd s (zbk u p)).1 = s.1 + 1))) := by
  obtain ⟨t1, t2, ad, o, t3, t4, t5⟩ := id hT
  have hb : ∀ a k, zbk us a k = zbk u a k := fun a k => zbk_c (t2 1 (by decide)) a k
  rcases z_some us p with ⟨e1, e2⟩ | ⟨e1, e2⟩
  · have hz : zadd s (zbk u p) = s := zadd_old (Or.inl fun k hk => by rw [← hb]; exact e2 k hk)
    refine (c_M_isNew_no g d G us m h p hp e1).mono (fun r G1 hq => ?_)
    obtain ⟨q1, q2, q3, q4⟩ := hq
    rw [hz]
    exact ⟨us, q2, q3, rfl, hT, Or.inl ⟨q1, rfl⟩⟩
  · have e3 : ¬ ∀ k, k < 16 → zbk u p k = (-2147483648) := fun q => e2 fun k hk => by rw [hb]; exact q k hk
    obtain ⟨z0, hz0, hz1⟩ : ∃ z0 : Nat, z0 < 4096 ∧ zhM us p = nI z0 := by
      unfold zhM
      exact pk_andE _ 12 (by decide)
    have hzu : zhM u p = nI z0 := by
      rw [← hz1]
      exact z_hash fun k _ => (hb p k).symm
    obtain ⟨t, ht, hocc, hend⟩ := t5.probe hs hz0 (fun i => ∀ k, k < 16 → s.2 i k = zbk u p k) (fun i hi hS => by
      show (zhM u (ad i)).toNatClampNeg = z0
      rw [z_hash (u2 := u) (q := p) (fun k hk => by rw [← (t3 i hi).2 k hk]; exact hS k hk), hzu, nI_clamp (by omega)])
    have hocc2 : ∀ i, i < t → us.ar 27 ((z0 + i) % 4096) = nI ((fun i => match o ((z0 + i) % 4096) with | none => 0 | some j => ad j) i) ∧ (fun i => match o ((z0 + i) % 4096) with | none => 0 | some j => ad j) i + 100 ≤ 114688 ∧ s_M_sameBlock us ((fun i => match o ((z0 + i) % 4096) with | none => 0 | some j => ad j) i) p = 0 := fun i hi => by
      obtain ⟨j, j1, j2, j3⟩ := hocc i hi
      have h4 := t4 ((z0 + i) % 4096) (by omega)
      rw [j2] at h4
      dsimp only
      rw [j2]
      refine ⟨h4, (t3 j j1).1, ?_⟩
      rcases z_same us (ad j) p with ⟨w1, -⟩ | ⟨-, w2⟩
      · exact w1
      · exact absurd (fun k hk => by rw [(t3 j j1).2 k hk, ← hb, ← hb]; exact w2 k hk) j3
    rcases hend with ⟨f1, f2⟩ | ⟨i, i1, i2, i3⟩
    · have hz : zadd s (zbk u p) = (s.1 + 1, va_up s.2 s.1 (zbk u p)) := zadd_new e3 f2
      have hfree : us.ar 27 ((z0 + t) % 4096) < 0 := by
        have h4 := t4 ((z0 + t) % 4096) (by omega)
        rw [f1] at h4
        rw [h4]
        show (-1 : Int32) < 0
        decide
      refine (c_M_isNew_free g d hdd G us m h p hp e1 z0 t hz1 hz0 _ hocc2 hfree).mono (fun r G1 hq => ?_)
      obtain ⟨q1, q2, q3, q4⟩ := hq
      rw [hz]
      refine ⟨_, q2, q3, q4, ⟨t1, fun j hj => (zuaj _ _ hj).trans (t2 j hj), va_up ad s.1 p, va_up o ((z0 + t) % 4096) (some s.1), fun i hi => ?_, fun k hk => ?_, ?_⟩, Or.inr ⟨q1, rfl⟩⟩
      · by_cases e : i = s.1
        · subst e
          rw [va_up_self]
          refine ⟨hp, fun k _ => ?_⟩
          show va_up s.2 s.1 (zbk u p) s.1 k = _
          rw [va_up_self]
        · rw [va_up_ne _ _ e]
          have hi2 : i < s.1 + 1 := hi
          obtain ⟨w1, w2⟩ := t3 i (by omega)
          refine ⟨w1, fun k hk => ?_⟩
          show va_up s.2 s.1 (zbk u p) i k = _
          rw [va_up_ne _ _ e]
          exact w2 k hk
      · rw [zua_at]
        by_cases e : k = (z0 + t) % 4096
        · subst e
          rw [pk_us, va_up_self]
          show nI p = nI (va_up ad s.1 p s.1)
          rw [va_up_self]
        · rw [pk_un e, va_up_ne _ _ e, t4 k hk]
          cases ho : o k with
          | none => rfl
          | some i =>
            show nI (ad i) = nI (va_up ad s.1 p i)
            have := t5.1 k hk i ho
            rw [va_up_ne _ _ (by omega)]
      · refine zTb.put t5 hz0 ht (fun s hs2 => ?_) f1 (fun i hi => ?_) ?_
        · obtain ⟨j, -, j2, -⟩ := hocc s hs2
          rw [j2]
          intro q
          cases q
        · rw [va_up_ne _ _ (by omega)]
        · rw [va_up_self, hzu, nI_clamp (by omega)]
    · have hz : zadd s (zbk u p) = s := zadd_old (Or.inr ⟨i, i1, i3⟩)
      have h4 := t4 ((z0 + t) % 4096) (by omega)
      rw [i2] at h4
      refine (c_M_isNew_same g d hdd G us m h p hp e1 z0 t hz1 hz0 _ hocc2 (ad i) h4 (t3 i i1).1 ?_).mono (fun r G1 hq => ?_)
      · rcases z_same us (ad i) p with ⟨-, w1⟩ | ⟨w1, -⟩
        · exact absurd (fun k hk => by rw [hb, hb, ← (t3 i i1).2 k hk]; exact i3 k hk) w1
        · exact w1
      · obtain ⟨q1, q2, q3, q4⟩ := hq
        rw [hz]
        exact ⟨us, q2, q3, rfl, hT, Or.inl ⟨q1, rfl⟩⟩
/-- the blocks of a layer, place by place -/
noncomputable def zblX (u : zU) (l p y x : Nat) (s : Nat × (Nat → Nat → Int32)) : Nat × (Nat → Nat → Int32) := zadd s (zbk u (4096 * p + (1024 * l + 32 * (4 * y) + 4 * x)))
noncomputable def zblY (u : zU) (l p y : Nat) (s : Nat × (Nat → Nat → Int32)) : Nat × (Nat → Nat → Int32) := zfor 8 (zblX u l p y) s
noncomputable def zblP (u : zU) (l p : Nat) (s : Nat × (Nat → Nat → Int32)) : Nat × (Nat → Nat → Int32) := if s_M_isPlace u (nI p) = 0 then s else zfor 8 (zblY u l p) s
noncomputable def zbl9 (u : zU) (l : Nat) : Nat × (Nat → Nat → Int32) := zfor 28 (zblP u l) (0, (fun _ _ => 0))
