/-! counting to the k-th; totals; children; origins -/
/-- the class: the e-th place where B holds -/
def zpkS (B : Nat → Bool) (e : Int32) (j : Nat) (s : Int32) : Int32 ⊕ Int32 := if B j = true then (if s = e then .inr (nI j) else .inl (s + 1)) else .inl s
def zpkM (B : Nat → Bool) (e : Int32) (j : Nat) (s : Int32) : Int32 ⊕ Int32 := if B j = true then (if s + 1 = e then .inr (nI j) else .inl (s + 1)) else if s = e then .inr (nI j) else .inl s
theorem zpk_sim (B : Nat → Bool) {e : Int32} (he : 0 ≤ e) {N : Nat} (hN : N < 2 ^ 30) : ∀ j, j ≤ N → (∃ r, zfor j (zstp (zpkS B e)) (.inl 0) = .inr r ∧ zfor j (zstp (zpkM B e)) (.inl (-1)) = .inr r) ∨ ∃ m, m ≤ j ∧ zfor j (zstp (zpkS B e)) (.inl 0) = .inl (nI m) ∧ zfor j (zstp (zpkM B e)) (.inl (-1)) = .inl (nI m - 1) ∧ ∀ i, i < m → e ≠ nI i := by
  intro j
  induction j with
  | zero => intro _; exact Or.inr ⟨0, Nat.le_refl _, rfl, rfl, fun i hi => absurd hi (Nat.not_lt_zero _)⟩
  | succ j ih =>
    intro hj
    rcases ih (by omega) with ⟨r, h1, h2⟩ | ⟨m, h0, h1, h2, h3⟩
    · refine Or.inl ⟨r, ?_, ?_⟩
      · rw [zfor_s, h1]; rfl
      · rw [zfor_s, h2]; rfl
    · rw [zfor_s, zfor_s, h1, h2]
      show (∃ r, zpkS B e j (nI m) = .inr r ∧ zpkM B e j (nI m - 1) = .inr r) ∨ ∃ n, n ≤ j + 1 ∧ zpkS B e j (nI m) = .inl (nI n) ∧ zpkM B e j (nI m - 1) = .inl (nI n - 1) ∧ ∀ i, i < n → e ≠ nI i
      unfold zpkS zpkM
      have hsub : nI m - 1 + 1 = nI m := Int32.sub_add_cancel _ _
      by_cases hB : B j = true
      · rw [if_pos hB, if_pos hB, hsub]
        by_cases hs : nI m = e
        · rw [if_pos hs, if_pos hs]
          exact Or.inl ⟨_, rfl, rfl⟩
        · rw [if_neg hs, if_neg hs]
          refine Or.inr ⟨m + 1, by omega, by rw [show (1 : Int32) = nI 1 from rfl, nI_add], ?_, fun i hi => ?_⟩
          · rw [show (1 : Int32) = nI 1 from rfl, ← nI_add, Int32.add_sub_cancel]
          · by_cases q : i = m
            · subst q; exact fun q => hs q.symm
            · exact h3 i (by omega)
      · rw [if_neg hB, if_neg hB]
        have hne : ¬ nI m - 1 = e := by
          cases m with
          | zero =>
            intro q
            rw [← q] at he
            exact absurd he (by decide)
          | succ m =>
            rw [show nI (m + 1) - 1 = nI m by rw [show (1 : Int32) = nI 1 from rfl, ← nI_add, Int32.add_sub_cancel]]
            exact fun q => h3 m (by omega) q.symm
        rw [if_neg hne]
        exact Or.inr ⟨m, by omega, rfl, rfl, h3⟩
theorem zpk_eq (B : Nat → Bool) {e : Int32} (he : 0 ≤ e) {N : Nat} (hN : N < 2 ^ 30) : zsel (zfor N (zstp (zpkS B e)) (.inl 0)) (fun _ => (-1)) = zsel (zfor N (zstp (zpkM B e)) (.inl (-1))) (fun _ => (-1)) := by
  rcases zpk_sim B he hN N (Nat.le_refl _) with ⟨r, h1, h2⟩ | ⟨m, -, h1, h2, -⟩
  · rw [h1, h2]
  · rw [h1, h2]; rfl
theorem zpk_neg (B : Nat → Bool) {e : Int32} (he : ¬ 0 ≤ e) {N : Nat} (hN : N < 2 ^ 30) : zsel (zfor N (zstp (zpkS B e)) (.inl 0)) (fun _ => (-1)) = (-1) := by
  have key : ∀ j, j ≤ N → ∃ m, m ≤ j ∧ zfor j (zstp (zpkS B e)) (.inl 0) = .inl (nI m) := by
    intro j
    induction j with
    | zero => intro _; exact ⟨0, Nat.le_refl _, rfl⟩
    | succ j ih =>
      intro hj
      obtain ⟨m, h0, h1⟩ := ih (by omega)
      rw [zfor_s, h1]
      show ∃ n, n ≤ j + 1 ∧ zpkS B e j (nI m) = .inl (nI n)
      unfold zpkS
      by_cases hB : B j = true
      · rw [if_pos hB, if_neg (fun q => he (by rw [← q]; exact nI_pos' (by omega)))]
        exact ⟨m + 1, by omega, by rw [show (1 : Int32) = nI 1 from rfl, nI_add]⟩
      · rw [if_neg hB]
        exact ⟨m, by omega, rfl⟩
  obtain ⟨m, -, h⟩ := key N (Nat.le_refl _)
  rw [h]; rfl
theorem zstp_c {α β : Type} {f g : Nat → α → α ⊕ β} {N : Nat} (h : ∀ j, j < N → f j = g j) (s : α ⊕ β) : ∀ j, j ≤ N → zfor j (zstp f) s = zfor j (zstp g) s := by
  intro j
  induction j with
  | zero => intro _; rfl
  | succ j ih =>
    intro hj
    rw [zfor_s, zfor_s, ih (by omega)]
    unfold zstp
    rw [h j (by omega)]
theorem zfor_c {α : Type} {f g : Nat → α → α} {N : Nat} (h : ∀ j s, j < N → f j s = g j s) (s : α) : ∀ j, j ≤ N → zfor j f s = zfor j g s := by
  intro j
  induction j with
  | zero => intro _; rfl
  | succ j ih =>
    intro hj
    rw [zfor_s, zfor_s, ih (by omega), h j _ (by omega)]
/-- differing at k-th -/
theorem zdf_eq (u : zU) (p q l : Nat) (e : Int32) : s_M_differs u p q l e = zsel (zfor 1024 (zstp (zpkM (fun j => decide (¬ u.ar 1 (4096 * p + 1024 * l + j) = u.ar 1 (4096 * q + 1024 * l + j))) e)) (.inl (-1))) (fun _ => (-1)) := by
  unfold s_M_differs
  rw [zstp_c (N := 1024) (g := zpkM (fun j => decide (¬ u.ar 1 (4096 * p + 1024 * l + j) = u.ar 1 (4096 * q + 1024 * l + j))) e) (fun j _ => ?_) _ 1024 (Nat.le_refl _)]
  funext s
  unfold st_M_differs zpkM
  show (if u.ar 1 (4096 * p + 1024 * l + j) = u.ar 1 (4096 * q + 1024 * l + j) then _ else _) = _
  by_cases h : u.ar 1 (4096 * p + 1024 * l + j) = u.ar 1 (4096 * q + 1024 * l + j)
  · rw [if_pos h, if_neg (show ¬ decide (¬ u.ar 1 (4096 * p + 1024 * l + j) = u.ar 1 (4096 * q + 1024 * l + j)) = true from fun q => absurd h (of_decide_eq_true q))]
  · rw [if_neg h, if_pos (decide_eq_true h)]
    rfl
theorem znr_pk (u : zU) (p q : Nat) (e : Int32) {cm : Nat} (hm : cm ≤ 24) : s_M_nearest u p q e cm = zsel (zfor cm (zstp (zpkM (fun j => zbt (s_M_nearestOf (zuc u 0 0) (1 <<< ((nI p) &&& 31)) (nI q) cm) j) e)) (.inl (-1))) (fun _ => (-1)) := by
  unfold s_M_nearest
  rw [zstp_c (N := cm) (g := zpkM (fun j => zbt (s_M_nearestOf (zuc u 0 0) (1 <<< ((nI p) &&& 31)) (nI q) cm) j) e) (fun j hj => ?_) _ cm (Nat.le_refl _)]
  funext s
  unfold st_M_nearest zpkM
  rw [zbt_sh _ (by omega)]
  by_cases h : zbt (s_M_nearestOf (zuc u 0 0) (1 <<< ((nI p) &&& 31)) (nI q) cm) j = true
  · rw [if_pos h, if_pos h]
  · rw [if_neg h, if_neg h, Int32.add_zero]
/-- totals -/
def ztS (v : Int32) (t : Int32 × Int32 × Int32 × Int32) : Int32 × Int32 × Int32 × Int32 := if v = (-2147483648) then t else (t.1 + v, t.2.1 + 1, (if t.2.1 = 0 then v else zmin t.2.2.1 v), zmax t.2.2.2 v)
theorem ztot (u : zU) (p q lf wd tp j i : Nat) (t : Int32 × Int32 × Int32 × Int32) : st_M_total_x u p q lf wd tp j i t = ztS (u.ar 1 (4096 * p + (1024 * q + 32 * (tp + j) + (lf + i)))) t := by
  unfold st_M_total_x ztS
  show (if u.ar 1 (4096 * p + (1024 * q + 32 * (tp + j) + (lf + i))) = (-2147483648) then t else _) = _
  generalize hv : u.ar 1 (4096 * p + (1024 * q + 32 * (tp + j) + (lf + i))) = v
  have e0 : (zuc u 0 0).ar 1 (4096 * p + (1024 * q + 32 * (tp + j) + (lf + i))) = v := hv
  rw [e0]
  by_cases h : v = (-2147483648)
  · rw [if_pos h, if_pos h]
  rw [if_neg h, if_neg h]
  have ma : ∀ g : Int32, (v ≤ g → zmax g v = g) ∧ (¬ v ≤ g → zmax g v = v) := fun g => ⟨fun q => by
    unfold zmax
    rw [if_neg (Int32.not_lt.mpr q)], fun q => by
    unfold zmax
    rw [if_pos (Int32.not_le.mp q)]⟩
  have mi : ∀ g : Int32, (g ≤ v → zmin g v = g) ∧ (¬ g ≤ v → zmin g v = v) := fun g => ⟨fun q => by
    unfold zmin
    rw [if_neg (Int32.not_lt.mpr q)], fun q => by
    unfold zmin
    rw [if_pos (Int32.not_le.mp q)]⟩
  have o1 : Int32.ofInt 1 = 1 := rfl
  rw [o1]
  by_cases h0 : t.2.1 = 0
  · rw [if_pos h0, if_pos h0]
    by_cases h1 : v ≤ t.2.2.2
    · rw [if_pos h1, (ma _).1 h1]
    · rw [if_neg h1, (ma _).2 h1]
  · rw [if_neg h0, if_neg h0]
    by_cases h2 : t.2.2.1 ≤ v
    · rw [if_pos h2, (mi _).1 h2]
      by_cases h1 : v ≤ t.2.2.2
      · rw [if_pos h1, (ma _).1 h1]
      · rw [if_neg h1, (ma _).2 h1]
    · rw [if_neg h2, (mi _).2 h2]
      by_cases h1 : v ≤ t.2.2.2
      · rw [if_pos h1, (ma _).1 h1]
      · rw [if_neg h1, (ma _).2 h1]
/-- children -/
def zchS (P1 P2 : Nat → Int32) (p : Int32) (n : Nat) (s : Int32) : Int32 := if P1 n = p then s + 1 else if P2 n = p then s + 1 else s
theorem zch_eq {u : zU} {cm : Nat} {A : Nat → Int32} (h : zHi u cm A) (h4 : u.ar 4 0 = (-1)) (h5 : u.ar 5 0 = (-1)) {p : Nat} (hp : p < 24) : zfor cm (zchS (u.ar 4) (u.ar 5) (nI p)) 0 = zfor (cm - 1) (st_M_about u p cm) 0 := by
  have hm1 : ¬ (-1 : Int32) = nI p := fun q => by
    have : (0 : Int32) ≤ nI p := nI_pos' (by omega)
    rw [← q] at this
    exact absurd this (by decide)
  have key : ∀ n, n + 1 ≤ cm → zfor (n + 1) (zchS (u.ar 4) (u.ar 5) (nI p)) 0 = zfor n (st_M_about u p cm) 0 := by
    intro n
    induction n with
    | zero =>
      intro _
      rw [zfor_s, zfor_0]
      unfold zchS
      rw [h4, h5, if_neg hm1, if_neg hm1]
      rfl
    | succ n ih =>
      intro hn
      rw [zfor_s (n + 1), ih (by omega), zfor_s n]
      obtain ⟨a, x, ha, e4, -, e5⟩ := h.2.2.2 (n + 1) (by omega) (by omega)
      generalize zfor n (st_M_about u p cm) 0 = s
      unfold st_M_about zchS
      show _ = if u.ar 4 (1 + n) = nI p then (if u.ar 5 (1 + n) = nI p then _ else _) else (if u.ar 5 (1 + n) = nI p then _ else _)
      rw [Nat.add_comm 1 n]
      have both : u.ar 4 (n + 1) = nI p → ¬ u.ar 5 (n + 1) = nI p := fun q1 q2 => by
        have hm := h.2.1
        rcases e5 with ⟨e5, -⟩ | ⟨o, ho, hne, e5, -⟩
        · rw [e5] at q2; exact hm1 q2
        · rw [e4] at q1
          rw [e5] at q2
          have r1 := (nI_eq (by omega) (by omega)).mp q1
          have r2 := (nI_eq (by omega) (by omega)).mp q2
          omega
      by_cases q1 : u.ar 4 (n + 1) = nI p
      · rw [if_pos q1, if_pos q1, if_neg (both q1)]
        rfl
      · rw [if_neg q1, if_neg q1]
        by_cases q2 : u.ar 5 (n + 1) = nI p
        · rw [if_pos q2, if_pos q2]
          rfl
        · rw [if_neg q2, if_neg q2]
          exact (Int32.add_zero s).symm
  have := h.1
  have e := key (cm - 1) (by omega)
  rw [show cm - 1 + 1 = cm by omega] at e
  exact e
/-- origins -/
theorem zor_N {v : Int32} {k : Nat} (hv : ¬ v = (-2147483648)) (hk : k < 102400) : s_S_originCommitOf (zcell v (nI k)) = nI k / 4096 ∧ s_S_layerOf (s_S_originIndexOf (zcell v (nI k))) = (nI k - nI k / 4096 * 4096) / 1024 ∧ s_S_xOf (s_S_originIndexOf (zcell v (nI k))) = nI k - nI k / 32 * 32 ∧ s_S_yOf (s_S_originIndexOf (zcell v (nI k))) = nI k / 32 - nI k / 32 / 32 * 32 := by
  rw [zoc_N hv hk, zoi_N hv hk]
  unfold s_S_layerOf s_S_xOf s_S_yOf
  rw [show (4096 : Int32) = nI 4096 from rfl, show (1024 : Int32) = nI 1024 from rfl, show (32 : Int32) = nI 32 from rfl]
  rw [pk_div (a := k) (d := 4096) (by omega) (by decide) (by decide)]
  rw [show nI k - nI (k / 4096) * nI 4096 = nI (k % 4096) by rw [← pk_div (a := k) (d := 4096) (by omega) (by decide) (by decide), pk_rem (by omega) (by decide) (by decide)]]
  rw [pk_div (a := k % 4096) (d := 32) (by omega) (by decide) (by decide), pk_div (a := k) (d := 32) (by omega) (by decide) (by decide)]
  refine ⟨rfl, rfl, ?_, ?_⟩
  · rw [show nI (k % 4096) - nI (k % 4096 / 32) * nI 32 = nI (k % 4096 % 32) by rw [← pk_div (a := k % 4096) (d := 32) (by omega) (by decide) (by decide), pk_rem (by omega) (by decide) (by decide)]]
    rw [show nI k - nI (k / 32) * nI 32 = nI (k % 32) by rw [← pk_div (a := k) (d := 32) (by omega) (by decide) (by decide), pk_rem (by omega) (by decide) (by decide)]]
    congr 1
    omega
  · rw [pk_rem (a := k % 4096 / 32) (d := 32) (by omega) (by decide) (by decide), pk_rem (a := k / 32) (d := 32) (by omega) (by decide) (by decide)]
    congr 1
    omega
