/-! THE BASE of a set of commits and one more, as values: by depth -/
def zjn (a o b : Nat → Int32) (k : Nat) : Int32 := if a k = b k then o k else if o k = b k then a k else if o k = a k then a k else (-2147483648)
theorem zjn_c {a o b a2 o2 b2 : Nat → Int32} {k : Nat} (h1 : a k = a2 k) (h2 : o k = o2 k) (h3 : b k = b2 k) : zjn a o b k = zjn a2 o2 b2 k := by
  unfold zjn
  rw [h1, h2, h3]
def zbst (V : Nat → Nat → Int32) (rec : Int32 → Nat → (Nat → Int32) × Nat) (W : Int32) (n : Nat) (s : Int32 × (Nat → Int32) × Nat) : Int32 × (Nat → Int32) × Nat :=
  if zbt W n = true then (s.1 ||| (1 <<< (nI n &&& 31)), (if s.1 = 0 then V n else zjn s.2.1 (V n) (rec s.1 n).1), if s.1 = 0 then s.2.2 else max s.2.2 ((rec s.1 n).2 + 1)) else s
def zbs (V : Nat → Nat → Int32) (N : Int32 → Nat → Int32) (cm : Nat) : Nat → Int32 → Nat → (Nat → Int32) × Nat
  | 0, _, _ => ((fun _ => 0), 0)
  | f + 1, s, c => (zfor cm (zbst V (zbs V N cm f) (N s c)) (0, (fun _ => 0), 1)).2
/-- what is joined before n -/
theorem zbst_D (V : Nat → Nat → Int32) (rec : Int32 → Nat → (Nat → Int32) × Nat) (W : Int32) (r0 : Nat → Int32) (t0 : Nat) {cm : Nat} (hm : cm ≤ 24) : ∀ n, n ≤ cm → ∀ k, k < 32 → (zbt (zfor n (zbst V rec W) (0, r0, t0)).1 k = true ↔ k < n ∧ zbt W k = true) := by
  refine zfor_inv (N := cm) (fun n (s : Int32 × (Nat → Int32) × Nat) => ∀ k, k < 32 → (zbt s.1 k = true ↔ k < n ∧ zbt W k = true)) (fun k _ => by rw [zbt_0]; exact ⟨(fun q => nomatch q), fun q => absurd q.1 (Nat.not_lt_zero _)⟩) (fun n s hn hP => ?_)
  intro k hk
  unfold zbst
  by_cases hb : zbt W n = true
  · rw [if_pos hb]
    show zbt (s.1 ||| _) k = true ↔ _
    rw [zbt_or, zbt_1 (by omega) hk, Bool.or_eq_true, hP k hk]
    constructor
    · rintro (q | q)
      · exact ⟨by omega, q.2⟩
      · rw [of_decide_eq_true q]
        exact ⟨by omega, hb⟩
    · rintro ⟨q1, q2⟩
      by_cases e : k = n
      · exact Or.inr (decide_eq_true e)
      · exact Or.inl ⟨by omega, q2⟩
  · rw [if_neg hb, hP k hk]
    constructor
    · rintro ⟨q1, q2⟩
      exact ⟨by omega, q2⟩
    · rintro ⟨q1, q2⟩
      refine ⟨?_, q2⟩
      by_cases e : k = n
      · rw [e] at q2
        exact absurd q2 hb
      · omega
theorem zne0 {s : Int32} (h : ¬ s = 0) : ∃ k, k < 32 ∧ zbt s k = true := by
  apply Classical.byContradiction
  intro q
  apply h
  apply zbt_ext
  intro k hk
  rw [zbt_0]
  cases hb : zbt s k
  · rfl
  · exact absurd ⟨k, hk, hb⟩ q
/-- the reference's 'next' -/
theorem zNx {W D : Int32} {n : Nat} (hn : n ≤ 24) (h1 : ∀ i, i < n → zbt W i = true → zbt D i = true) (h2 : n < 24 → zbt W n = true ∧ zbt D n = false) : s_M_next W D = nI n := by
  have hz : ∀ i, i < 32 → (((W &&& (D ^^^ (-1))) >>> ((nI i) &&& 31)) &&& 1 = 0 ↔ (zbt W i = true → zbt D i = true)) := fun i hi => by
    rw [zbt_f hi, zbt_and, zbt_not _ hi]
    cases zbt W i <;> cases zbt D i <;> decide
  have key : ∀ j, j ≤ n → (.inl () : Unit ⊕ Int32) = zfor j (zstp (sp_M_next W D)) (.inl ()) := by
    intro j
    induction j with
    | zero => intro _; rfl
    | succ j ih =>
      intro hj
      refine zstp_s (ih (by omega)) ?_
      unfold sp_M_next
      rw [if_pos ((hz j (by omega)).mpr (h1 j (by omega)))]
  unfold s_M_next
  by_cases e : n = 24
  · subst e
    rw [← key 24 (Nat.le_refl _)]
    rfl
  · obtain ⟨a, b⟩ := h2 (by omega)
    have hr := zstp_r (N := 24) (j := n + 1) (by omega) (zstp_s (t := .inr (nI n)) (key n (Nat.le_refl _)) (by
      unfold sp_M_next
      rw [if_neg]
      intro q
      have := (hz n (by omega)).mp q a
      rw [b] at this
      cases this))
    rw [hr]
    rfl
/-- all but the base's own rows is as at u0 -/
def zKp (u0 u : zU) : Prop := u.2.1 = u0.2.1 ∧ ∀ j, j ≠ 24 → j ≠ 25 → j ≠ 26 → u.2.2 j = u0.2.2 j
theorem z_anc_c {u u0 : zU} (h4 : u.2.2 4 = u0.2.2 4) (h5 : u.2.2 5 = u0.2.2 5) (s : Int32) (cm : Nat) : s_M_ancestors u s cm = s_M_ancestors u0 s cm := by
  have e : st_M_ancestors u cm = st_M_ancestors u0 cm := by
    funext j s
    unfold st_M_ancestors
    show (if _ then _ else if u.2.2 5 _ < 0 then (_ ||| 1 <<< (u.2.2 4 _ &&& 31)) else ((_ ||| 1 <<< (u.2.2 4 _ &&& 31)) ||| 1 <<< (u.2.2 5 _ &&& 31))) = _
    rw [h4, h5]
  unfold s_M_ancestors
  rw [e]
theorem z_near_c {u u0 : zU} (h4 : u.2.2 4 = u0.2.2 4) (h5 : u.2.2 5 = u0.2.2 5) (s q : Int32) (cm : Nat) : s_M_nearestOf u s q cm = s_M_nearestOf u0 s q cm := by
  have e0 := fun s => z_anc_c h4 h5 s cm
  have e1 : ∀ j, st_M_nearestOf_i u cm s q j = st_M_nearestOf_i u0 cm s q j := fun j => by
    funext i t
    unfold st_M_nearestOf_i
    rw [e0, e0, e0]
  have e2 : st_M_nearestOf_k u cm s q = st_M_nearestOf_k u0 cm s q := by
    funext j t
    unfold st_M_nearestOf_k
    rw [e0, e0, e1]
  unfold s_M_nearestOf
  rw [e2]
theorem zuaj (u : zU) {j k : Nat} (f : Nat → Int32) (h : k ≠ j) : (zua u j f).2.2 k = u.2.2 k := va_up_ne _ _ h
theorem z_bcopy (u : zU) (l n : Nat) : ∀ j, j ≤ 4096 → (zfor j (st_M_bcopy l n) u).2.1 = u.2.1 ∧ (∀ i, i ≠ 26 → (zfor j (st_M_bcopy l n) u).2.2 i = u.2.2 i) ∧ (∀ i, (i < 4096 * l ∨ 4096 * l + j ≤ i) → (zfor j (st_M_bcopy l n) u).ar 26 i = u.ar 26 i) ∧ ∀ k, k < j → (zfor j (st_M_bcopy l n) u).ar 26 (4096 * l + k) = u.ar 1 (4096 * n + k) := by
  refine zfor_inv (N := 4096) (fun j (s : zU) => s.2.1 = u.2.1 ∧ (∀ i, i ≠ 26 → s.2.2 i = u.2.2 i) ∧ (∀ i, (i < 4096 * l ∨ 4096 * l + j ≤ i) → s.ar 26 i = u.ar 26 i) ∧ ∀ k, k < j → s.ar 26 (4096 * l + k) = u.ar 1 (4096 * n + k)) ⟨rfl, fun _ _ => rfl, fun _ _ => rfl, fun k hk => absurd hk (Nat.not_lt_zero _)⟩ (fun j s hj hP => ?_)
  obtain ⟨p1, p2, p3, p4⟩ := hP
  unfold st_M_bcopy
  refine ⟨p1, fun i hi => (zuaj _ _ hi).trans (p2 i hi), fun i hi => ?_, fun k hk => ?_⟩
  · rw [zua_at, pk_un (by omega)]
    exact p3 i (by omega)
  · rw [zua_at]
    by_cases e : k = j
    · rw [e, pk_us]
      exact congrFun (p2 1 (by decide)) _
    · rw [pk_un (by omega)]
      exact p4 k (by omega)
theorem z_joinB (u : zU) (l c : Nat) : ∀ j, j ≤ 4096 → (zfor j (st_M_joinBase l c) u).2.1 = u.2.1 ∧ (∀ i, i ≠ 26 → (zfor j (st_M_joinBase l c) u).2.2 i = u.2.2 i) ∧ (∀ i, (i < 4096 * l ∨ 4096 * l + j ≤ i) → (zfor j (st_M_joinBase l c) u).ar 26 i = u.ar 26 i) ∧ ∀ k, k < j → (zfor j (st_M_joinBase l c) u).ar 26 (4096 * l + k) = zjn (fun k => u.ar 26 (4096 * l + k)) (fun k => u.ar 1 (4096 * c + k)) (fun k => u.ar 26 (4096 * (l + 1) + k)) k := by
  refine zfor_inv (N := 4096) (fun j (s : zU) => s.2.1 = u.2.1 ∧ (∀ i, i ≠ 26 → s.2.2 i = u.2.2 i) ∧ (∀ i, (i < 4096 * l ∨ 4096 * l + j ≤ i) → s.ar 26 i = u.ar 26 i) ∧ ∀ k, k < j → s.ar 26 (4096 * l + k) = zjn (fun k => u.ar 26 (4096 * l + k)) (fun k => u.ar 1 (4096 * c + k)) (fun k => u.ar 26 (4096 * (l + 1) + k)) k) ⟨rfl, fun _ _ => rfl, fun _ _ => rfl, fun k hk => absurd hk (Nat.not_lt_zero _)⟩ (fun j s hj hP => ?_)
  obtain ⟨p1, p2, p3, p4⟩ := hP
  have r1 : s.ar 26 (4096 * l + j) = u.ar 26 (4096 * l + j) := p3 _ (by omega)
  have r2 : s.ar 26 (4096 * l + 4096 + j) = u.ar 26 (4096 * (l + 1) + j) := by rw [p3 _ (by omega), show 4096 * l + 4096 + j = 4096 * (l + 1) + j by omega]
  have r3 : s.ar 1 (4096 * c + j) = u.ar 1 (4096 * c + j) := congrFun (p2 1 (by decide)) _
  have put : ∀ x : Int32, x = zjn (fun k => u.ar 26 (4096 * l + k)) (fun k => u.ar 1 (4096 * c + k)) (fun k => u.ar 26 (4096 * (l + 1) + k)) j →
      (zua s 26 (upd (s.ar 26) (4096 * l + j) x)).2.1 = u.2.1 ∧ (∀ i, i ≠ 26 → (zua s 26 (upd (s.ar 26) (4096 * l + j) x)).2.2 i = u.2.2 i) ∧ (∀ i, (i < 4096 * l ∨ 4096 * l + (j + 1) ≤ i) → (zua s 26 (upd (s.ar 26) (4096 * l + j) x)).ar 26 i = u.ar 26 i) ∧ ∀ k, k < j + 1 → (zua s 26 (upd (s.ar 26) (4096 * l + j) x)).ar 26 (4096 * l + k) = zjn (fun k => u.ar 26 (4096 * l + k)) (fun k => u.ar 1 (4096 * c + k)) (fun k => u.ar 26 (4096 * (l + 1) + k)) k := fun x hx => by
    refine ⟨p1, fun i hi => (zuaj _ _ hi).trans (p2 i hi), fun i hi => ?_, fun k hk => ?_⟩
    · rw [zua_at, pk_un (by omega)]
      exact p3 i (by omega)
    · rw [zua_at]
      by_cases e : k = j
      · rw [e, pk_us, hx]
      · rw [pk_un (by omega)]
        exact p4 k (by omega)
  have keep : s.ar 26 (4096 * l + j) = zjn (fun k => u.ar 26 (4096 * l + k)) (fun k => u.ar 1 (4096 * c + k)) (fun k => u.ar 26 (4096 * (l + 1) + k)) j →
      s.2.1 = u.2.1 ∧ (∀ i, i ≠ 26 → s.2.2 i = u.2.2 i) ∧ (∀ i, (i < 4096 * l ∨ 4096 * l + (j + 1) ≤ i) → s.ar 26 i = u.ar 26 i) ∧ ∀ k, k < j + 1 → s.ar 26 (4096 * l + k) = zjn (fun k => u.ar 26 (4096 * l + k)) (fun k => u.ar 1 (4096 * c + k)) (fun k => u.ar 26 (4096 * (l + 1) + k)) k := fun hx => by
    refine ⟨p1, p2, fun i hi => p3 i (by omega), fun k hk => ?_⟩
    by_cases e : k = j
    · rw [e, hx]
    · exact p4 k (by omega)
  unfold st_M_joinBase
  rw [r1, r2, r3]
  by_cases c1 : u.ar 26 (4096 * l + j) = u.ar 26 (4096 * (l + 1) + j)
  · rw [if_pos c1]
    exact put _ (by unfold zjn; rw [if_pos c1])
  · rw [if_neg c1]
    by_cases c2 : u.ar 1 (4096 * c + j) = u.ar 26 (4096 * (l + 1) + j)
    · rw [if_pos c2]
      exact keep (by unfold zjn; rw [if_neg c1, if_pos c2, r1])
    · rw [if_neg c2]
      by_cases c3 : u.ar 1 (4096 * c + j) = u.ar 26 (4096 * l + j)
      · rw [if_pos c3]
        exact keep (by unfold zjn; rw [if_neg c1, if_neg c2, if_pos c3, r1])
      · rw [if_neg c3]
        exact put _ (by unfold zjn; rw [if_neg c1, if_neg c2, if_neg c3])
set_option maxRecDepth 100000 in
theorem z_joinB4 (u : zU) (l c : Nat) : (t_M_joinBase u l c).2.1 = u.2.1 ∧ (∀ i, i ≠ 26 → (t_M_joinBase u l c).2.2 i = u.2.2 i) ∧ (∀ i, (i < 4096 * l ∨ 4096 * l + 4096 ≤ i) → (t_M_joinBase u l c).ar 26 i = u.ar 26 i) ∧ ∀ k, k < 4096 → (t_M_joinBase u l c).ar 26 (4096 * l + k) = zjn (fun k => u.ar 26 (4096 * l + k)) (fun k => u.ar 1 (4096 * c + k)) (fun k => u.ar 26 (4096 * (l + 1) + k)) k := by
  unfold t_M_joinBase
  exact z_joinB u l c 4096 (Nat.le_refl _)
/-- there is a nearest -/
theorem zHi.zero {u : zU} {cm : Nat} {A : Nat → Int32} (h : zHi u cm A) : ∀ c, c < cm → zbt (A c) 0 = true := by
  intro c
  induction c using Nat.strongRecOn with
  | ind c ih =>
    intro hc
    cases c with
    | zero => exact h.self hc
    | succ c =>
      obtain ⟨p, x, hp, -, e2, -⟩ := h.2.2.2 (c + 1) (by omega) hc
      rw [e2, zbt_or, zbt_or, ih p hp (by omega)]
      simp
theorem zHi.some {u : zU} {cm : Nat} {A : Nat → Int32} (h : zHi u cm A) {s : Int32} {c n0 : Nat} (hc : c < cm) (hn0 : n0 < cm) (hs : zbt s n0 = true) : ∃ k, zNe cm A s c k := by
  have key : ∀ n, n ≤ cm → (∃ k, k < n ∧ zBo cm A s c k ∧ ∀ i, k < i → i < n → ¬ zBo cm A s c i) ∨ ∀ i, i < n → ¬ zBo cm A s c i := by
    intro n
    induction n with
    | zero => intro _; exact Or.inr (fun i hi => absurd hi (Nat.not_lt_zero _))
    | succ n ih =>
      intro hn
      by_cases hb : zBo cm A s c n
      · exact Or.inl ⟨n, by omega, hb, fun i h1 h2 => by omega⟩
      · rcases ih (by omega) with ⟨k, k1, k2, k3⟩ | hno
        · refine Or.inl ⟨k, by omega, k2, fun i h1 h2 => ?_⟩
          by_cases e : i = n
          · rw [e]; exact hb
          · exact k3 i h1 (by omega)
        · refine Or.inr (fun i hi => ?_)
          by_cases e : i = n
          · rw [e]; exact hb
          · exact hno i (by omega)
  rcases key cm (Nat.le_refl _) with ⟨k, k1, k2, k3⟩ | hno
  · exact ⟨k, k1, k2, fun i h1 h2 h3 => absurd h3 (k3 i h1 h2)⟩
  · exact absurd ⟨⟨n0, hn0, hs, h.zero n0 hn0⟩, h.zero c hc⟩ (hno 0 (by have := h.1; omega))
set_option maxRecDepth 100000 in
/-- the reference's loop from the beginning of a level to its end -/
theorem zB_all {g : zGt} {X : zX} {d : Nat} {Post : zRes → zG → Prop} (hX : zOK g X b_M_base y_M_base none [] 6 d 0 0) (hd : 4 ≤ d) {m : Nat} {p q : Int32} {cm : Nat} {A : Nat → Int32} {u0 : zU} (hH : zHi u0 cm A) (hc0 : u0.i 6 = nI cm) :
    ∀ (f l : Nat) (s : Int32) (c : Nat), c < f → l + c < 24 → c < cm → (∀ k, k < 32 → zbt s k = true → k < cm ∧ ¬ zbt (A k) c = true) → (∃ k, k < 32 ∧ zbt s k = true) →
    ∀ (u : zU) (G : zG), zMv u m G → zKp u0 u → u.ar 24 l = s_M_nearestOf u0 s (nI c) cm → u.ar 25 l = 0 →
    (∀ (u2 : zU) (G2 : zG), zMv u2 m G2 → zMf u m G G2 → u2.1 = u.1 → zKp u0 u2 → (∀ i, i < l → u2.ar 24 i = u.ar 24 i ∧ u2.ar 25 i = u.ar 25 i) → (∀ i, i < 4096 * l → u2.ar 26 i = u.ar 26 i) →
      (∀ k, k < 4096 → u2.ar 26 (4096 * l + k) = (zbs (fun n k => u0.ar 1 (4096 * n + k)) (fun s c => s_M_nearestOf u0 s (nI c) cm) cm f s c).1 k) → s_M_next (u2.ar 24 l) (u2.ar 25 l) = nI 24 →
      zw g X Post 11 [some (.ref m), some (.int p), some (.int q), some (.int (nI l)), none, none] [] G2 0 0) →
    zw g X Post 11 [some (.ref m), some (.int p), some (.int q), some (.int (nI l)), none, none] [] G 0 0 := by
  have hm1 := hH.1
  have hm2 := hH.2.1
  intro f
  induction f with
  | zero => intro l s c hcf; omega
  | succ f ih =>
    intro l s c hcf hl24 hcm hs hsn u G hU hK hW hD kk
    have hsb : ∀ k, k < 32 → zbt s k = true → k < cm := fun k hk hb => (hs k hk hb).1
    have hNe : ∀ k, k < 32 → (zbt (s_M_nearestOf u0 s (nI c) cm) k = true ↔ zNe cm A s c k) := fun k hk => hH.near hsb hcm hk
    have hWb : ∀ k, k < 32 → zbt (s_M_nearestOf u0 s (nI c) cm) k = true → k < c := fun k hk hb => by
      obtain ⟨h1, ⟨⟨n, n1, n2, n3⟩, h3⟩, -⟩ := (hNe k hk).mp hb
      have h4 := hH.le c hcm k hk h3
      by_cases e : k = c
      · rw [e] at n3
        exact absurd n3 (hs n (by omega) n2).2
      · omega
    generalize hWg : s_M_nearestOf u0 s (nI c) cm = W at hW hNe hWb
    obtain ⟨stp, hstp⟩ : ∃ z, z = zbst (fun n k => u0.ar 1 (4096 * n + k)) (zbs (fun n k => u0.ar 1 (4096 * n + k)) (fun s c => s_M_nearestOf u0 s (nI c) cm) cm f) W := ⟨_, rfl⟩
    have hst : ∀ (n : Nat) (s : Int32 × (Nat → Int32) × Nat), stp n s = if zbt W n = true then (s.1 ||| (1 <<< (nI n &&& 31)), (if s.1 = 0 then (fun k => u0.ar 1 (4096 * n + k)) else zjn s.2.1 (fun k => u0.ar 1 (4096 * n + k)) (zbs (fun n k => u0.ar 1 (4096 * n + k)) (fun s c => s_M_nearestOf u0 s (nI c) cm) cm f s.1 n).1), if s.1 = 0 then s.2.2 else max s.2.2 ((zbs (fun n k => u0.ar 1 (4096 * n + k)) (fun s c => s_M_nearestOf u0 s (nI c) cm) cm f s.1 n).2 + 1)) else s := fun n s => by
      rw [hstp]
      rfl
    have hDb : ∀ n, n ≤ cm → ∀ k, k < 32 → (zbt (zfor n stp (0, (fun _ => 0), 1)).1 k = true ↔ k < n ∧ zbt W k = true) := by
      rw [hstp]
      exact zbst_D _ _ W _ _ hm2
    have hlast : (zbs (fun n k => u0.ar 1 (4096 * n + k)) (fun s c => s_M_nearestOf u0 s (nI c) cm) cm (f + 1) s c).1 = (zfor cm stp (0, (fun _ => 0), 1)).2.1 := by
      rw [hstp, ← hWg]
      rfl
    rw [hlast] at kk
    have main : ∀ n, n ≤ cm → ∀ (u1 : zU) (G1 : zG), zMv u1 m G1 → zMf u m G G1 → u1.1 = u.1 → zKp u0 u1 → (∀ i, i < l → u1.ar 24 i = u.ar 24 i ∧ u1.ar 25 i = u.ar 25 i) → (∀ i, i < 4096 * l → u1.ar 26 i = u.ar 26 i) →
        u1.ar 24 l = W → u1.ar 25 l = (zfor n stp (0, (fun _ => 0), 1)).1 → (¬ (zfor n stp (0, (fun _ => 0), 1)).1 = 0 → ∀ k, k < 4096 → u1.ar 26 (4096 * l + k) = (zfor n stp (0, (fun _ => 0), 1)).2.1 k) →
        zw g X Post 11 [some (.ref m), some (.int p), some (.int q), some (.int (nI l)), none, none] [] G1 0 0 := by
      refine zup cm (fun n hn ihn => ?_)
      intro u1 G1 hU1 hF1 hE1 hK1 hlo hlr hW1 hD1 hR1
      have hc1 : u1.i 6 = nI cm := (congrFun hK1.1 6).trans hc0
      by_cases hlt : n < cm
      · by_cases hb : zbt W n = true
        · have hnc : n < c := hWb n (by omega) hb
          have hDn : zbt (zfor n stp (0, (fun _ => 0), 1)).1 n = false := by
            cases hq : zbt (zfor n stp (0, (fun _ => 0), 1)).1 n
            · rfl
            · have := ((hDb n hn n (by omega)).mp hq).1
              omega
          have hnx : s_M_next W (zfor n stp (0, (fun _ => 0), 1)).1 = nI n := zNx (by omega) (fun i hi hbi => (hDb n hn i (by omega)).mpr ⟨hi, hbi⟩) (fun _ => ⟨hb, hDn⟩)
          have hnext : zfor (n + 1) stp (0, (fun _ => 0), 1) = ((zfor n stp (0, (fun _ => 0), 1)).1 ||| (1 <<< (nI n &&& 31)), (if (zfor n stp (0, (fun _ => 0), 1)).1 = 0 then (fun k => u0.ar 1 (4096 * n + k)) else zjn (zfor n stp (0, (fun _ => 0), 1)).2.1 (fun k => u0.ar 1 (4096 * n + k)) (zbs (fun n k => u0.ar 1 (4096 * n + k)) (fun s c => s_M_nearestOf u0 s (nI c) cm) cm f (zfor n stp (0, (fun _ => 0), 1)).1 n).1), if (zfor n stp (0, (fun _ => 0), 1)).1 = 0 then (zfor n stp (0, (fun _ => 0), 1)).2.2 else max (zfor n stp (0, (fun _ => 0), 1)).2.2 ((zbs (fun n k => u0.ar 1 (4096 * n + k)) (fun s c => s_M_nearestOf u0 s (nI c) cm) cm f (zfor n stp (0, (fun _ => 0), 1)).1 n).2 + 1)) := by
            rw [zfor_s, hst, if_pos hb]
          have ihn' := ihn hlt
          rw [hnext] at ihn'
          generalize hDg : zfor n stp (0, (fun _ => 0), 1) = S at hnx hD1 hR1 hDn ihn'
          have hDb' := hDb n hn
          rw [hDg] at hDb'
          by_cases h0 : S.1 = 0
          · refine zB_copy hX hd hU1 cm hc1 hm1 hm2 l (by omega) W S.1 hW1 hD1 n (by omega) hnx h0 (fun u2 G2 e2 hU2 hF2 hE2 hI2 => ?_)
            obtain ⟨b1, b2, b3, b4⟩ := z_bcopy u1 l n 4096 (Nat.le_refl _)
            have a25 : (zfor 4096 (st_M_bcopy l n) u1).ar 25 = u1.ar 25 := b2 25 (by decide)
            refine ihn' u2 G2 hU2 (hF1.tr hF2 hE1) (hE2.trans hE1) ⟨hI2.trans hK1.1, fun j j1 j2 j3 => ?_⟩ (fun i hi => ?_) (fun i hi => ?_) ?_ ?_ (fun _ k hk => ?_)
            · rw [e2, zuaj _ _ j2, b2 j j3]
              exact hK1.2 j j1 j2 j3
            · rw [e2]
              refine ⟨(congrFun ((zuaj _ _ (by decide)).trans (b2 24 (by decide))) i).trans (hlo i hi).1, ?_⟩
              rw [zua_at, pk_un (by omega), a25]
              exact (hlo i hi).2
            · rw [e2]
              exact (congrFun (zuaj _ _ (by decide)) i).trans ((b3 i (Or.inl hi)).trans (hlr i hi))
            · rw [e2]
              exact (congrFun ((zuaj _ _ (by decide)).trans (b2 24 (by decide))) l).trans hW1
            · rw [e2, zua_at, pk_us, a25, hD1]
            · rw [e2, if_pos h0]
              refine (congrFun (zuaj _ _ (by decide)) _).trans ((b4 k hk).trans ?_)
              exact congrFun (hK1.2 1 (by decide) (by decide) (by decide)) _
          · refine zB_push hX hd hU1 cm hc1 hm1 hm2 l (by omega) W S.1 hW1 hD1 n (by omega) hnx h0 (fun u2 G2 e2 hU2 hF2 hE2 hI2 => ?_)
            have hk2 : zKp u0 u2 := ⟨hI2.trans hK1.1, fun j j1 j2 j3 => by
              rw [e2]
              unfold t_M_beginBase
              rw [zuaj _ _ j2, zuaj _ _ j1]
              exact hK1.2 j j1 j2 j3⟩
            have w2 : ∀ i, u2.ar 24 i = if i = l + 1 then s_M_nearestOf u0 S.1 (nI n) cm else u1.ar 24 i := fun i => by
              rw [e2]
              unfold t_M_beginBase
              refine (congrFun (zuaj _ _ (by decide)) i).trans ?_
              rw [show (zua u1 24 (upd (u1.ar 24) (l + 1) (s_M_nearestOf u1 S.1 (nI n) cm))).2.2 24 i = upd (u1.ar 24) (l + 1) (s_M_nearestOf u1 S.1 (nI n) cm) i from zua_at _ _ _ _, z_near_c (hK1.2 4 (by decide) (by decide) (by decide)) (hK1.2 5 (by decide) (by decide) (by decide))]
              rfl
            have d2 : ∀ i, u2.ar 25 i = if i = l + 1 then 0 else u1.ar 25 i := fun i => by
              rw [e2]
              unfold t_M_beginBase
              rw [zua_at]
              rfl
            have r2 : ∀ i, u2.ar 26 i = u1.ar 26 i := fun i => by
              rw [e2]
              unfold t_M_beginBase
              exact congrFun ((zuaj _ _ (by decide)).trans (zuaj _ _ (by decide))) i
            refine ih (l + 1) S.1 n (by omega) (by omega) (by omega) (fun k hk hbk => ?_) (zne0 h0) u2 G2 hU2 hk2 (by rw [w2, if_pos rfl]) (by rw [d2, if_pos rfl]) (fun u3 G3 hU3 hF3 hE3 hK3 hlo3 hlr3 hR3 hN3 => ?_)
            · have := ((hDb' k hk).mp hbk).1
              exact ⟨by omega, fun q => by have := hH.le k (by omega) n (by omega) q; omega⟩
            · have w3 : u3.ar 24 l = W := by rw [(hlo3 l (by omega)).1, w2, if_neg (by omega)]; exact hW1
              have d3 : u3.ar 25 l = S.1 := by rw [(hlo3 l (by omega)).2, d2, if_neg (by omega)]; exact hD1
              refine zB_pop hX hd hU3 cm ((congrFun hK3.1 6).trans hc0) hm1 hm2 l (by omega) _ _ rfl rfl W S.1 w3 d3 n (by omega) hN3 hnx (fun u4 G4 e4 hU4 hF4 hE4 hI4 => ?_)
              obtain ⟨b1, b2, b3, b4⟩ := z_joinB4 u3 l n
              have a25 : (t_M_joinBase u3 l n).ar 25 = u3.ar 25 := b2 25 (by decide)
              have hE31 : u3.1 = u.1 := hE3.trans (hE2.trans hE1)
              refine ihn' u4 G4 hU4 ((hF1.tr hF2 hE1).tr (hF3.tr hF4 hE3) (hE2.trans hE1)) (hE4.trans hE31) ⟨hI4.trans hK3.1, fun j j1 j2 j3 => ?_⟩ (fun i hi => ?_) (fun i hi => ?_) ?_ ?_ (fun _ k hk => ?_)
              · rw [e4, zuaj _ _ j2]
                exact (b2 j j3).trans (hK3.2 j j1 j2 j3)
              · rw [e4]
                refine ⟨(congrFun ((zuaj _ _ (by decide)).trans (b2 24 (by decide))) i).trans ?_, ?_⟩
                · show u3.ar 24 i = _
                  rw [(hlo3 i (by omega)).1, w2, if_neg (by omega)]
                  exact (hlo i hi).1
                · rw [zua_at, pk_un (by omega), a25, (hlo3 i (by omega)).2, d2, if_neg (by omega)]
                  exact (hlo i hi).2
              · rw [e4]
                refine (congrFun (zuaj _ _ (by decide)) i).trans ((b3 i (Or.inl hi)).trans ?_)
                rw [hlr3 i (by omega), r2]
                exact hlr i hi
              · rw [e4]
                exact (congrFun ((zuaj _ _ (by decide)).trans (b2 24 (by decide))) l).trans w3
              · rw [e4, zua_at, pk_us, a25, d3]
              · rw [e4, if_neg h0]
                refine (congrFun (zuaj _ _ (by decide)) _).trans ((b4 k hk).trans ?_)
                have x1 : u3.ar 26 (4096 * l + k) = S.2.1 k := by rw [hlr3 _ (by omega), r2]; exact hR1 h0 k hk
                have x2 : u3.ar 1 (4096 * n + k) = u0.ar 1 (4096 * n + k) := congrFun (hK3.2 1 (by decide) (by decide) (by decide)) _
                have x3 := hR3 k hk
                show zjn _ _ _ k = zjn S.2.1 (fun k => u0.ar 1 (4096 * n + k)) (zbs (fun n k => u0.ar 1 (4096 * n + k)) (fun s c => s_M_nearestOf u0 s (nI c) cm) cm f S.1 n).1 k
                exact zjn_c x1 x2 x3
        · have hnext : zfor (n + 1) stp (0, (fun _ => 0), 1) = zfor n stp (0, (fun _ => 0), 1) := by
            rw [zfor_s, hst, if_neg hb]
          have ihn' := ihn hlt
          rw [hnext] at ihn'
          exact ihn' u1 G1 hU1 hF1 hE1 hK1 hlo hlr hW1 hD1 hR1
      · have e : n = cm := by omega
        subst e
        have hne : ¬ (zfor n stp (0, (fun _ => 0), 1)).1 = 0 := fun q => by
          obtain ⟨k0, hk0, hb0⟩ := hsn
          obtain ⟨k, hk⟩ := hH.some (A := A) hcm (hs k0 hk0 hb0).1 hb0
          have h9 : zbt (zfor n stp (0, (fun _ => 0), 1)).1 k = true := (hDb n hn k (by have := hk.1; omega)).mpr ⟨hk.1, (hNe k (by have := hk.1; omega)).mpr hk⟩
          rw [q, zbt_0] at h9
          cases h9
        refine kk u1 G1 hU1 hF1 hE1 hK1 hlo hlr (hR1 hne) ?_
        rw [hW1, hD1]
        exact zNx (Nat.le_refl _) (fun i hi hbi => (hDb n hn i (by omega)).mpr ⟨by have := hWb i (by omega) hbi; omega, hbi⟩) (fun h => absurd h (Nat.lt_irrefl _))
    exact main 0 (Nat.zero_le _) u G hU zMf.rf rfl hK (fun _ _ => ⟨rfl, rfl⟩) (fun _ _ => rfl) hW hD (fun h => absurd rfl h)
theorem c_M_base (g : zGt) (d : Nat) (hd : 5 ≤ d) (G : zG) (u : zU) (m : Nat) (h : zMv u m G) (a c cm : Nat) (A : Nat → Int32) (hH : zHi u cm A) (hc : u.i 6 = nI cm) (ha : a < cm) (hcc : c < cm) (hac : ¬ zbt (A a) c = true) :
    zMet g y_M_base b_M_base 6 none [] d 0 0 [.ref m, .int (nI a), .int (nI c)] G (zBq u m G (zbs (fun n k => u.ar 1 (4096 * n + k)) (fun s c => s_M_nearestOf u s (nI c) cm) cm 24 (1 <<< (nI a &&& 31)) c).1) := by
  have h1 := hH.1
  have h2 := hH.2.1
  refine zMet.of (by decide) (Nat.le_of_ble_eq_true rfl) rfl (fun X hX => ?_)
  refine zr_iconst (v := 0) hX rfl d_M_base_0 ?_
  refine zs_istore_n hX (by decide) rfl d_M_base_1 ?_
  refine zr_aload_n hX rfl d_M_base_2 ?_
  refine zr_iconst (v := 0) hX rfl d_M_base_3 ?_
  refine zr_iconst (v := 1) hX rfl d_M_base_4 ?_
  refine zr_iload_n hX rfl d_M_base_5 ?_
  refine zr_ishl hX d_M_base_6 ?_
  refine zr_iload_n hX rfl d_M_base_7 ?_
  refine zr_mV0 hX (c_M_beginBase g (d - 1) (by omega) _ u m h 0 (1 <<< (nI a &&& 31)) (nI c) cm hc h1 h2 (by omega)) l_M_149 im_M_beginBase se_M_beginBase f_M_beginBase rfl (Nat.le_of_ble_eq_true rfl) (by omega) (Nat.zero_le _) (Nat.zero_le _) d_M_base_8 (Nat.zero_le _) (Nat.zero_le _) (zMv.m h) (fun G8 hk8 fk8 ek8 => ?_)
  have bb : ∀ k, k < 32 → zbt (1 <<< (nI a &&& 31)) k = true → k = a := fun k hk hb => by
    rw [zbt_1 (by omega) hk] at hb
    exact of_decide_eq_true hb
  have w8 : (t_M_beginBase u 0 (1 <<< (nI a &&& 31)) (nI c) cm).ar 24 0 = s_M_nearestOf u (1 <<< (nI a &&& 31)) (nI c) cm := by
    unfold t_M_beginBase
    exact (congrFun (zuaj _ _ (by decide)) 0).trans ((zua_at _ _ _ _).trans pk_us)
  have d8 : (t_M_beginBase u 0 (1 <<< (nI a &&& 31)) (nI c) cm).ar 25 0 = 0 := by
    unfold t_M_beginBase
    exact (zua_at _ _ _ _).trans pk_us
  have k8 : zKp u (t_M_beginBase u 0 (1 <<< (nI a &&& 31)) (nI c) cm) := ⟨rfl, fun j j1 j2 _ => (zuaj _ _ j2).trans (zuaj _ _ j1)⟩
  refine zB_all hX (by omega) hH hc 24 0 (1 <<< (nI a &&& 31)) c (by omega) (by omega) hcc (fun k hk hb => by rw [bb k hk hb]; exact ⟨ha, hac⟩) ⟨a, by omega, by rw [zbt_1 (by omega) (by omega)]; exact decide_eq_true rfl⟩ _ _ hk8 k8 w8 d8 (fun u2 G2 hU2 hF2 hE2 hK2 hlo hlr hR hN => ?_)
  refine zB_ret hX (by omega) hU2 cm ((congrFun hK2.1 6).trans hc) h1 h2 _ _ rfl rfl hN (fun G3 hU3 hF3 => ?_)
  have e2 : u2.1 = u.1 := hE2.trans ek8
  refine ⟨rfl, u2, hU3, (fk8.tr hF2 ek8).tr hF3 e2, e2, hK2.1, hK2.2, fun k hk => ?_⟩
  have := hR k hk
  rw [Nat.mul_zero, Nat.zero_add] at this
  exact this
