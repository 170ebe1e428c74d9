/-! commit -/
theorem zEe.clm {b : Nat} {u : zU} {f0 : Nat → Int64} (h : zEe b u u f0) (hb : b < 4) {cm : Nat} (hm : cm < 24) : ∀ j, j ≤ 4096 → ∀ f : Nat → Int64, (∀ k, k < 4096 → f k = if k < j then zclS cm (f0 k) else f0 k) → zEe b u (zfor j (st_M_commit b cm) u) f := by
  intro j
  induction j with
  | zero => intro _ f hf; exact h.cg (fun k hk => by rw [hf k hk, if_neg (Nat.not_lt_zero _)])
  | succ j ih =>
    intro hj f hf
    have hE := ih (by omega) (fun k => if k < j then zclS cm (f0 k) else f0 k) (fun _ _ => rfl)
    have hC := hE.claim hb (i := j) (by omega) hm
    rw [zfor_s]
    refine hC.cg (fun k hk => ?_)
    rw [hf k hk]
    by_cases e : k = j
    · rw [e, pk_uLs, if_pos (by omega), if_neg (Nat.lt_irrefl _)]
    · rw [pk_uLn e]
      by_cases c : k < j
      · rw [if_pos c, if_pos (by omega)]
      · rw [if_neg c, if_neg (by omega)]
/-- what a branch has not settled -/
theorem c_hasUns (g : zGt) (d : Nat) (G : zG) (w : zW) (u : zU) (cm : Nat) (hH : zHp w G) (p qb e9 : Nat) (hq3 : w.o 3 p = some qb) (ht : zRt w u cm p) (he : u.ar 14 p = nI e9) (hl : e9 ≤ 4096) : zMet g y_B_hasUnsettled b_B_hasUnsettled 1 (some .boolean) [] d 0 0 [.ref qb] G (zD1 (.int (if zfor e9 (st_M_unsettled u p) 0 ≤ 0 then 0 else 1)) G) := by
  obtain ⟨e, e1, e2, e3, e4⟩ := ht.2.2.2.2
  have ee : e = e9 := (nI_eq (by omega) (by omega)).mp (e2.symm.trans he)
  subst ee
  cases hk : w.o 5 p with
  | none =>
    have e0 := e3 hk
    subst e0
    exact c_B_hasUnsettled_n g d G qb (w.a 4 p) (w.i 4 p) (w.i 5 p) (w.i 6 p) (hH.bmn hq3 hk)
  | some kq =>
    have h := c_B_hasUnsettled_k g d G qb (w.a 4 p) (w.i 4 p) (w.i 5 p) (w.i 6 p) kq (w.a 10 p) (w.a 11 p) (w.a 12 p) (w.a 13 p) (w.a 14 p) (w.i 7 p) (w.i 8 p) (hH.bmk hq3 hk) (hH.km hk)
    rw [(e4 kq hk).2.1] at h
    exact h
/-- the ancestors of what is being merged -/
theorem zancm {w : zW} {u t : zU} {cm p : Nat} (hR : zRl w u cm) (ht : zRt w u cm p) {w1 : zW} (hR1 : zRl w1 t cm) (h3 : w1.i 3 = w.i 3) : ∃ x, ((u.ar 9 p = (-1) ∧ x = 0) ∨ ∃ o, o < cm ∧ u.ar 9 p = nI o ∧ x = w.i 3 o) ∧ ∀ (g : zGt) (d : Nat) (G : zG), 1 ≤ d → zHp w1 G → zMet g y_S_ancestorsOf b_S_ancestorsOf 3 (some .int) [] d 0 0 [.ref (w1.a 0 0), .int (w.i 6 p)] G (zD1 (.int x) G) := by
  obtain ⟨hd, -, -, e | ⟨c, e, hc, -⟩⟩ := ht.2.2.1
  · refine ⟨0, Or.inl ⟨e, rfl⟩, fun g d G hd1 hH1 => ?_⟩
    rw [ht.2.1, e]
    refine c_S_ancestorsOf_0 g d hd1 G w1 t cm hH1 hR1 (-1) ?_
    unfold s_M_isCommit
    rw [if_pos (by decide)]
  · refine ⟨w.i 3 c, Or.inr ⟨c, hc, e, rfl⟩, fun g d G hd1 hH1 => ?_⟩
    rw [ht.2.1, e, ← h3]
    exact c_S_ancestorsOf_1 g d hd1 G w1 t cm hH1 hR1 c hc
/-- the state behind a commit, but for the branch -/
def zWcm (w : zW) (p cm q aa : Nat) (v1 v2 v3 : Int32) (f : Nat → Int64) : zW := zW0 (zWnc (zWf w 4 p f) cm q aa v1 v2 v3 f) (upd (w.i 0) 2 (nI (cm + 1)))
section ZCM
variable {w : zW} {p cm q aa : Nat} {v1 v2 v3 : Int32} {f : Nat → Int64}
theorem zWcm_o (k j : Nat) : (zWcm w p cm q aa v1 v2 v3 f).o k j = if k = 1 ∧ j = cm then some q else w.o k j := rfl
theorem zWcm_i0 : (zWcm w p cm q aa v1 v2 v3 f).i 0 = upd (w.i 0) 2 (nI (cm + 1)) := va_up_self (zWnc (zWf w 4 p f) cm q aa v1 v2 v3 f).i 0 (upd (w.i 0) 2 (nI (cm + 1)))
theorem zWcm_i (k j : Nat) (hk : k ≠ 0) (h : ¬ (j = cm ∧ 1 ≤ k ∧ k ≤ 3)) : (zWcm w p cm q aa v1 v2 v3 f).i k j = w.i k j := by
  show va_up (zWnc (zWf w 4 p f) cm q aa v1 v2 v3 f).i 0 (upd (w.i 0) 2 (nI (cm + 1))) k j = _
  rw [va_up_ne _ _ hk]
  exact zWnc_i (zWf w 4 p f) cm q aa v1 v2 v3 f k j (by omega)
theorem zWcm_i1 : (zWcm w p cm q aa v1 v2 v3 f).i 1 cm = v1 := by
  show va_up (zWnc (zWf w 4 p f) cm q aa v1 v2 v3 f).i 0 (upd (w.i 0) 2 (nI (cm + 1))) 1 cm = _
  rw [va_up_ne _ _ (by decide)]
  exact zWnc_i0 (zWf w 4 p f) cm q aa v1 v2 v3 f
theorem zWcm_i2 : (zWcm w p cm q aa v1 v2 v3 f).i 2 cm = v2 := by
  show va_up (zWnc (zWf w 4 p f) cm q aa v1 v2 v3 f).i 0 (upd (w.i 0) 2 (nI (cm + 1))) 2 cm = _
  rw [va_up_ne _ _ (by decide)]
  exact zWnc_i1 (zWf w 4 p f) cm q aa v1 v2 v3 f
theorem zWcm_i3 : (zWcm w p cm q aa v1 v2 v3 f).i 3 cm = v3 := by
  show va_up (zWnc (zWf w 4 p f) cm q aa v1 v2 v3 f).i 0 (upd (w.i 0) 2 (nI (cm + 1))) 3 cm = _
  rw [va_up_ne _ _ (by decide)]
  exact zWnc_i2 (zWf w 4 p f) cm q aa v1 v2 v3 f
theorem zWcm_f (a b : Nat) : (zWcm w p cm q aa v1 v2 v3 f).f a b = if a = 2 ∧ b = cm then f else if a = 4 ∧ b = p then f else w.f a b := rfl
theorem zWcm_a (k j : Nat) (h : ¬ (k = 2 ∧ j = cm)) : (zWcm w p cm q aa v1 v2 v3 f).a k j = w.a k j := zWnc_a (zWf w 4 p f) cm q aa v1 v2 v3 f k j (by omega)
theorem zHp.cme {G : zG} (hH : zHp w G) {qb : Nat} (hq3 : w.o 3 p = some qb) (hn1 : zput G (w.a 4 p) (zJ 4096 f) q = none) (hn2 : zput (zput G (w.a 4 p) (zJ 4096 f)) q (zO 1 [.int 0, .int 0, .int 0, .null]) aa = none) :
    zHp (zWcm w p cm q aa v1 v2 v3 f) (zput (zput (zput (zput (zput (zput G (w.a 4 p) (zJ 4096 f)) q (zO 1 [.int 0, .int 0, .int 0, .null])) aa (zJ 4096 f)) q (zO 1 [.int v1, .int v2, .int v3, .ref aa])) (w.a 9 1) (zR 3 24 (va_up (w.o 1) cm (some q)))) (w.a 0 0) (zO 0 ((zS (w.a 9) (w.i 0) (va_rf (w.o 8 0))).set 2 (.int (nI (cm + 1)))))) ∧
    zFr w G (zWcm w p cm q aa v1 v2 v3 f) (zput (zput (zput (zput (zput (zput G (w.a 4 p) (zJ 4096 f)) q (zO 1 [.int 0, .int 0, .int 0, .null])) aa (zJ 4096 f)) q (zO 1 [.int v1, .int v2, .int v3, .ref aa])) (w.a 9 1) (zR 3 24 (va_up (w.o 1) cm (some q)))) (w.a 0 0) (zO 0 ((zS (w.a 9) (w.i 0) (va_rf (w.o 8 0))).set 2 (.int (nI (cm + 1)))))) := by
  have h1 := hH.wf4 hq3 f
  have f1 : zFr w G (zWf w 4 p f) (zput G (w.a 4 p) (zJ 4096 f)) := zFr.put 4 p (zmp hq3) (zAd_f _ _ _ _) _ rfl
  obtain ⟨ne, ha0⟩ := zpn hn2
  have nb : w.a 9 1 ≠ q := zfr hn1 h1.co
  have nc : w.a 9 1 ≠ aa := zfr ha0 h1.co
  obtain ⟨h2, f2⟩ := h1.nc cm q aa v1 v2 v3 f hn1 ha0 (Ne.symm ne) (G1 := zput (zput (zput (zput (zput G (w.a 4 p) (zJ 4096 f)) q (zO 1 [.int 0, .int 0, .int 0, .null])) aa (zJ 4096 f)) q (zO 1 [.int v1, .int v2, .int v3, .ref aa])) (w.a 9 1) (zR 3 24 (va_up (w.o 1) cm (some q)))) ((zput_n (Ne.symm nb)).trans (zput_s _ _ _)) ((zput_n (Ne.symm nc)).trans ((zput_n ne).trans (zput_s _ _ _))) (zput_s _ _ _) (fun r r1 r2 r3 => (zput_n r3).trans ((zput_n r1).trans ((zput_n r2).trans (zput_n r1))))
  have h3 := h2.w0 (upd (w.i 0) 2 (nI (cm + 1)))
  have f3 := (f1.tr f2).tr (zFr.put (w2 := zW0 (zWnc (zWf w 4 p f) cm q aa v1 v2 v3 f) (upd (w.i 0) 2 (nI (cm + 1)))) 0 0 (q := w.a 0 0) (G := zput (zput (zput (zput (zput G (w.a 4 p) (zJ 4096 f)) q (zO 1 [.int 0, .int 0, .int 0, .null])) aa (zJ 4096 f)) q (zO 1 [.int v1, .int v2, .int v3, .ref aa])) (w.a 9 1) (zR 3 24 (va_up (w.o 1) cm (some q)))) (congrArg some (zWnc_a (zWf w 4 p f) cm q aa v1 v2 v3 f 0 0 (by omega))) rfl (zO 0 ((zS (w.a 9) (w.i 0) (va_rf (w.o 8 0))).set 2 (.int (nI (cm + 1))))) rfl)
  have e9 : (zWnc (zWf w 4 p f) cm q aa v1 v2 v3 f).a 9 = w.a 9 := funext fun j => zWnc_a (zWf w 4 p f) cm q aa v1 v2 v3 f 9 j (by omega)
  have e0 : (zWnc (zWf w 4 p f) cm q aa v1 v2 v3 f).a 0 0 = w.a 0 0 := zWnc_a (zWf w 4 p f) cm q aa v1 v2 v3 f 0 0 (by omega)
  have e8 : (zWnc (zWf w 4 p f) cm q aa v1 v2 v3 f).o 8 0 = w.o 8 0 := zWnc_o (zWf w 4 p f) cm q aa v1 v2 v3 f 8 0 (by omega)
  rw [e9, e0, e8] at h3
  exact ⟨h3, f3⟩
end ZCM
theorem zcm_n {w : zW} {wm : Nat} {u : zU} {cm p q aa qb : Nat} {x9 : Int32} {f : Nat → Int64} {G : zG} (hI : zIn w wm u cm) (hH : zHp w G) (hp : p < 4) (hm : cm < 24) (h7 : ¬ u.ar 7 p = 0) (hq3 : w.o 3 p = some qb) (hk : w.o 5 p = none) (ht : zRt w u cm p) (hx : (u.ar 9 p = (-1) ∧ x9 = 0) ∨ ∃ o, o < cm ∧ u.ar 9 p = nI o ∧ x9 = w.i 3 o) (hf : ∀ k, k < 4096 → f k = zclS cm (w.f 4 p k)) (hn1 : zput G (w.a 4 p) (zJ 4096 f) q = none) (hn2 : zput (zput G (w.a 4 p) (zJ 4096 f)) q (zO 1 [.int 0, .int 0, .int 0, .null]) aa = none) :
    zSq (.inl (some (.int (s_M_commit u p cm)))) w wm (t_M_commit u p cm) (cm + 1) 2 4100 G (.inl (some (.int (nI cm)))) (zput (zput (zput (zput (zput (zput (zput G (w.a 4 p) (zJ 4096 f)) q (zO 1 [.int 0, .int 0, .int 0, .null])) aa (zJ 4096 f)) q (zO 1 [.int (w.i 5 p), .int (w.i 6 p), .int (((1 <<< (nI cm &&& 31)) ||| w.i 3 (w.i 5 p).toNatClampNeg) ||| x9), .ref aa])) (w.a 9 1) (zR 3 24 (va_up (w.o 1) cm (some q)))) (w.a 0 0) (zO 0 ((zS (w.a 9) (w.i 0) (va_rf (w.o 8 0))).set 2 (.int (nI (cm + 1)))))) qb (zO 2 [.ref (w.a 4 p), .int (w.i 4 p), .int (nI cm), .int (-1), .null])) := by
  obtain ⟨h1, f1⟩ := hH.cme (cm := cm) (v1 := w.i 5 p) (v2 := w.i 6 p) (v3 := ((1 <<< (nI cm &&& 31)) ||| w.i 3 (w.i 5 p).toNatClampNeg) ||| x9) hq3 hn1 hn2
  obtain ⟨V, hV⟩ : ∃ V, V = zWcm w p cm q aa (w.i 5 p) (w.i 6 p) (((1 <<< (nI cm &&& 31)) ||| w.i 3 (w.i 5 p).toNatClampNeg) ||| x9) f := ⟨_, rfl⟩
  have o3 : V.o 3 p = some qb := by rw [hV]; exact hq3
  have o5 : V.o 5 p = none := by rw [hV]; exact hk
  have a4 : V.a 4 p = w.a 4 p := by rw [hV]; exact zWcm_a 4 p (by omega)
  have vo : ∀ k j, V.o k j = if k = 1 ∧ j = cm then some q else w.o k j := fun k j => by rw [hV]; exact zWcm_o k j
  have vi : ∀ k j, k ≠ 0 → ¬ (j = cm ∧ 1 ≤ k ∧ k ≤ 3) → V.i k j = w.i k j := fun k j hk h => by rw [hV]; exact zWcm_i k j hk h
  have vf : ∀ a b, V.f a b = if a = 2 ∧ b = cm then f else if a = 4 ∧ b = p then f else w.f a b := fun a b => by rw [hV]; exact zWcm_f a b
  have v0 : V.i 0 = upd (w.i 0) 2 (nI (cm + 1)) := by rw [hV]; exact zWcm_i0
  have v1 : V.i 1 cm = w.i 5 p := by rw [hV]; exact zWcm_i1
  have v2 : V.i 2 cm = w.i 6 p := by rw [hV]; exact zWcm_i2
  have v3 : V.i 3 cm = ((1 <<< (nI cm &&& 31)) ||| w.i 3 (w.i 5 p).toNatClampNeg) ||| x9 := by rw [hV]; exact zWcm_i3
  have vn : V.n = w.n := by rw [hV]; rfl
  rw [← hV] at h1 f1
  have h2 := h1.w3 (b := p) (q := qb) o3 (w.i 4 p) (nI cm) (-1)
  have f2 := f1.tr (zFr.put (w2 := zW3 V p (w.i 4 p) (nI cm) (-1)) 3 p (q := qb) o3 rfl (zO 2 [.ref (w.a 4 p), .int (w.i 4 p), .int (nI cm), .int (-1), .null]) rfl)
  rw [a4, o5] at h2
  have wi : ∀ k j, ¬ (j = p ∧ 4 ≤ k ∧ k ≤ 6) → (zW3 V p (w.i 4 p) (nI cm) (-1)).i k j = V.i k j := fun k j h => zW3_n V _ _ _ h
  have hE0 : zEe p (zuc (zuc u 0 0) 6 (nI (cm + 1))) (zuc (zuc u 0 0) 6 (nI (cm + 1))) (w.f 4 p) := zEe.of hI.1.iv ht.2.2.2.1
  have hE := hE0.clm hp hm 4096 (Nat.le_refl _) f (fun k hk => by rw [hf k hk, if_pos hk])
  have hRl := hI.1.commit (w2 := zW3 V p (w.i 4 p) (nI cm) (-1)) (q := q) hp hm h7 rfl hE (fun j => by
      rw [wi 0 j (by omega), v0]
      by_cases e : j = 2
      · rw [if_pos e, e, pk_us]
      · rw [if_neg e, pk_un e]) (fun c => by
      rw [wi 1 c (by omega)]
      by_cases e : c = cm
      · rw [if_pos e, e]; exact v1
      · rw [if_neg e]; exact vi 1 c (by omega) (by omega)) (fun c => by
      rw [wi 2 c (by omega)]
      by_cases e : c = cm
      · rw [if_pos e, e]; exact v2
      · rw [if_neg e]; exact vi 2 c (by omega) (by omega)) x9 hx (fun c => by
      rw [wi 3 c (by omega)]
      by_cases e : c = cm
      · rw [if_pos e, e]; exact v3
      · rw [if_neg e]; exact vi 3 c (by omega) (by omega)) (fun c => by
      show V.o 1 c = _
      rw [vo]
      by_cases e : c = cm
      · rw [if_pos ⟨rfl, e⟩, if_pos e]
      · rw [if_neg (fun z => e z.2), if_neg e]) (funext fun b => by
      show V.o 3 b = _
      rw [vo, if_neg (by omega)]) (funext fun b => by
      show V.o 5 b = _
      rw [vo, if_neg (by omega)]) (funext fun b => by
      by_cases e : b = p
      · rw [e]; exact zW3_4 V p _ _ _
      · rw [wi 4 b (by omega)]; exact vi 4 b (by omega) (by omega)) (fun b => by
      by_cases e : b = p
      · rw [if_pos e, e]; exact zW3_5 V p _ _ _
      · rw [if_neg e, wi 5 b (by omega)]; exact vi 5 b (by omega) (by omega)) (fun b => by
      by_cases e : b = p
      · rw [if_pos e, e]; exact zW3_6 V p _ _ _
      · rw [if_neg e, wi 6 b (by omega)]; exact vi 6 b (by omega) (by omega)) (fun k hk9 b hb => by
      rw [wi k b (by omega)]; exact vi k b (by omega) (by omega)) (fun r hr => by
      rw [show (zW3 V p (w.i 4 p) (nI cm) (-1)).o 5 p = none from o5] at hr
      cases hr) (fun c hc => by
      show V.f 2 c = _
      rw [vf, if_neg (by omega), if_neg (by omega)]) (fun k hk9 => by
      show V.f 2 cm k = _
      rw [vf, if_pos ⟨rfl, rfl⟩]) (fun b => by
      show V.f 4 b = _
      rw [vf, if_neg (by omega)]
      by_cases e : b = p
      · rw [if_pos ⟨rfl, e⟩, if_pos e]
      · rw [if_neg (fun z => e z.2), if_neg e]) (fun k hk9 => by
      show V.n k = _
      rw [vn])
  exact zSq.of hI h2 f2 hRl (funext fun b => by show V.o 5 b = _; rw [vo, if_neg (by omega)]) (funext fun b => by show V.o 6 b = _; rw [vo, if_neg (by omega)]) (funext fun b => by show V.o 8 b = _; rw [vo, if_neg (by omega)]) (fun b hb => by rw [show (zW3 V p (w.i 4 p) (nI cm) (-1)).o 3 b = V.o 3 b from rfl, vo, if_neg (by omega)] at hb; exact hb) (by omega) (by omega)
theorem zcm_k {w : zW} {wm : Nat} {u : zU} {cm p q aa qb kq : Nat} {x9 : Int32} {f : Nat → Int64} {G : zG} (hI : zIn w wm u cm) (hH : zHp w G) (hp : p < 4) (hm : cm < 24) (h7 : ¬ u.ar 7 p = 0) (hq3 : w.o 3 p = some qb) (hk : w.o 5 p = some kq) (ht : zRt w u cm p) (hx : (u.ar 9 p = (-1) ∧ x9 = 0) ∨ ∃ o, o < cm ∧ u.ar 9 p = nI o ∧ x9 = w.i 3 o) (hf : ∀ k, k < 4096 → f k = zclS cm (w.f 4 p k)) (hn1 : zput G (w.a 4 p) (zJ 4096 f) q = none) (hn2 : zput (zput G (w.a 4 p) (zJ 4096 f)) q (zO 1 [.int 0, .int 0, .int 0, .null]) aa = none) :
    zSq (.inl (some (.int (s_M_commit u p cm)))) w wm (t_M_commit u p cm) (cm + 1) 2 4100 G (.inl (some (.int (nI cm)))) (zput (zput (zput (zput (zput (zput (zput (zput G (w.a 4 p) (zJ 4096 f)) q (zO 1 [.int 0, .int 0, .int 0, .null])) aa (zJ 4096 f)) q (zO 1 [.int (w.i 5 p), .int (w.i 6 p), .int (((1 <<< (nI cm &&& 31)) ||| w.i 3 (w.i 5 p).toNatClampNeg) ||| x9), .ref aa])) (w.a 9 1) (zR 3 24 (va_up (w.o 1) cm (some q)))) (w.a 0 0) (zO 0 ((zS (w.a 9) (w.i 0) (va_rf (w.o 8 0))).set 2 (.int (nI (cm + 1)))))) qb (zO 2 [.ref (w.a 4 p), .int (w.i 4 p), .int (nI cm), .int (-1), .ref kq])) kq (zO 3 [.ref (w.a 10 p), .ref (w.a 11 p), .ref (w.a 12 p), .ref (w.a 13 p), .ref (w.a 14 p), .int 0, .int 0])) := by
  obtain ⟨h1, f1⟩ := hH.cme (cm := cm) (v1 := w.i 5 p) (v2 := w.i 6 p) (v3 := ((1 <<< (nI cm &&& 31)) ||| w.i 3 (w.i 5 p).toNatClampNeg) ||| x9) hq3 hn1 hn2
  obtain ⟨V, hV⟩ : ∃ V, V = zWcm w p cm q aa (w.i 5 p) (w.i 6 p) (((1 <<< (nI cm &&& 31)) ||| w.i 3 (w.i 5 p).toNatClampNeg) ||| x9) f := ⟨_, rfl⟩
  have o3 : V.o 3 p = some qb := by rw [hV]; exact hq3
  have o5 : V.o 5 p = some kq := by rw [hV]; exact hk
  have a4 : V.a 4 p = w.a 4 p := by rw [hV]; exact zWcm_a 4 p (by omega)
  have vo : ∀ k j, V.o k j = if k = 1 ∧ j = cm then some q else w.o k j := fun k j => by rw [hV]; exact zWcm_o k j
  have vi : ∀ k j, k ≠ 0 → ¬ (j = cm ∧ 1 ≤ k ∧ k ≤ 3) → V.i k j = w.i k j := fun k j hk h => by rw [hV]; exact zWcm_i k j hk h
  have vf : ∀ a b, V.f a b = if a = 2 ∧ b = cm then f else if a = 4 ∧ b = p then f else w.f a b := fun a b => by rw [hV]; exact zWcm_f a b
  have v0 : V.i 0 = upd (w.i 0) 2 (nI (cm + 1)) := by rw [hV]; exact zWcm_i0
  have v1 : V.i 1 cm = w.i 5 p := by rw [hV]; exact zWcm_i1
  have v2 : V.i 2 cm = w.i 6 p := by rw [hV]; exact zWcm_i2
  have v3 : V.i 3 cm = ((1 <<< (nI cm &&& 31)) ||| w.i 3 (w.i 5 p).toNatClampNeg) ||| x9 := by rw [hV]; exact zWcm_i3
  have vn : V.n = w.n := by rw [hV]; rfl
  rw [← hV] at h1 f1
  have h2 := h1.w3 (b := p) (q := qb) o3 (w.i 4 p) (nI cm) (-1)
  have f2 := f1.tr (zFr.put (w2 := zW3 V p (w.i 4 p) (nI cm) (-1)) 3 p (q := qb) o3 rfl (zO 2 [.ref (w.a 4 p), .int (w.i 4 p), .int (nI cm), .int (-1), .ref kq]) rfl)
  rw [a4, o5] at h2
  have va : ∀ k, 10 ≤ k → V.a k p = w.a k p := fun k hk => by rw [hV]; exact zWcm_a k p (by omega)
  have h3 := h2.w5 (b := p) (q := kq) o5 0 0
  rw [show (zW3 V p (w.i 4 p) (nI cm) (-1)).a = V.a from rfl, va 10 (by omega), va 11 (by omega), va 12 (by omega), va 13 (by omega), va 14 (by omega)] at h3
  have f3 := f2.tr (zFr.put (w2 := zW5 (zW3 V p (w.i 4 p) (nI cm) (-1)) p 0 0) 5 p (q := kq) o5 rfl (zO 3 [.ref (w.a 10 p), .ref (w.a 11 p), .ref (w.a 12 p), .ref (w.a 13 p), .ref (w.a 14 p), .int 0, .int 0]) rfl)
  have wi : ∀ k j, ¬ (j = p ∧ 4 ≤ k ∧ k ≤ 8) → (zW5 (zW3 V p (w.i 4 p) (nI cm) (-1)) p 0 0).i k j = V.i k j := fun k j h => (zW5_n _ 0 0 (by omega)).trans (zW3_n V _ _ _ (by omega))
  have w5 : ∀ k, k < 7 → (zW5 (zW3 V p (w.i 4 p) (nI cm) (-1)) p 0 0).i k p = (zW3 V p (w.i 4 p) (nI cm) (-1)).i k p := fun k hk => zW5_n _ 0 0 (by omega)
  have hE0 : zEe p (zuc (zuc u 0 0) 6 (nI (cm + 1))) (zuc (zuc u 0 0) 6 (nI (cm + 1))) (w.f 4 p) := zEe.of hI.1.iv ht.2.2.2.1
  have hE := hE0.clm hp hm 4096 (Nat.le_refl _) f (fun k hk => by rw [hf k hk, if_pos hk])
  have hRl := hI.1.commit (w2 := zW5 (zW3 V p (w.i 4 p) (nI cm) (-1)) p 0 0) (q := q) hp hm h7 rfl hE (fun j => by
      rw [wi 0 j (by omega), v0]
      by_cases e : j = 2
      · rw [if_pos e, e, pk_us]
      · rw [if_neg e, pk_un e]) (fun c => by
      rw [wi 1 c (by omega)]
      by_cases e : c = cm
      · rw [if_pos e, e]; exact v1
      · rw [if_neg e]; exact vi 1 c (by omega) (by omega)) (fun c => by
      rw [wi 2 c (by omega)]
      by_cases e : c = cm
      · rw [if_pos e, e]; exact v2
      · rw [if_neg e]; exact vi 2 c (by omega) (by omega)) x9 hx (fun c => by
      rw [wi 3 c (by omega)]
      by_cases e : c = cm
      · rw [if_pos e, e]; exact v3
      · rw [if_neg e]; exact vi 3 c (by omega) (by omega)) (fun c => by
      show V.o 1 c = _
      rw [vo]
      by_cases e : c = cm
      · rw [if_pos ⟨rfl, e⟩, if_pos e]
      · rw [if_neg (fun z => e z.2), if_neg e]) (funext fun b => by
      show V.o 3 b = _
      rw [vo, if_neg (by omega)]) (funext fun b => by
      show V.o 5 b = _
      rw [vo, if_neg (by omega)]) (funext fun b => by
      by_cases e : b = p
      · rw [e, w5 4 (by omega)]; exact zW3_4 V p _ _ _
      · rw [wi 4 b (by omega)]; exact vi 4 b (by omega) (by omega)) (fun b => by
      by_cases e : b = p
      · rw [if_pos e, e, w5 5 (by omega)]; exact zW3_5 V p _ _ _
      · rw [if_neg e, wi 5 b (by omega)]; exact vi 5 b (by omega) (by omega)) (fun b => by
      by_cases e : b = p
      · rw [if_pos e, e, w5 6 (by omega)]; exact zW3_6 V p _ _ _
      · rw [if_neg e, wi 6 b (by omega)]; exact vi 6 b (by omega) (by omega)) (fun k hk9 b hb => by
      rw [wi k b (by omega)]; exact vi k b (by omega) (by omega)) (fun r hr => ⟨zW5_7 _ p 0 0, zW5_8 _ p 0 0⟩) (fun c hc => by
      show V.f 2 c = _
      rw [vf, if_neg (by omega), if_neg (by omega)]) (fun k hk9 => by
      show V.f 2 cm k = _
      rw [vf, if_pos ⟨rfl, rfl⟩]) (fun b => by
      show V.f 4 b = _
      rw [vf, if_neg (by omega)]
      by_cases e : b = p
      · rw [if_pos ⟨rfl, e⟩, if_pos e]
      · rw [if_neg (fun z => e z.2), if_neg e]) (fun k hk9 => by
      show V.n k = _
      rw [vn])
  exact zSq.of hI h3 f3 hRl (funext fun b => by show V.o 5 b = _; rw [vo, if_neg (by omega)]) (funext fun b => by show V.o 6 b = _; rw [vo, if_neg (by omega)]) (funext fun b => by show V.o 8 b = _; rw [vo, if_neg (by omega)]) (fun b hb => by rw [show (zW5 (zW3 V p (w.i 4 p) (nI cm) (-1)) p 0 0).o 3 b = V.o 3 b from rfl, vo, if_neg (by omega)] at hb; exact hb) (by omega) (by omega)
