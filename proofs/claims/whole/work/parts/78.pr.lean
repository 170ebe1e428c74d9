/-! class and reference, method by method -/
def zRx (v : Option Value) (code : Int32) (u2 u : zU) (m : Nat) (G : zG) : zRes → zG → Prop := fun r G1 => r = .inl v ∧ ∃ u3, zMv u3 m G1 ∧ zMf u m G G1 ∧ u3.1 = u.1 ∧ zUe u2 u3 ∧ u3.i 0 = code
theorem zRx.q {v : Option Value} {u2 u : zU} {m : Nat} {G : zG} {r : zRes} {G1 : zG} (h : zMq v u2 u m G r G1) {code : Int32} (hc : u2.i 0 = code) : zRx v code u2 u m G r G1 := by
  obtain ⟨h1, h2, h3, h4⟩ := h
  exact ⟨h1, u2, h2, h3, h4, zUe.rf u2, hc⟩
theorem zc00 (u : zU) (x : Int32) : (zuc u 0 x).i 0 = x := by
  show upd u.2.1 0 x 0 = x
  exact pk_us
theorem zRx.d {v : Value} {u : zU} {m : Nat} {G : zG} {r : zRes} {G1 : zG} (h : zMv u m G) (hr : zD1 v (zput G m (zO 6 ((zMl u.a u.i).set 0 (.int 0)))) r G1) : zRx (some v) 0 (zuc u 0 0) u m G r G1 := by
  obtain ⟨h1, h2⟩ := hr
  subst h2
  exact ⟨h1, zuc u 0 0, h.code 0, zMf.obj zMf.rf _, rfl, zUe.rf _, zc00 u 0⟩
theorem zRx.d1 {v : Value} {u : zU} {m : Nat} {G : zG} {r : zRes} {G1 : zG} (h : zMv u m G) (j : Nat) (hj : zMa j = true) (f : Nat → Int32) (hr : zD1 v (zput (zput G m (zO 6 ((zMl u.a u.i).set 0 (.int 0)))) (u.a j) (zMc j f)) r G1) : zRx (some v) 0 (zua (zuc u 0 0) j f) u m G r G1 := by
  obtain ⟨h1, h2⟩ := hr
  subst h2
  exact ⟨h1, zua (zuc u 0 0) j f, (h.code 0).arr j hj f, (zMf.obj zMf.rf _).arr j hj rfl _, rfl, zUe.rf _, zc00 u 0⟩
theorem zRx.d2 {v : Value} {u : zU} {m : Nat} {G : zG} {r : zRes} {G1 : zG} (h : zMv u m G) (j k : Nat) (hj : zMa j = true) (hk : zMa k = true) (f f2 : Nat → Int32) (hr : zD1 v (zput (zput (zput G m (zO 6 ((zMl u.a u.i).set 0 (.int 0)))) (u.a j) (zMc j f)) (u.a k) (zMc k f2)) r G1) : zRx (some v) 0 (zua (zua (zuc u 0 0) j f) k f2) u m G r G1 := by
  obtain ⟨h1, h2⟩ := hr
  subst h2
  exact ⟨h1, zua (zua (zuc u 0 0) j f) k f2, ((h.code 0).arr j hj f).arr k hk f2, ((zMf.obj zMf.rf _).arr j hj rfl _).arr k hk rfl _, rfl, zUe.rf _, zc00 u 0⟩
theorem zSq.d1 {w : zW} {wm : Nat} {u u2 : zU} {cm : Nat} {G : zG} {v : Value} {r : zRes} {G1 : zG} {mc ms : Nat} (hI : zIn w wm u cm) (hH : zHp w G) (hu : zUe u u2) (hc : mc ≤ 2) (hs : ms ≤ 4101) (h : zD1 v G r G1) : zSq (.inl (some v)) w wm u2 cm mc ms G r G1 := by
  obtain ⟨h1, h2⟩ := h
  subst h1 h2
  exact zSq.same hI hH hu hc hs
/-- a call's two sides: the class's method, the reference's -/
def zPv (g : zGt) (w : zW) (wm : Nat) (u : zU) (yS : MethodName) (bS : ByteArray) (nS : Nat) (rS : Option FieldType) (yM : MethodName) (bM : ByteArray) (nM : Nat) (rM : Option FieldType) (av : List Value) : Prop := ∃ (v : Int32) (u2 : zU) (cm2 mc ms : Nat), (mc ≤ zPc w wm + 2 ∧ ms ≤ zPs w wm + 4101) ∧ (∀ (d : Nat) (G : zG), 80 ≤ d → zHp w G → zMet g yS bS nS rS [] d mc ms (.ref (w.a 0 0) :: av) G (zSq (.inl (some (.int v))) w wm u2 cm2 mc ms G)) ∧ ∀ (d : Nat) (G : zG) (m : Nat), 80 ≤ d → zMv u m G → zMet g yM bM nM rM [] d 0 0 (.ref m :: av) G (zRx (some (.int v)) 0 u2 u m G)
section ZPV
variable {g : zGt} {w : zW} {wm : Nat} {u : zU} {cm : Nat}
theorem P_kind (hI : zIn w wm u cm) (p q : Int32) : zPv g w wm u y_S_kind b_S_kind 3 (some .boolean) y_M_kind b_M_kind 3 (some .boolean) [.int p, .int q] := by
  have z0 : ∀ (v : Int32), (∀ G r G1, P_S_kind (zWv w) p q G r G1 → zD1 (.int v) G r G1) → (∀ G m r G1, P_M_kind u m p q G r G1 → zD1 (.int v) (zput G m (zO 6 ((zMl u.a u.i).set 0 (.int 0)))) r G1) → zPv g w wm u y_S_kind b_S_kind 3 (some .boolean) y_M_kind b_M_kind 3 (some .boolean) [.int p, .int q] := fun v h1 h2 =>
    ⟨v, zuc u 0 0, cm, 0, 0, ⟨by omega, by omega⟩, fun d G hd hH => (c_S_kind g d (by omega) G (zWv w) (w.a 0 0) hH.sv p q).mono (fun r G1 h => zSq.d1 hI hH (zUe.c0 u 0) (by omega) (by omega) (h1 G r G1 h)), fun d G m hd hM => (c_M_kind g d (by omega) G u m hM p q).mono (fun r G1 h => zRx.d hM (h2 G m r G1 h))⟩
  by_cases h1 : s_M_isLayer p = 0
  · exact z0 0 (fun G r G1 h => by unfold P_S_kind at h; rw [if_pos (show s_S_isLayer p = 0 from h1)] at h; exact h) (fun G m r G1 h => by unfold P_M_kind at h; rw [if_pos h1] at h; exact h)
  by_cases h2 : q < 0
  · exact z0 0 (fun G r G1 h => by unfold P_S_kind at h; rw [if_neg (show ¬ s_S_isLayer p = 0 from h1), if_pos h2] at h; exact h) (fun G m r G1 h => by unfold P_M_kind at h; rw [if_neg h1, if_pos h2] at h; exact h)
  by_cases h3 : q < 4
  · have h3b : q ≤ 3 := zlt4 h3
    obtain ⟨t, ht, et⟩ : ∃ t, t < 4 ∧ q = nI t := by
      obtain ⟨a1, a2⟩ := zcl_of (n := 4) h2 (fun z => absurd (Int32.lt_of_lt_of_le h3 z) (Int32.lt_irrefl)) rfl (by decide)
      exact ⟨_, a1, a2⟩
    obtain ⟨l, hl, el⟩ := zlay h1
    have ec : p.toNatClampNeg = l := by rw [el, nI_clamp (by omega)]
    refine ⟨1, zua (zuc u 0 0) 3 (upd (u.ar 3) l (nI t)), cm, 0, 0, ⟨by omega, by omega⟩, fun d G hd hH => (c_S_kind g d (by omega) G (zWv w) (w.a 0 0) hH.sv p q).mono (fun r G1 h => ?_), fun d G m hd hM => (c_M_kind g d (by omega) G u m hM p q).mono (fun r G1 h => ?_)⟩
    · unfold P_S_kind at h
      rw [if_neg (show ¬ s_S_isLayer p = 0 from h1), if_neg h2, if_pos h3, ec, et] at h
      obtain ⟨r1, r2⟩ := h
      subst r1 r2
      exact zSq.of hI (hH.wn 9 0 rfl (upd (w.n 9 0) l (nI t)) (congrArg (zI 4) (zud_s w.n 9 0 (upd (w.n 9 0) l (nI t))))) (zFr.put 9 0 rfl (zAd_n _ _ _ _) _ rfl) (hI.1.kind ht) rfl rfl rfl (fun _ h => h) (by omega) (by omega)
    · unfold P_M_kind at h
      rw [if_neg h1, if_neg h2, if_pos h3b, ec, et] at h
      exact zRx.d1 hM 3 rfl _ h
  · have h3b : ¬ q ≤ 3 := fun z => h3 (zle3 z)
    exact z0 0 (fun G r G1 h => by unfold P_S_kind at h; rw [if_neg (show ¬ s_S_isLayer p = 0 from h1), if_neg h2, if_neg h3] at h; exact h) (fun G m r G1 h => by unfold P_M_kind at h; rw [if_neg h1, if_neg h2, if_neg h3b] at h; exact h)
theorem P_drop (hI : zIn w wm u cm) (p : Int32) : zPv g w wm u y_S_drop b_S_drop 3 (some .boolean) y_M_drop b_M_drop 3 (some .boolean) [.int p] := by
  by_cases h1 : s_M_isBranch u p = 0
  · refine ⟨0, zuc u 0 0, cm, 0, 0, ⟨by omega, by omega⟩, fun d G hd hH => (c_S_drop_bad g d (by omega) G w u cm hH hI.1 p h1).mono (fun r G1 h => zSq.d1 hI hH (zUe.c0 u 0) (by omega) (by omega) h), fun d G m hd hM => (c_M_drop g d (by omega) G u m hM p).mono (fun r G1 h => ?_)⟩
    unfold P_M_drop at h
    have e : s_M_isBranch (zuc u 0 0) p = 0 := h1
    rw [if_pos e, e] at h
    exact zRx.d hM h
  · obtain ⟨b, qb, hb, eb, hq3, hz, h7, ht⟩ := hI.1.bra1 h1
    have e1 : s_M_isBranch (zuc u 0 0) p = 1 := (z01_isBranch (zuc u 0 0) p).resolve_left h1
    have ec : p.toNatClampNeg = b := by rw [eb, nI_clamp (by omega)]
    subst eb
    refine ⟨1, zua (zuc u 0 0) 7 (upd (u.ar 7) b 0), cm, 0, 0, ⟨by omega, by omega⟩, fun d G hd hH => (c_S_drop_ok g d (by omega) G w u cm hH hI.1 b qb hq3 hz).mono (fun r G1 h => ?_), fun d G m hd hM => (c_M_drop g d (by omega) G u m hM (nI b)).mono (fun r G1 h => ?_)⟩
    · obtain ⟨r1, r2⟩ := h
      subst r1 r2
      exact zSq.of hI (hH.w3 hq3 0 (w.i 5 b) (w.i 6 b)) (zFr.put 3 b hq3 rfl _ rfl) (hI.1.drop hb) rfl rfl rfl (fun _ h => h) (by omega) (by omega)
    · unfold P_M_drop at h
      rw [if_neg (show ¬ s_M_isBranch (zuc u 0 0) (nI b) = 0 from h1), e1, ec] at h
      exact zRx.d1 hM 7 rfl _ h
end ZPV
