/-! class and reference: the calls that may be refused -/
theorem zbs_le (V : Nat → Nat → Int32) (N : Int32 → Nat → Int32) (cm : Nat) : ∀ f s c, (zbs V N cm f s c).2 ≤ f := by
  intro f
  induction f with
  | zero => intro s c; exact Nat.le_refl _
  | succ f ih =>
    intro s c
    show (zfor cm (zbst V (zbs V N cm f) (N s c)) (0, (fun _ => 0), 1)).2.2 ≤ f + 1
    refine zfor_inv (N := cm) (fun _ (t : Int32 × (Nat → Int32) × Nat) => t.2.2 ≤ f + 1) (show 1 ≤ f + 1 by omega) (fun j t _ ht => ?_) cm (Nat.le_refl _)
    unfold zbst
    by_cases b : zbt (N s c) j = true
    · rw [if_pos b]
      show (if t.1 = 0 then t.2.2 else max t.2.2 ((zbs V N cm f t.1 j).2 + 1)) ≤ f + 1
      have := ih t.1 j
      by_cases e : t.1 = 0
      · rw [if_pos e]; exact ht
      · rw [if_neg e]; omega
    · rw [if_neg b]; exact ht
theorem zNc_p {w : zW} {p : Nat} (hp : p < 4) (h : w.o 5 p = none) : 1 ≤ zNc w := by
  unfold zNc
  have : p = 0 ∨ p = 1 ∨ p = 2 ∨ p = 3 := by omega
  rcases this with rfl | rfl | rfl | rfl <;> (simp only [zfor]; repeat' split) <;> first | omega | (exfalso; simp_all)
theorem zfor_pr {f : Nat → zU → zU} (h : ∀ j s, (f j s).2.1 = s.2.1) : ∀ n s, (zfor n f s).2.1 = s.2.1 := by
  intro n
  induction n with
  | zero => intro s; rfl
  | succ n ih => intro s; rw [zfor_s, h, ih]
theorem zuai (u : zU) (j : Nat) (f : Nat → Int32) : (zua u j f).2.1 = u.2.1 := rfl
theorem zgvi (u : zU) (b c : Nat) (x : Int32) : (zgive u b c x).2.1 = u.2.1 := rfl
theorem i_paint (u : zU) (p q : Nat) (x : Int32) (lf tp wd hg : Nat) : (zfor hg (st_M_paint_y p q x lf wd tp) (zuc u 0 0)).2.1 = (zuc u 0 0).2.1 :=
  zfor_pr (fun j s => zfor_pr (fun i t => zgvi _ _ _ _) _ _) _ _
theorem i_copy (u : zU) (p q c f x y lf tp wd hg : Nat) : (t_M_copy u p q c f x y lf tp wd hg).2.1 = (zuc u 0 0).2.1 :=
  zfor_pr (fun j s => zfor_pr (fun i t => show (st_M_copy_x p q c f x y lf tp j i t).2.1 = t.2.1 from rfl) _ _) _ _
theorem i_polygon (u : zU) (p q n : Nat) (x : Int32) : (t_M_polygon u p q n x).2.1 = (zuc u 0 0).2.1 :=
  zfor_pr (fun j s => zfor_pr (fun i t => by
    unfold st_M_polygon_x
    exact zite (fun z : zU => z.2.1 = t.2.1) rfl rfl) _ _) _ _
theorem i_map (u : zU) (p q lf tp wd hg : Nat) : (t_M_map u p q lf tp wd hg).2.1 = (zuc u 0 0).2.1 :=
  zfor_pr (fun j s => zfor_pr (fun i t => by
    unfold st_M_map_x
    exact zite (fun z : zU => z.2.1 = t.2.1) rfl (zite (fun z : zU => z.2.1 = t.2.1) rfl rfl)) _ _) _ _
theorem i_combine (u : zU) (p q n : Nat) (x : Int32) (lf tp wd hg : Nat) : (t_M_combine u p q n x lf tp wd hg).2.1 = (zuc u 0 0).2.1 :=
  zfor_pr (fun j s => zfor_pr (fun i t => by
    unfold st_M_combine_x
    repeat' with_reducible refine zite (fun z : zU => z.2.1 = t.2.1) ?_ ?_
    all_goals rfl) _ _) _ _
theorem i_become (a b : Nat) (n : Nat) (s : zU) : (zfor n (st_M_become a b) s).2.1 = s.2.1 := zfor_pr (fun j t => by
    unfold st_M_become
    repeat' with_reducible refine zite (fun z : zU => z.2.1 = t.2.1) ?_ ?_
    all_goals rfl) _ _
theorem i_stc (p cm n : Nat) (s : zU) : (zfor n (st_M_commit p cm) s).2.1 = s.2.1 := zfor_pr (fun j t => by
    unfold st_M_commit
    repeat' with_reducible refine zite (fun z : zU => z.2.1 = t.2.1) ?_ ?_
    all_goals rfl) _ _
set_option maxRecDepth 1000000 in
theorem i_branch (u : zU) (p q : Nat) : (t_M_branch u p q).i 0 = 0 := by
  unfold t_M_branch zU.i
  rw [i_become]
  exact zc00 u 0
set_option maxRecDepth 1000000 in
theorem i_commit (u : zU) (p cm : Nat) : (t_M_commit u p cm).i 0 = 0 := by
  unfold t_M_commit zU.i
  rw [zuai, zuai, zuai, zuai, zuai, i_become, i_stc]
  show upd (upd u.2.1 0 0) 6 (nI (cm + 1)) 0 = 0
  rw [pk_un (show (0 : Nat) ≠ 6 by decide), pk_us]
theorem i_settle (u : zU) (p q : Nat) (x : Int32) (ct e : Nat) : (t_M_settle u p q x ct e).i 0 = 0 := by
  unfold t_M_settle zU.i
  rw [zgvi, zuai]
  exact zc00 u 0
theorem zput_same {G : zG} {a : Nat} {c : zC} (h : G a = some c) : zput G a c = G := by
  funext q
  by_cases e : q = a
  · subst e; rw [zput_s, h]
  · rw [zput_n e]
/-- a call's two sides: the law's wrapper of the class's method, the reference's -/
def zPw (g : zGt) (w : zW) (wm : Nat) (u : zU) (yL : MethodName) (bL : ByteArray) (nL : Nat) (tb : List (Nat × Nat × Nat × Nat)) (yM : MethodName) (bM : ByteArray) (nM : Nat) (av : List Value) : Prop := ∃ (code : Int32) (u2 : zU) (cm2 mc ms : Nat), (mc ≤ zPc w wm + 2 ∧ ms ≤ zPs w wm + 4101) ∧ (∀ (d : Nat) (G : zG), 80 ≤ d → zHp w G → zMet g yL bL nL (some .int) tb d mc ms (.ref (w.a 0 0) :: av) G (zSq (.inl (some (.int code))) w wm u2 cm2 mc ms G)) ∧ ∀ (d : Nat) (G : zG) (m : Nat), 80 ≤ d → zMv u m G → zMet g yM bM nM none [] d 0 0 (.ref m :: av) G (zRx none code u2 u m G)
def zPo (g : zGt) (w : zW) (wm : Nat) (u : zU) (yL : MethodName) (bL : ByteArray) (nL : Nat) (tb : List (Nat × Nat × Nat × Nat)) (yM : MethodName) (bM : ByteArray) (nM : Nat) (av : List Value) : Prop := ∃ (code v : Int32) (u2 : zU) (cm2 mc ms : Nat), (mc ≤ zPc w wm + 2 ∧ ms ≤ zPs w wm + 4101) ∧ (∀ (d : Nat) (G : zG) (out : Nat) (fo : Nat → Int64), 80 ≤ d → zHp w G → G out = some (zJ 1 fo) → (∀ f i, zAd w f i ≠ some out) → zMet g yL bL nL (some .int) tb d mc ms (.ref (w.a 0 0) :: (av ++ [.ref out])) G (fun r G1 => ∃ G2 fo2, G1 = zput G2 out (zJ 1 fo2) ∧ (code = 0 → fo2 0 = v.toInt64) ∧ zSq (.inl (some (.int code))) w wm u2 cm2 mc ms G r G2)) ∧ ∀ (d : Nat) (G : zG) (m : Nat), 80 ≤ d → zMv u m G → zMet g yM bM nM (some .int) [] d 0 0 (.ref m :: av) G (zRx (some (.int v)) code u2 u m G)
section ZPW
variable {g : zGt} {w : zW} {wm : Nat} {u : zU} {cm : Nat} {yL : MethodName} {bL : ByteArray} {nL : Nat} {tb : List (Nat × Nat × Nat × Nat)} {yM : MethodName} {bM : ByteArray} {nM : Nat} {av : List Value}
theorem zPw.bad (hI : zIn w wm u cm) (code : Int32) (hS : ∀ (d : Nat) (G : zG), 80 ≤ d → zHp w G → zMet g yL bL nL (some .int) tb d 1 6 (.ref (w.a 0 0) :: av) G (zD1 (.int code) G)) (hM : ∀ (d : Nat) (G : zG) (m : Nat), 80 ≤ d → zMv u m G → zMet g yM bM nM none [] d 0 0 (.ref m :: av) G (zMq none (zuc u 0 code) u m G)) : zPw g w wm u yL bL nL tb yM bM nM av :=
  ⟨code, zuc u 0 code, cm, 1, 6, ⟨by omega, by omega⟩, fun d G hd hH => (hS d G hd hH).mono (fun r G1 h => zSq.d1 hI hH (zUe.c0 u code) (by omega) (by omega) h), fun d G m hd hm => (hM d G m hd hm).mono (fun r G1 h => zRx.q h (zc00 u code))⟩
theorem zPo.bad (hI : zIn w wm u cm) (code : Int32) (hc : code ≠ 0) (hS : ∀ (d : Nat) (G : zG) (out : Nat), 80 ≤ d → zHp w G → zMet g yL bL nL (some .int) tb d 1 6 (.ref (w.a 0 0) :: (av ++ [.ref out])) G (zD1 (.int code) G)) (hM : ∀ (d : Nat) (G : zG) (m : Nat), 80 ≤ d → zMv u m G → zMet g yM bM nM (some .int) [] d 0 0 (.ref m :: av) G (zMq (some (.int 0)) (zuc u 0 code) u m G)) : zPo g w wm u yL bL nL tb yM bM nM av :=
  ⟨code, 0, zuc u 0 code, cm, 1, 6, ⟨by omega, by omega⟩, fun d G out fo hd hH ho hn => (hS d G out hd hH).mono (fun r G1 h => ⟨G1, fo, by rw [h.2, zput_same ho], fun z => absurd z hc, zSq.d1 hI hH (zUe.c0 u code) (by omega) (by omega) h⟩), fun d G m hd hm => (hM d G m hd hm).mono (fun r G1 h => zRx.q h (zc00 u code))⟩
theorem zSq.out {res : zRes} {u2 : zU} {cm2 mc ms : Nat} {G : zG} {r : zRes} {G2 : zG} (h : zSq res w wm u2 cm2 mc ms G r G2) {out : Nat} {c : zC} (ho : G out = some c) (hn : ∀ f i, zAd w f i ≠ some out) : G2 out = some c := by
  obtain ⟨-, w2, wm2, -, h2, -⟩ := h
  exact (h2.1 out hn (by rw [ho]; exact fun q => nomatch q)).trans ho
theorem zMet.sq {y : MethodName} {cc : ByteArray} {nl d mc ms : Nat} {ret : Option FieldType} {tb : List (Nat × Nat × Nat × Nat)} {av : List Value} {G : zG} {res : zRes} {u2 : zU} {cm2 : Nat} (h : zMet g y cc nl ret tb d mc ms av G (zSq res w wm u2 cm2 mc ms G)) : zMet g y cc nl ret tb d mc ms av G (fun r G1 => r = res ∧ zSq res w wm u2 cm2 mc ms G res G1) := h.mono (fun _ _ z => ⟨z.1, rfl, z.2⟩)
end ZPW
