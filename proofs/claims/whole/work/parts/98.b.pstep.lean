/-! PURE PART 30: the class's machine: one cell -/
theorem lgc (x y : Int64) : lg_cmp x y = 0 ↔ x = y := by
  unfold lg_cmp
  by_cases h1 : x > y
  · rw [if_pos h1]
    refine ⟨fun z => absurd z (by decide), fun e => ?_⟩
    subst e
    exact absurd h1 Int64.lt_irrefl
  · rw [if_neg h1]
    by_cases h2 : x = y
    · rw [if_pos h2]; exact ⟨fun _ => h2, fun _ => rfl⟩
    · rw [if_neg h2]; exact ⟨fun z => absurd z (by decide), fun e => absurd e h2⟩
theorem p_push {p : Nat → Int64} {l : List Int64} (x : Int64) (h : l.length < 20) : f_X2_push p (nI l.length) x = some (vp_updL p l.length x, nI (l.length + 1)) := by
  unfold f_X2_push
  rw [if_neg (nI_pos (by omega)), if_neg (show ¬ (20 : Int32) ≤ nI l.length from nI_ge (a := l.length) (b := 20) h (by omega)), ixd_of (vp_in_nI h (by omega)), nI_clamp (by omega), nI_1]
theorem p_pop {p : Nat → Int64} {r : List Int64} {v : Int64} (hp : pl p (v :: r)) (h : r.length < 20) : f_X2_pop p (nI (r.length + 1)) = some (v, nI r.length) := by
  unfold f_X2_pop
  rw [if_neg (nI_nle (by omega) (by omega)), if_pos (show nI (r.length + 1) ≤ 20 from nI_le (b := 20) h (by omega)), nI_pred, ixd_of (vp_in_nI h (by omega)), nI_clamp (by omega), hp.1]
theorem p_isVar {v : Nat} (h : v < 10) : f_X5_isVariable (nI v) = some (1, ()) := by
  unfold f_X5_isVariable
  rw [if_neg (nI_pos (by omega)), if_neg (show ¬ (10 : Int32) ≤ nI v from nI_ge (a := v) (b := 10) h (by omega))]
theorem p_isTmp {v : Nat} (h : v < 100) : f_X2_isTemporary (nI v) = some (1, ()) := by
  unfold f_X2_isTemporary
  rw [if_neg (nI_pos (by omega)), if_neg (show ¬ (100 : Int32) ≤ nI v from nI_ge (a := v) (b := 100) h (by omega))]
theorem upL_eq {f g : Nat → Int64} {N x : Nat} {a : Int64} (h : ∀ v : Nat, v < N → f v = g v) : ∀ v : Nat, v < N → vp_updL f x a v = vp_updL g x a v := by
  intro v hv
  by_cases he : v = x
  · subst he; rw [pk_uLs, pk_uLs]
  · rw [pk_uLn he, pk_uLn he]; exact h v hv
theorem p_worked {o : Nat} (ho : o < 6) (x y : Int64) : f_X2_worked (nI o) x y = some (opV o x y, ()) := by
  match o, ho with
  | 0, _ => rfl
  | 1, _ => rfl
  | 2, _ => rfl
  | 3, _ => rfl
  | 4, _ => rfl
  | 5, _ => rfl
section PStep
variable {V Tm : Nat → Int64} {l r : List Int64} {n : Nat} {w : Int32} {x y z v : Int64}
theorem evC_0 : evC (0, w) (V, Tm, l, n) = (true, (V, Tm, w.toInt64 :: l, n)) := rfl
theorem evC_1 : evC (1, w) (V, Tm, l, n) = (true, (V, Tm, V w.toNatClampNeg :: l, n)) := rfl
theorem evC_2 : evC (2, w) (V, Tm, v :: r, n) = (true, (vp_updL V w.toNatClampNeg v, Tm, r, n)) := rfl
theorem evC_3 : evC (3, w) (V, Tm, l, n) = (true, (vp_updL V (w / 256).toNatClampNeg (V (w / 256).toNatClampNeg + (w - w / 256 * 256 - 128).toInt64), Tm, l, n)) := rfl
theorem evC_4 : evC (4, w) (V, Tm, y :: x :: r, n) = if 6 ≤ w.toNatClampNeg ∧ y = 0 then (false, (V, Tm, [], n)) else (true, (V, Tm, opV w.toNatClampNeg x y :: r, n)) := rfl
theorem evC_5 : evC (5, w) (V, Tm, v :: r, n) = (true, (V, Tm, -v :: r, n)) := rfl
theorem evC_6 : evC (6, w) (V, Tm, v :: r, n) = (true, (V, Tm, r, n)) := rfl
theorem evC_7 : evC (7, w) (V, Tm, v :: r, n) = (true, (V, Tm, v :: v :: r, n)) := rfl
theorem evC_8 : evC (8, w) (V, Tm, y :: x :: r, n) = (true, (V, Tm, x :: y :: r, n)) := rfl
theorem evC_9 : evC (9, w) (V, Tm, y :: x :: r, n) = (true, (V, Tm, y :: x :: y :: r, n)) := rfl
theorem evC_10_0 : evC (10, nI 0) (V, Tm, l, n) = (true, (V, Tm, clV (n + 1) 0 0 0 :: l, n + 1)) := rfl
theorem evC_10_1 : evC (10, nI 1) (V, Tm, x :: r, n) = (true, (V, Tm, clV (n + 1) x 0 0 :: r, n + 1)) := rfl
theorem evC_10_2 : evC (10, nI 2) (V, Tm, y :: x :: r, n) = (true, (V, Tm, clV (n + 1) x y 0 :: r, n + 1)) := rfl
theorem evC_10_3 : evC (10, nI 3) (V, Tm, z :: y :: x :: r, n) = (true, (V, Tm, clV (n + 1) x y z :: r, n + 1)) := rfl
theorem evC_11 : evC (11, w) (V, Tm, l, n) = (true, (V, Tm, Tm w.toNatClampNeg :: l, n)) := rfl
theorem evC_12 : evC (12, w) (V, Tm, v :: r, n) = (true, (V, vp_updL Tm w.toNatClampNeg v, r, n)) := rfl
/-- a cell has gone well, or has failed -/
def stT1 (vars temps : Nat → Int64) (calls : Int32) (pile : Nat → Int64) (size : Int32) (c : Cl) (s : St) : Prop := (evC c s).1 = true ∧ ∃ vars' temps' calls' pile' size', f_X2_step calls pile size temps vars c.1 c.2 = some (1, (calls', pile', size', temps', vars')) ∧ mS vars' temps' calls' pile' size' (evC c s).2
def stF1 (vars temps : Nat → Int64) (calls : Int32) (pile : Nat → Int64) (size : Int32) (c : Cl) (s : St) : Prop := (evC c s).1 = false ∧ ∃ vars' temps' calls' pile' size', f_X2_step calls pile size temps vars c.1 c.2 = some (0, (calls', pile', size', temps', vars')) ∧ mB vars' temps' calls' (evC c s).2 ∧ (evC c s).2.2.2.1 = []
variable {vars temps pile : Nat → Int64} {calls size : Int32}
theorem st_0 (h : l.length < 20) (hm : mS vars temps calls pile size (V, Tm, l, n)) : stT1 vars temps calls pile size (0, w) (V, Tm, l, n) := by
  obtain ⟨m1, rfl, m3⟩ := hm
  refine ⟨rfl, vars, temps, calls, vp_updL pile l.length w.toInt64, nI (l.length + 1), ?_, m1, rfl, pl_push m3⟩
  show f_X2_step _ _ (nI l.length) _ _ 0 w = _
  unfold f_X2_step
  rw [if_pos rfl, p_push _ h, Option.bind_some]
theorem st_1 {a : Nat} (ha : a < 10) (hw : w = nI a) (h : l.length < 20) (hm : mS vars temps calls pile size (V, Tm, l, n)) : stT1 vars temps calls pile size (1, w) (V, Tm, l, n) := by
  obtain ⟨m1, rfl, m3⟩ := hm
  refine ⟨rfl, vars, temps, calls, vp_updL pile l.length (vars a), nI (l.length + 1), ?_, m1, rfl, ?_⟩
  · show f_X2_step _ _ (nI l.length) _ _ 1 w = _
    unfold f_X2_step
    rw [if_neg (by decide), if_pos rfl, hw, p_isVar ha, Option.bind_some, if_neg (by decide), ixd_of (vp_in_nI ha (by omega)), nI_clamp (by omega), p_push _ h, Option.bind_some]
  · rw [m1.1 a ha, evC_1, hw, nI_clamp (by omega)]
    exact pl_push m3
theorem st_2 {a : Nat} (ha : a < 10) (hw : w = nI a) (h : r.length < 20) (hm : mS vars temps calls pile size (V, Tm, v :: r, n)) : stT1 vars temps calls pile size (2, w) (V, Tm, v :: r, n) := by
  obtain ⟨⟨m1, m2, m3⟩, rfl, m4⟩ := hm
  refine ⟨rfl, vp_updL vars a v, temps, calls, pile, nI r.length, ?_, ⟨?_, m2, m3⟩, rfl, m4.2⟩
  · show f_X2_step _ _ (nI (r.length + 1)) _ _ 2 w = _
    unfold f_X2_step f_X2_setVariable
    rw [if_neg (by decide), if_neg (by decide), if_pos rfl, p_pop m4 h, Option.bind_some, hw, p_isVar ha, Option.bind_some, if_neg (by decide), ixd_of (vp_in_nI ha (by omega)), nI_clamp (by omega), Option.bind_some]
  · rw [evC_2, hw, nI_clamp (by omega)]
    exact upL_eq m1
theorem st_3 {g : Nat} (hg : g < 2560) (hw : w = nI g) (hm : mS vars temps calls pile size (V, Tm, l, n)) : stT1 vars temps calls pile size (3, w) (V, Tm, l, n) := by
  obtain ⟨⟨m1, m2, m3⟩, m4, m5⟩ := hm
  have n2 := (gr_num hg).2
  refine ⟨rfl, vp_updL vars (g / 256) (vars (g / 256) + (w - w / 256 * 256 - 128).toInt64), temps, calls, pile, size, ?_, ⟨?_, m2, m3⟩, m4, m5⟩
  · show f_X2_step _ _ _ _ _ 3 w = _
    unfold f_X2_step f_X5_grownVariableIn f_X5_growthIn f_X2_growVariable
    rw [if_neg (by decide), if_neg (by decide), if_neg (by decide), if_pos rfl, Option.bind_some, Option.bind_some]
    dsimp only
    rw [hw, n2, p_isVar (by omega), Option.bind_some, if_neg (by decide), ixd_of (vp_in_nI (by omega) (by omega)), ixd_of (vp_in_nI (by omega) (by omega)), nI_clamp (by omega), Option.bind_some]
  · rw [evC_3, hw, n2, nI_clamp (by omega), m1 (g / 256) (by omega)]
    exact upL_eq m1
theorem st_5 (h : r.length < 20) (hm : mS vars temps calls pile size (V, Tm, v :: r, n)) : stT1 vars temps calls pile size (5, w) (V, Tm, v :: r, n) := by
  obtain ⟨m1, rfl, m4⟩ := hm
  refine ⟨rfl, vars, temps, calls, vp_updL pile r.length (-v), nI (r.length + 1), ?_, m1, rfl, pl_push m4.2⟩
  show f_X2_step _ _ (nI (r.length + 1)) _ _ 5 w = _
  unfold f_X2_step
  rw [if_neg (by decide), if_neg (by decide), if_neg (by decide), if_neg (by decide), if_neg (by decide), if_pos rfl, p_pop m4 h, Option.bind_some]
  dsimp only
  rw [p_push _ h, Option.bind_some]
theorem st_6 (h : r.length < 20) (hm : mS vars temps calls pile size (V, Tm, v :: r, n)) : stT1 vars temps calls pile size (6, w) (V, Tm, v :: r, n) := by
  obtain ⟨m1, rfl, m4⟩ := hm
  refine ⟨rfl, vars, temps, calls, pile, nI r.length, ?_, m1, rfl, m4.2⟩
  show f_X2_step _ _ (nI (r.length + 1)) _ _ 6 w = _
  unfold f_X2_step
  rw [if_neg (by decide), if_neg (by decide), if_neg (by decide), if_neg (by decide), if_neg (by decide), if_neg (by decide), if_pos rfl, p_pop m4 h, Option.bind_some]
theorem st_11 {a : Nat} (ha : a < 100) (hw : w = nI a) (h : l.length < 20) (hm : mS vars temps calls pile size (V, Tm, l, n)) : stT1 vars temps calls pile size (11, w) (V, Tm, l, n) := by
  obtain ⟨m1, rfl, m3⟩ := hm
  refine ⟨rfl, vars, temps, calls, vp_updL pile l.length (temps a), nI (l.length + 1), ?_, m1, rfl, ?_⟩
  · show f_X2_step _ _ (nI l.length) _ _ 11 w = _
    unfold f_X2_step
    rw [if_neg (by decide), if_neg (by decide), if_neg (by decide), if_neg (by decide), if_neg (by decide), if_neg (by decide), if_neg (by decide), if_neg (by decide), if_pos rfl, hw, p_isTmp ha, Option.bind_some, if_neg (by decide), ixd_of (vp_in_nI ha (by omega)), nI_clamp (by omega), p_push _ h, Option.bind_some]
  · rw [m1.2.1 a ha, evC_11, hw, nI_clamp (by omega)]
    exact pl_push m3
theorem st_12 {a : Nat} (ha : a < 100) (hw : w = nI a) (h : r.length < 20) (hm : mS vars temps calls pile size (V, Tm, v :: r, n)) : stT1 vars temps calls pile size (12, w) (V, Tm, v :: r, n) := by
  obtain ⟨⟨m1, m2, m3⟩, rfl, m4⟩ := hm
  refine ⟨rfl, vars, vp_updL temps a v, calls, pile, nI r.length, ?_, ⟨m1, ?_, m3⟩, rfl, m4.2⟩
  · show f_X2_step _ _ (nI (r.length + 1)) _ _ 12 w = _
    unfold f_X2_step f_X2_setTemporary
    rw [if_neg (by decide), if_neg (by decide), if_neg (by decide), if_neg (by decide), if_neg (by decide), if_neg (by decide), if_neg (by decide), if_neg (by decide), if_neg (by decide), if_pos rfl, p_pop m4 h, Option.bind_some, hw, p_isTmp ha, Option.bind_some, if_neg (by decide), ixd_of (vp_in_nI ha (by omega)), nI_clamp (by omega), Option.bind_some]
  · rw [evC_12, hw, nI_clamp (by omega)]
    exact upL_eq m2
theorem st_7 (h : r.length + 1 < 20) (hm : mS vars temps calls pile size (V, Tm, v :: r, n)) : stT1 vars temps calls pile size (7, w) (V, Tm, v :: r, n) := by
  obtain ⟨m1, rfl, m4⟩ := hm
  have g1 := pl_push (x := v) m4.2
  have g2 := pl_push (x := v) g1
  refine ⟨rfl, vars, temps, calls, _, nI (r.length + 1 + 1), ?_, m1, rfl, g2⟩
  show f_X2_step _ _ (nI (r.length + 1)) _ _ 7 w = _
  unfold f_X2_step f_X2_turn
  rw [if_neg (by decide), if_neg (by decide), if_neg (by decide), if_neg (by decide), if_neg (by decide), if_neg (by decide), if_neg (by decide), if_neg (by decide), if_neg (by decide), if_neg (by decide), p_pop m4 (by omega), Option.bind_some, if_pos rfl]
  dsimp only
  rw [p_push _ (by omega), Option.bind_some]
  dsimp only
  rw [show f_X2_push (vp_updL pile r.length v) (nI (r.length + 1)) v = some (vp_updL (vp_updL pile r.length v) (v :: r).length v, nI (r.length + 1 + 1)) from p_push (l := v :: r) v h]
  rfl
theorem st_te {k : Int32} {sz : Int32} (hk : k = 8 ∨ k = 9) : f_X2_step calls pile sz temps vars k w = (f_X2_turn pile sz k).bind fun q55 => some (1, (calls, q55.1, q55.2, temps, vars)) := by
  unfold f_X2_step
  rcases hk with rfl | rfl <;> rw [if_neg (by decide), if_neg (by decide), if_neg (by decide), if_neg (by decide), if_neg (by decide), if_neg (by decide), if_neg (by decide), if_neg (by decide), if_neg (by decide), if_neg (by decide)]
theorem st_t8 (h : r.length + 2 ≤ 20) (m4 : pl pile (y :: x :: r)) : f_X2_turn pile (nI (r.length + 1 + 1)) 8 = some (vp_updL (vp_updL pile r.length y) (r.length + 1) x, nI (r.length + 1 + 1)) := by
  have ep1 := p_pop (v := y) m4 (by simp only [List.length_cons]; omega)
  simp only [List.length_cons] at ep1
  have ep2 := p_pop (v := x) m4.2 (by omega)
  have eq1 := p_push (p := pile) (l := r) y (by omega)
  have eq2 := p_push (p := (vp_updL pile r.length y)) (l := y :: r) x (by simp only [List.length_cons]; omega)
  simp only [List.length_cons] at eq2
  unfold f_X2_turn
  rw [ep1, Option.bind_some, if_neg (by decide)]
  dsimp only
  rw [ep2, Option.bind_some]
  dsimp only
  rw [eq1, Option.bind_some]
  dsimp only
  rw [eq2, Option.bind_some, if_neg (by decide)]
theorem st_t9 (h : r.length + 3 ≤ 20) (m4 : pl pile (y :: x :: r)) : f_X2_turn pile (nI (r.length + 1 + 1)) 9 = some (vp_updL (vp_updL (vp_updL pile r.length y) (r.length + 1) x) (r.length + 1 + 1) y, nI (r.length + 1 + 1 + 1)) := by
  have ep1 := p_pop (v := y) m4 (by simp only [List.length_cons]; omega)
  simp only [List.length_cons] at ep1
  have ep2 := p_pop (v := x) m4.2 (by omega)
  have eq1 := p_push (p := pile) (l := r) y (by omega)
  have eq2 := p_push (p := (vp_updL pile r.length y)) (l := y :: r) x (by simp only [List.length_cons]; omega)
  simp only [List.length_cons] at eq2
  have eq3 := p_push (p := (vp_updL (vp_updL pile r.length y) (r.length + 1) x)) (l := x :: y :: r) y (by simp only [List.length_cons]; omega)
  simp only [List.length_cons] at eq3
  unfold f_X2_turn
  rw [ep1, Option.bind_some, if_neg (by decide)]
  dsimp only
  rw [ep2, Option.bind_some]
  dsimp only
  rw [eq1, Option.bind_some]
  dsimp only
  rw [eq2, Option.bind_some, if_pos rfl]
  dsimp only
  rw [eq3, Option.bind_some]
theorem st_8 (h : r.length + 2 ≤ 20) (hm : mS vars temps calls pile size (V, Tm, y :: x :: r, n)) : stT1 vars temps calls pile size (8, w) (V, Tm, y :: x :: r, n) := by
  obtain ⟨m1, m2, m4⟩ := hm
  have m2 : size = nI (r.length + 1 + 1) := m2
  refine ⟨rfl, vars, temps, calls, vp_updL (vp_updL pile r.length y) (r.length + 1) x, nI (r.length + 1 + 1), ?_, ?_⟩
  · show f_X2_step _ _ size _ _ 8 w = _
    rw [st_te (.inl rfl), m2, st_t8 h m4, Option.bind_some]
  · rw [evC_8]
    exact ⟨m1, rfl, pl_push (pl_push m4.2.2)⟩
theorem st_9 (h : r.length + 3 ≤ 20) (hm : mS vars temps calls pile size (V, Tm, y :: x :: r, n)) : stT1 vars temps calls pile size (9, w) (V, Tm, y :: x :: r, n) := by
  obtain ⟨m1, m2, m4⟩ := hm
  have m2 : size = nI (r.length + 1 + 1) := m2
  refine ⟨rfl, vars, temps, calls, vp_updL (vp_updL (vp_updL pile r.length y) (r.length + 1) x) (r.length + 1 + 1) y, nI (r.length + 1 + 1 + 1), ?_, ?_⟩
  · show f_X2_step _ _ size _ _ 9 w = _
    rw [st_te (.inr rfl), m2, st_t9 h m4, Option.bind_some]
  · rw [evC_9]
    exact ⟨m1, rfl, pl_push (pl_push (pl_push m4.2.2))⟩
theorem st_4e {sz : Int32} : f_X2_step calls pile sz temps vars 4 w = (f_X2_workOp pile sz w).bind fun q27 => ckz q27.1 (some (q27.1, (calls, q27.2.1, q27.2.2, temps, vars))) := by
  unfold f_X2_step
  rw [if_neg (by decide), if_neg (by decide), if_neg (by decide), if_neg (by decide), if_pos rfl]
theorem st_wF {o : Nat} (ho : o < 8) (hf : 6 ≤ o ∧ y = 0) (h : r.length + 2 ≤ 20) (m4 : pl pile (y :: x :: r)) : f_X2_workOp pile (nI (r.length + 1 + 1)) (nI o) = some (0, (pile, nI r.length)) := by
  have ep1 := p_pop (v := y) m4 (by simp only [List.length_cons]; omega)
  simp only [List.length_cons] at ep1
  have ep2 := p_pop (v := x) m4.2 (by omega)
  unfold f_X2_workOp
  rw [ep1, Option.bind_some]
  dsimp only
  rw [ep2, Option.bind_some]
  have h67 : o = 6 ∨ o = 7 := by omega
  rcases h67 with rfl | rfl
  · rw [if_pos (show nI 6 = 6 from rfl), if_pos ((lgc y 0).mpr hf.2)]
  · rw [if_neg (show ¬ nI 7 = 6 by decide), if_pos (show nI 7 = 7 from rfl), if_pos ((lgc y 0).mpr hf.2)]
theorem st_wT {o : Nat} (ho : o < 8) (hf : ¬ (6 ≤ o ∧ y = 0)) (h : r.length + 2 ≤ 20) (m4 : pl pile (y :: x :: r)) : f_X2_workOp pile (nI (r.length + 1 + 1)) (nI o) = some (1, (vp_updL pile r.length (opV o x y), nI (r.length + 1))) := by
  have ep1 := p_pop (v := y) m4 (by simp only [List.length_cons]; omega)
  simp only [List.length_cons] at ep1
  have ep2 := p_pop (v := x) m4.2 (by omega)
  unfold f_X2_workOp
  rw [ep1, Option.bind_some]
  dsimp only
  rw [ep2, Option.bind_some]
  dsimp only
  by_cases h6 : o < 6
  · rw [if_neg (fun z => by have := (nI_eq (b := 6) (by omega) (by omega)).mp z; omega), if_neg (fun z => by have := (nI_eq (b := 7) (by omega) (by omega)).mp z; omega), p_worked h6, Option.bind_some]
    dsimp only
    rw [p_push _ (by omega), Option.bind_some]
  · have hy : ¬ y = 0 := fun z => hf ⟨by omega, z⟩
    have hy2 : ¬ lg_cmp y 0 = 0 := fun z => hy ((lgc y 0).mp z)
    have h67 : o = 6 ∨ o = 7 := by omega
    rcases h67 with rfl | rfl
    · rw [if_pos (show nI 6 = 6 from rfl), if_neg hy2, if_pos (show nI 6 = 6 from rfl)]
      unfold nzl
      rw [if_neg hy, p_push _ (by omega), Option.bind_some]
      rfl
    · rw [if_neg (show ¬ nI 7 = 6 by decide), if_pos (show nI 7 = 7 from rfl), if_neg hy2, if_neg (show ¬ nI 7 = 6 by decide)]
      unfold nzl
      rw [if_neg hy, p_push _ (by omega), Option.bind_some]
      rfl
theorem st_4 {o : Nat} (ho : o < 8) (hw : w = nI o) (h : r.length + 2 ≤ 20) (hm : mS vars temps calls pile size (V, Tm, y :: x :: r, n)) : stT1 vars temps calls pile size (4, w) (V, Tm, y :: x :: r, n) ∨ stF1 vars temps calls pile size (4, w) (V, Tm, y :: x :: r, n) := by
  obtain ⟨m1, m2, m4⟩ := hm
  have m2 : size = nI (r.length + 1 + 1) := m2
  have ev : evC (4, w) (V, Tm, y :: x :: r, n) = if 6 ≤ o ∧ y = 0 then (false, (V, Tm, [], n)) else (true, (V, Tm, opV o x y :: r, n)) := by rw [evC_4, hw, nI_clamp (by omega)]
  unfold stT1 stF1
  rw [ev]
  by_cases hf : 6 ≤ o ∧ y = 0
  · rw [if_pos hf]
    refine .inr ⟨rfl, vars, temps, calls, pile, nI r.length, ?_, m1, rfl⟩
    show f_X2_step _ _ size _ _ 4 w = _
    rw [st_4e, m2, hw, st_wF ho hf h m4, Option.bind_some]
    rfl
  · rw [if_neg hf]
    refine .inl ⟨rfl, vars, temps, calls, vp_updL pile r.length (opV o x y), nI (r.length + 1), ?_, m1, rfl, pl_push m4.2.2⟩
    show f_X2_step _ _ size _ _ 4 w = _
    rw [st_4e, m2, hw, st_wT ho hf h m4, Option.bind_some]
    rfl
end PStep
