/-! PURE PART 31: the class's machine: a call, any cell, a whole row -/
section PStep2
variable {V Tm : Nat → Int64} {l r : List Int64} {n : Nat} {w : Int32} {x y z v : Int64}
variable {vars temps pile : Nat → Int64} {calls size : Int32}
theorem st_10e : f_X2_step calls pile size temps vars 10 w = (f_X2_callWith calls pile size w).bind fun q => some (1, (q.1, q.2.1, q.2.2, temps, vars)) := by
  unfold f_X2_step
  rw [if_neg (by decide), if_neg (by decide), if_neg (by decide), if_neg (by decide), if_neg (by decide), if_neg (by decide), if_neg (by decide), if_pos rfl]
theorem st_B41 (h : r.length < 20) (hc : calls = nI n) : f_X2_callWith_B41 calls pile (nI r.length) z y x = some (nI (n + 1), vp_updL pile r.length (clV (n + 1) x y z), nI (r.length + 1)) := by
  unfold f_X2_callWith_B41
  rw [hc, nI_1, p_push _ h, Option.bind_some]
  rfl
theorem st_10_0 (h : l.length < 20) (hm : mS vars temps calls pile size (V, Tm, l, n)) : stT1 vars temps calls pile size (10, nI 0) (V, Tm, l, n) := by
  obtain ⟨⟨m1, m2, m3⟩, rfl, m4⟩ := hm
  refine ⟨rfl, vars, temps, nI (n + 1), _, nI (l.length + 1), ?_, ⟨m1, m2, rfl⟩, rfl, pl_push m4⟩
  show f_X2_step _ _ (nI l.length) _ _ 10 (nI 0) = _
  rw [st_10e]
  unfold f_X2_callWith f_X2_callWith_B13 f_X2_callWith_B27
  rw [if_pos (by decide), if_pos (by decide), if_pos (by decide), st_B41 h m3, Option.bind_some]
theorem st_10_1 (h : r.length < 20) (hm : mS vars temps calls pile size (V, Tm, x :: r, n)) : stT1 vars temps calls pile size (10, nI 1) (V, Tm, x :: r, n) := by
  obtain ⟨⟨m1, m2, m3⟩, rfl, m4⟩ := hm
  refine ⟨rfl, vars, temps, nI (n + 1), _, nI (r.length + 1), ?_, ⟨m1, m2, rfl⟩, rfl, pl_push m4.2⟩
  show f_X2_step _ _ (nI (r.length + 1)) _ _ 10 (nI 1) = _
  rw [st_10e]
  unfold f_X2_callWith f_X2_callWith_B13 f_X2_callWith_B27
  rw [if_pos (by decide), if_pos (by decide), if_neg (by decide), p_pop m4 h, Option.bind_some]
  dsimp only
  rw [st_B41 h m3, Option.bind_some]
theorem st_10_2 (h : r.length + 1 < 20) (hm : mS vars temps calls pile size (V, Tm, y :: x :: r, n)) : stT1 vars temps calls pile size (10, nI 2) (V, Tm, y :: x :: r, n) := by
  obtain ⟨⟨m1, m2, m3⟩, rfl, m4⟩ := hm
  have ep1 := p_pop (v := y) m4 (by simp only [List.length_cons]; omega)
  simp only [List.length_cons] at ep1
  have ep2 := p_pop (v := x) m4.2 (by omega)
  refine ⟨rfl, vars, temps, nI (n + 1), _, nI (r.length + 1), ?_, ⟨m1, m2, rfl⟩, rfl, pl_push m4.2.2⟩
  show f_X2_step _ _ (nI (r.length + 1 + 1)) _ _ 10 (nI 2) = _
  rw [st_10e]
  unfold f_X2_callWith f_X2_callWith_B13 f_X2_callWith_B27
  rw [if_pos (by decide), if_neg (by decide), ep1, Option.bind_some]
  dsimp only
  rw [if_neg (by decide), ep2, Option.bind_some]
  dsimp only
  rw [st_B41 (by omega) m3, Option.bind_some]
theorem st_10_3 (h : r.length + 2 < 20) (hm : mS vars temps calls pile size (V, Tm, z :: y :: x :: r, n)) : stT1 vars temps calls pile size (10, nI 3) (V, Tm, z :: y :: x :: r, n) := by
  obtain ⟨⟨m1, m2, m3⟩, rfl, m4⟩ := hm
  have ep0 := p_pop (v := z) m4 (by simp only [List.length_cons]; omega)
  simp only [List.length_cons] at ep0
  have ep1 := p_pop (v := y) m4.2 (by simp only [List.length_cons]; omega)
  simp only [List.length_cons] at ep1
  have ep2 := p_pop (v := x) m4.2.2 (by omega)
  refine ⟨rfl, vars, temps, nI (n + 1), _, nI (r.length + 1), ?_, ⟨m1, m2, rfl⟩, rfl, pl_push m4.2.2.2⟩
  show f_X2_step _ _ (nI (r.length + 1 + 1 + 1)) _ _ 10 (nI 3) = _
  rw [st_10e]
  unfold f_X2_callWith f_X2_callWith_B13 f_X2_callWith_B27
  rw [if_neg (by decide), ep0, Option.bind_some]
  dsimp only
  rw [if_neg (by decide), ep1, Option.bind_some]
  dsimp only
  rw [if_neg (by decide), ep2, Option.bind_some]
  dsimp only
  rw [st_B41 (by omega) m3, Option.bind_some]
end PStep2
theorem ln1 {l : List Int64} (h : 1 ≤ l.length) : ∃ v r, l = v :: r := by
  cases l with
  | nil => exact absurd h (by decide)
  | cons v r => exact ⟨v, r, rfl⟩
theorem ln2 {l : List Int64} (h : 2 ≤ l.length) : ∃ y x r, l = y :: x :: r := by
  obtain ⟨y, q, rfl⟩ := ln1 (show 1 ≤ l.length by omega)
  rw [List.length_cons] at h
  obtain ⟨x, r, rfl⟩ := ln1 (show 1 ≤ q.length by omega)
  exact ⟨y, x, r, rfl⟩
theorem ln3 {l : List Int64} (h : 3 ≤ l.length) : ∃ z y x r, l = z :: y :: x :: r := by
  obtain ⟨z, q, rfl⟩ := ln1 (show 1 ≤ l.length by omega)
  rw [List.length_cons] at h
  obtain ⟨y, x, r, rfl⟩ := ln2 (show 2 ≤ q.length by omega)
  exact ⟨z, y, x, r, rfl⟩
theorem hA_inv {c : Cl} {h h' : Nat} (e : hA c h = some h') : tkC c ≤ h ∧ h - tkC c + ptC c ≤ 20 ∧ h' = h - tkC c + ptC c := by
  unfold hA at e
  by_cases g : tkC c ≤ h ∧ h - tkC c + ptC c ≤ 20
  · rw [if_pos g] at e; cases e; exact ⟨g.1, g.2, rfl⟩
  · rw [if_neg g] at e; cases e
/-- the pile behind a cell that has gone well has the height it should -/
theorem evC_len {c : Cl} {s : St} {h' : Nat} (hk : okK c) (e : hA c s.2.2.1.length = some h') (ht : (evC c s).1 = true) : (evC c s).2.2.2.1.length = h' := by
  obtain ⟨V, Tm, l, n⟩ := s
  obtain ⟨k, w⟩ := c
  obtain ⟨h1, h2, rfl⟩ := hA_inv e
  have h1 : tkC (k, w) ≤ l.length := h1
  show _ = l.length - tkC (k, w) + ptC (k, w)
  rcases hk with (⟨hk, -⟩ | ⟨hk, -⟩ | ⟨hk, o, ho, hw⟩ | ⟨hk, -⟩ | ⟨hk, a, ha, hw⟩ | ⟨hk, -⟩) | (⟨hk, -⟩ | ⟨hk, -⟩ | ⟨hk, -⟩ | ⟨hk, -⟩) | hk | hk | hk
  all_goals
    have hk : k = _ := hk
    subst hk
  · rfl
  · rfl
  · obtain ⟨y, x, r, rfl⟩ := ln2 h1
    rw [evC_4] at ht ⊢
    by_cases hf : 6 ≤ w.toNatClampNeg ∧ y = 0
    · rw [if_pos hf] at ht; exact absurd ht Bool.false_ne_true
    · rw [if_neg hf]; rfl
  · obtain ⟨v, r, rfl⟩ := ln1 h1; rfl
  · have hw : w = nI a := hw
    subst hw
    have ht2 : tkC (10, nI a) = a := by show (nI a).toNatClampNeg = a; exact nI_clamp (by omega)
    rw [ht2] at h1 ⊢
    match a, ha, h1 with
    | 0, _, _ => rfl
    | 1, _, h1 => obtain ⟨x, r, rfl⟩ := ln1 h1; rfl
    | 2, _, h1 => obtain ⟨y, x, r, rfl⟩ := ln2 h1; rfl
    | 3, _, h1 => obtain ⟨z, y, x, r, rfl⟩ := ln3 h1; rfl
  · rfl
  · obtain ⟨v, r, rfl⟩ := ln1 h1; rfl
  · obtain ⟨v, r, rfl⟩ := ln1 h1; rfl
  · rfl
  · obtain ⟨v, r, rfl⟩ := ln1 h1; rfl
  · obtain ⟨v, r, rfl⟩ := ln1 h1; rfl
  · obtain ⟨y, x, r, rfl⟩ := ln2 h1; rfl
  · obtain ⟨y, x, r, rfl⟩ := ln2 h1; rfl
theorem p_step {c : Cl} {s : St} {h' : Nat} {vars temps pile : Nat → Int64} {calls size : Int32} (hk : okK c) (hl : s.2.2.1.length ≤ 20) (e : hA c s.2.2.1.length = some h') (hm : mS vars temps calls pile size s) : stT1 vars temps calls pile size c s ∨ stF1 vars temps calls pile size c s := by
  obtain ⟨V, Tm, l, n⟩ := s
  obtain ⟨k, w⟩ := c
  obtain ⟨h1, h2, rfl⟩ := hA_inv e
  have h1 : tkC (k, w) ≤ l.length := h1
  have h2 : l.length - tkC (k, w) + ptC (k, w) ≤ 20 := h2
  have hl : l.length ≤ 20 := hl
  rcases hk with (⟨hk, -⟩ | ⟨hk, a, ha, hw⟩ | ⟨hk, o, ho, hw⟩ | ⟨hk, -⟩ | ⟨hk, a, ha, hw⟩ | ⟨hk, a, ha, hw⟩) | (⟨hk, a, ha, hw⟩ | ⟨hk, a, ha, hw⟩ | ⟨hk, a, ha, hw⟩ | ⟨hk, -⟩) | hk | hk | hk
  all_goals
    have hk : k = _ := hk
    subst hk
  · have h2 : l.length - 0 + 1 ≤ 20 := h2
    exact .inl (st_0 (by omega) hm)
  · have h2 : l.length - 0 + 1 ≤ 20 := h2
    exact .inl (st_1 ha hw (by omega) hm)
  · obtain ⟨y, x, r, rfl⟩ := ln2 h1
    rw [List.length_cons, List.length_cons] at hl
    exact st_4 ho hw (by omega) hm
  · obtain ⟨v, r, rfl⟩ := ln1 h1
    rw [List.length_cons] at hl
    exact .inl (st_5 (by omega) hm)
  · have hw : w = nI a := hw
    subst hw
    have ht2 : tkC (10, nI a) = a := by show (nI a).toNatClampNeg = a; exact nI_clamp (by omega)
    rw [ht2] at h1 h2
    have h2 : l.length - a + 1 ≤ 20 := h2
    match a, ha, h1, h2 with
    | 0, _, _, h2 => exact .inl (st_10_0 (by omega) hm)
    | 1, _, h1, h2 =>
      obtain ⟨x, r, rfl⟩ := ln1 h1
      rw [List.length_cons] at hl
      exact .inl (st_10_1 (by omega) hm)
    | 2, _, h1, h2 =>
      obtain ⟨y, x, r, rfl⟩ := ln2 h1
      rw [List.length_cons, List.length_cons] at hl
      exact .inl (st_10_2 (by omega) hm)
    | 3, _, h1, h2 =>
      obtain ⟨z, y, x, r, rfl⟩ := ln3 h1
      rw [List.length_cons, List.length_cons, List.length_cons] at hl
      exact .inl (st_10_3 (by omega) hm)
  · have h2 : l.length - 0 + 1 ≤ 20 := h2
    exact .inl (st_11 ha hw (by omega) hm)
  · obtain ⟨v, r, rfl⟩ := ln1 h1
    rw [List.length_cons] at hl
    exact .inl (st_12 ha hw (by omega) hm)
  · obtain ⟨v, r, rfl⟩ := ln1 h1
    rw [List.length_cons] at hl
    exact .inl (st_2 ha hw (by omega) hm)
  · exact .inl (st_3 ha hw hm)
  · obtain ⟨v, r, rfl⟩ := ln1 h1
    rw [List.length_cons] at hl
    exact .inl (st_6 (by omega) hm)
  · obtain ⟨v, r, rfl⟩ := ln1 h1
    have h2 : r.length + 1 - 1 + 2 ≤ 20 := h2
    exact .inl (st_7 (by omega) hm)
  · obtain ⟨y, x, r, rfl⟩ := ln2 h1
    have h2 : r.length + 1 + 1 - 2 + 2 ≤ 20 := h2
    exact .inl (st_8 (by omega) hm)
  · obtain ⟨y, x, r, rfl⟩ := ln2 h1
    have h2 : r.length + 1 + 1 - 2 + 3 ≤ 20 := h2
    exact .inl (st_9 (by omega) hm)
/-- a whole row of cells is run, or fails -/
def wkT (r : Option (Int32 × (Int32 × (Nat → Int64) × Int32 × (Nat → Int64) × (Nat → Int64)))) (q : Bool × St) (h' : Nat) : Prop := ∃ vars' temps' calls' pile' size' z, r = some (z, (calls', pile', size', temps', vars')) ∧ ((q.1 = true ∧ z = 1 ∧ mS vars' temps' calls' pile' size' q.2 ∧ q.2.2.2.1.length = h') ∨ (q.1 = false ∧ z = 0 ∧ size' = 0 ∧ mB vars' temps' calls' q.2 ∧ q.2.2.2.1 = []))
theorem works_ok {k n : Nat → Int32} {z : Int32} {L : List Cl} (h : cd k n z L) : ∀ (R : List Cl) (D : List Cl) (s : St) (h' : Nat) (vars temps pile : Nat → Int64) (calls size : Int32) (f : Nat), L = D ++ R → (∀ c ∈ R, okK c) → s.2.2.1.length ≤ 20 → hAL R s.2.2.1.length = some h' → mS vars temps calls pile size s → R.length < f → wkT (f_X2_works_B2 f k n z calls pile size temps vars (nI D.length)) (evL R s) h' := by
  intro R
  induction R with
  | nil =>
    intro D s h' vars temps pile calls size f hL hk hl hh hm hf
    obtain ⟨f, rfl⟩ : ∃ g, f = g + 1 := ⟨f - 1, by omega⟩
    rw [List.append_nil] at hL
    subst hL
    refine ⟨vars, temps, calls, pile, size, 1, ?_, .inl ⟨rfl, rfl, hm, ?_⟩⟩
    · rw [f_X2_works_B2, h.1, if_pos (nI_le (Nat.le_refl _) (by have := h.2.1; omega))]
    · cases hh; rfl
  | cons c R ih =>
    intro D s h' vars temps pile calls size f hL hk hl hh hm hf
    obtain ⟨f, rfl⟩ : ∃ g, f = g + 1 := ⟨f - 1, by omega⟩
    rw [List.length_cons] at hf
    have hh : (hA c s.2.2.1.length).bind (hAL R) = some h' := hh
    have hlen : D.length < L.length := by rw [hL]; simp only [List.length_append, List.length_cons]; omega
    have hget : L[D.length]? = some c := by rw [hL, List.getElem?_append_right (Nat.le_refl _), Nat.sub_self]; rfl
    cases e1 : hA c s.2.2.1.length with
    | none => rw [e1] at hh; cases hh
    | some h1 =>
      rw [e1, Option.bind_some] at hh
      have hkc := hk c List.mem_cons_self
      have e0 : f_X2_works_B2 (f + 1) k n z calls pile size temps vars (nI D.length) = (f_X2_step calls pile size temps vars c.1 c.2).bind fun q7 => if q7.1 = 0 then some (0, (q7.2.1, q7.2.2.1, 0, q7.2.2.2.2.1, q7.2.2.2.2.2)) else f_X2_works_B2 f k n z q7.2.1 q7.2.2.1 q7.2.2.2.1 q7.2.2.2.2.1 q7.2.2.2.2.2 (nI D.length + 1) := by
        rw [f_X2_works_B2, if_neg (by rw [h.1]; exact nI_ge hlen (by have := h.2.1; omega)), p_kindAt h hget, Option.bind_some, p_numberAt h hget, Option.bind_some]
      rcases p_step hkc hl e1 hm with ⟨t1, v1, tm1, c1, p1, z1, t2, t3⟩ | ⟨t1, v1, tm1, c1, p1, z1, t2, t3, t4⟩
      · have hlen1 := evC_len hkc e1 t1
        have h20 : (evC c s).2.2.2.1.length ≤ 20 := by rw [hlen1]; have := hA_inv e1; omega
        have := ih (D ++ [c]) (evC c s).2 h' v1 tm1 p1 c1 z1 f (by rw [hL, List.append_assoc]; rfl) (fun d hd => hk d (List.mem_cons_of_mem _ hd)) h20 (by rw [hlen1]; exact hh) t3 (by omega)
        rw [show evL (c :: R) s = if (evC c s).1 = true then evL R (evC c s).2 else (false, (evC c s).2) from rfl, if_pos t1, e0, t2, Option.bind_some, if_neg one_ne, nI_1]
        rw [List.length_append] at this
        exact this
      · rw [show evL (c :: R) s = if (evC c s).1 = true then evL R (evC c s).2 else (false, (evC c s).2) from rfl, if_neg (by rw [t1]; exact Bool.false_ne_true), e0, t2, Option.bind_some, if_pos rfl]
        exact ⟨v1, tm1, c1, p1, 0, 0, rfl, .inr ⟨rfl, rfl, rfl, t3, t4⟩⟩
theorem p_works {k n : Nat → Int32} {z : Int32} {L : List Cl} (h : cd k n z L) {s : St} {h' : Nat} {vars temps pile : Nat → Int64} {calls size : Int32} (hk : ∀ c ∈ L, okK c) (hl : s.2.2.1.length ≤ 20) (hh : hAL L s.2.2.1.length = some h') (hm : mS vars temps calls pile size s) : wkT (f_X2_works k n z calls pile size temps vars) (evL L s) h' := by
  have := works_ok h L [] s h' vars temps pile calls size FU rfl hk hl hh hm (by have := h.2.1; rw [FU_4]; omega)
  rw [show nI ([] : List Cl).length = 0 from nI_0] at this
  exact this
/-- a run begins -/
theorem begin_ok {p : Nat → Int64} {c0 hr0 s0 : Int32} : ∀ (d j : Nat) (vars : Nat → Int64) (f : Nat), j + d = 10 → d < f → (∀ v : Nat, v < j → vars v = p v) → ∃ vars', f_X2_begin_B2 f p c0 hr0 s0 vars (nI j) = some (0, 1, 0, vars') ∧ ∀ v : Nat, v < 10 → vars' v = p v := by
  intro d
  induction d with
  | zero =>
    intro j vars f hj hf hv
    obtain ⟨f, rfl⟩ : ∃ g, f = g + 1 := ⟨f - 1, by omega⟩
    have : j = 10 := by omega
    subst this
    exact ⟨vars, by rw [f_X2_begin_B2, if_pos (by decide)], hv⟩
  | succ d ih =>
    intro j vars f hj hf hv
    obtain ⟨f, rfl⟩ : ∃ g, f = g + 1 := ⟨f - 1, by omega⟩
    have hjn : ¬ (10 : Int32) ≤ nI j := nI_ge (a := j) (b := 10) (by omega) (by omega)
    rw [f_X2_begin_B2, if_neg hjn, if_neg hjn, ixd_of (vp_in_nI (by omega) (by omega)), ixd_of (vp_in_nI (by omega) (by omega)), nI_clamp (by omega), nI_1]
    refine ih (j + 1) _ f (by omega) (by omega) ?_
    intro v hv'
    by_cases he : v = j
    · subst he; rw [pk_uLs]
    · rw [pk_uLn he]; exact hv v (by omega)
theorem p_begin {p vars : Nat → Int64} {c0 hr0 s0 : Int32} : ∃ vars', f_X2_begin p c0 hr0 s0 vars = some (0, 1, 0, vars') ∧ ∀ v : Nat, v < 10 → vars' v = p v := by
  have := begin_ok (p := p) (c0 := c0) (hr0 := hr0) (s0 := s0) 10 0 vars FU (by omega) (by rw [FU_4]; omega) (fun v hv => absurd hv (Nat.not_lt_zero v))
  rw [nI_0] at this
  exact this
