/-! PURE PART 35: the reference runs its lines -/
section PRunL
variable {sort what part pile lineSort lineOf lineTerm : Nat → Int32} {high : Int32} {T N : Nat}
/-- one line: where the reference stands behind it -/
def rlR (q : Bool × St) (fails' : Int32) (now' temporary' : Nat → Int64) (done' : Int32) : Prop := ((q.1 = true ∧ fails' = 0) ∨ (q.1 = false ∧ fails' = 1)) ∧ mB now' temporary' done' q.2 ∧ q.2.2.2.1 = []
theorem m_line1 (hT : T ≤ 3000) (hw : wfN sort what part T) (hN : N ≤ 2200) {i : Nat} (hi : i < N) {q : Ln} (hl : lnM sort what part T (lineSort i) (lineOf i) (lineTerm i) q) (hq : LH q) {s : St} (hs : s.2.2.1 = []) {now temporary values : Nat → Int64} {done vm : Int32} {opn stage : Nat → Int32} (hm : mB now temporary done s) :
    ∃ done' fails' now' opn' stage' temporary' vm' values', (∀ f : Nat, f_X6_runLines_B2 (f + 1) done 0 high lineOf lineSort lineTerm (nI N) now opn part pile sort stage temporary vm values what (nI i) = f_X6_runLines_B2 f done' fails' high lineOf lineSort lineTerm (nI N) now' opn' part pile sort stage' temporary' vm' values' what (nI (i + 1))) ∧ rlR (evL (q.1 ++ [q.2]) s) fails' now' temporary' done' := by
  obtain ⟨V, Tm, l, n⟩ := s
  have hs : l = [] := hs
  subst hs
  obtain ⟨L, E⟩ := q
  obtain ⟨k1, k2, k3, k4⟩ := hq
  have hiv : vp_in (nI i) 2200 := vp_in_nI (by omega) (by omega)
  have hlt : ¬ nI N ≤ nI i := nI_ge hi (by omega)
  have h0 : mS now temporary done values 0 (V, Tm, [], n) := ⟨hm, rfl, trivial⟩
  -- the term of a line
  have go : ∀ v : Int32, ¬ E.1 = 3 → nd sort what part T v L → ∃ done' fails' opn' stage' vm' values', f_X6_work done 0 now opn part sort stage temporary 0 values what v = some (done', fails', opn', stage', vm', values') ∧ (((evL L (V, Tm, [], n)).1 = true ∧ fails' = 0 ∧ ∃ x n', (evL L (V, Tm, [], n)).2 = ((evL L (V, Tm, [], n)).2.1, (evL L (V, Tm, [], n)).2.2.1, [x], n') ∧ values' 0 = x ∧ mB now temporary done' (evL L (V, Tm, [], n)).2) ∨ ((evL L (V, Tm, [], n)).1 = false ∧ fails' = 1 ∧ mB now temporary done' (evL L (V, Tm, [], n)).2 ∧ (evL L (V, Tm, [], n)).2.2.2.1 = [])) := by
    intro v hv hnd
    obtain ⟨p, hp, rfl, hmp⟩ := hnd
    have hmp : mp sort what part p = L := hmp
    have k1 : ∀ c ∈ L, okC c := k1
    have k3 : L.length ≤ 100 := k3
    rcases k4 with ⟨e1, -⟩ | ⟨-, e2⟩
    · exact absurd e1 hv
    · have e2 : hAL L 0 = some 1 := e2
      obtain ⟨d', f', o', s', vm', v', w1, w2⟩ := m_work (opn := opn) (stage := stage) hT hw hp (by unfold okT; rw [hmp]; exact k1) h0 (by show 0 ≤ 20; omega) (by rw [hmp]; exact e2) (by rw [hmp]; exact k3)
      refine ⟨d', f', o', s', vm', v', w1, ?_⟩
      rw [hmp] at w2
      rcases w2 with ⟨t1, t2, t3⟩ | w2
      · refine .inl ⟨t1, t2, ?_⟩
        have hl1 := evL_len L (V, Tm, [], n) 1 (fun c hc => Or.inl (k1 c hc)) e2 t1
        obtain ⟨m1, m2, m3⟩ := t3
        cases hE : (evL L (V, Tm, [], n)).2 with
        | mk V' q' =>
          obtain ⟨Tm', l', n'⟩ := q'
          rw [hE] at hl1 m1 m2 m3
          have hl1 : l'.length = 1 := hl1
          obtain ⟨x, r, rfl⟩ := ln1 (show 1 ≤ l'.length by omega)
          rw [List.length_cons] at hl1
          have : r = [] := List.length_eq_zero_iff.mp (by omega)
          subst this
          exact ⟨x, n', rfl, m3.1, m1⟩
      · exact .inr w2
  have evA : evL (L ++ [E]) (V, Tm, [], n) = if (evL L (V, Tm, [], n)).1 = true then evC E (evL L (V, Tm, [], n)).2 else evL L (V, Tm, [], n) := by
    rw [evL_app, evL_one]
  show ∃ done' fails' now' opn' stage' temporary' vm' values', _ ∧ rlR (evL (L ++ [E]) (V, Tm, [], n)) fails' now' temporary' done'
  rw [evA]
  rcases hl with ⟨hso, he, hnd⟩ | ⟨hso, he, hnd⟩ | ⟨hso, hL, g, he, ho, hv⟩ | ⟨hso, he, hnd⟩
  · -- a temporary
    have he : E = (12, lineOf i) := he
    obtain ⟨d', f', o', s', vm', v', w1, w2⟩ := go _ (by rw [he]; show ¬ (12 : Int32) = 3; decide) hnd
    obtain ⟨j, hj, ej⟩ : ∃ j : Nat, j < 100 ∧ lineOf i = nI j := by
      rw [show (L, E).2 = (12, lineOf i) from he] at k2
      rcases k2 with ⟨-, j, hj, e⟩ | ⟨h, -⟩ | ⟨h, -⟩ | ⟨h, -⟩
      · exact ⟨j, hj, e⟩
      · exact absurd h (by show ¬ (12 : Int32) = 2; decide)
      · exact absurd h (by show ¬ (12 : Int32) = 3; decide)
      · exact absurd h (by show ¬ (12 : Int32) = 6; decide)
    rcases w2 with ⟨t1, rfl, x, n', eE, ex, m1⟩ | ⟨t1, rfl, m1, m2⟩
    · refine ⟨d', 0, now, o', s', vp_updL temporary j x, vm', v', fun f => ?_, ?_⟩
      · rw [f_X6_runLines_B2, if_neg hlt, if_pos rfl, ixd_of hiv, nI_clamp (n := i) (by omega), hso, if_neg (by decide), ixd_of hiv, w1, Option.bind_some]
        dsimp only
        rw [if_pos rfl, ixd_of hiv, if_neg (by decide), ixd_of hiv, if_pos rfl, ixd_of hiv, ixd_of (by unfold vp_in; decide), ej, ixd_of (vp_in_nI (by omega) (by omega)), nI_clamp (n := j) (by omega), nI_1]
        show f_X6_runLines_B2 _ _ _ _ _ _ _ _ _ _ _ _ _ _ (vp_updL temporary j (v' 0)) _ _ _ _ = _
        rw [ex]
      · rw [if_pos t1, he, ej, eE]
        rw [eE] at m1
        refine ⟨.inl ⟨rfl, rfl⟩, ?_, rfl⟩
        show mB now (vp_updL temporary j x) d' ((evL L (V, Tm, [], n)).2.1, vp_updL (evL L (V, Tm, [], n)).2.2.1 (nI j).toNatClampNeg x, [], n')
        rw [nI_clamp (by omega)]
        exact ⟨m1.1, upL_eq m1.2.1, m1.2.2⟩
    · refine ⟨d', 1, now, o', s', temporary, vm', v', fun f => ?_, ?_⟩
      · rw [f_X6_runLines_B2, if_neg hlt, if_pos rfl, ixd_of hiv, nI_clamp (n := i) (by omega), hso, if_neg (by decide), ixd_of hiv, w1, Option.bind_some]
        dsimp only
        rw [if_neg one_ne, nI_1]
      · rw [if_neg (by rw [t1]; exact Bool.false_ne_true)]
        exact ⟨.inr ⟨t1, rfl⟩, m1, m2⟩
  · -- a variable is set
    have he : E = (2, lineOf i) := he
    obtain ⟨d', f', o', s', vm', v', w1, w2⟩ := go _ (by rw [he]; show ¬ (2 : Int32) = 3; decide) hnd
    obtain ⟨j, hj, ej⟩ : ∃ j : Nat, j < 10 ∧ lineOf i = nI j := by
      rw [show (L, E).2 = (2, lineOf i) from he] at k2
      rcases k2 with ⟨h, -⟩ | ⟨-, j, hj, e⟩ | ⟨h, -⟩ | ⟨h, -⟩
      · exact absurd h (by show ¬ (2 : Int32) = 12; decide)
      · exact ⟨j, hj, e⟩
      · exact absurd h (by show ¬ (2 : Int32) = 3; decide)
      · exact absurd h (by show ¬ (2 : Int32) = 6; decide)
    rcases w2 with ⟨t1, rfl, x, n', eE, ex, m1⟩ | ⟨t1, rfl, m1, m2⟩
    · refine ⟨d', 0, vp_updL now j x, o', s', temporary, vm', v', fun f => ?_, ?_⟩
      · rw [f_X6_runLines_B2, if_neg hlt, if_pos rfl, ixd_of hiv, nI_clamp (n := i) (by omega), hso, if_neg (by decide), ixd_of hiv, w1, Option.bind_some]
        dsimp only
        rw [if_pos rfl, ixd_of hiv, if_neg (by decide), ixd_of hiv, if_neg (by decide), ixd_of hiv, ixd_of (by unfold vp_in; decide), ej, ixd_of (vp_in_nI (by omega) (by omega)), nI_clamp (n := j) (by omega), nI_1]
        show f_X6_runLines_B2 _ _ _ _ _ _ _ _ (vp_updL now j (v' 0)) _ _ _ _ _ _ _ _ _ _ = _
        rw [ex]
      · rw [if_pos t1, he, ej, eE]
        rw [eE] at m1
        refine ⟨.inl ⟨rfl, rfl⟩, ?_, rfl⟩
        show mB (vp_updL now j x) temporary d' (vp_updL (evL L (V, Tm, [], n)).2.1 (nI j).toNatClampNeg x, (evL L (V, Tm, [], n)).2.2.1, [], n')
        rw [nI_clamp (by omega)]
        exact ⟨upL_eq m1.1, m1.2.1, m1.2.2⟩
    · refine ⟨d', 1, now, o', s', temporary, vm', v', fun f => ?_, ?_⟩
      · rw [f_X6_runLines_B2, if_neg hlt, if_pos rfl, ixd_of hiv, nI_clamp (n := i) (by omega), hso, if_neg (by decide), ixd_of hiv, w1, Option.bind_some]
        dsimp only
        rw [if_neg one_ne, nI_1]
      · rw [if_neg (by rw [t1]; exact Bool.false_ne_true)]
        exact ⟨.inr ⟨t1, rfl⟩, m1, m2⟩
  · -- a variable grows
    have hL : L = [] := hL
    have he3 : E = (3, g) := he
    subst hL
    obtain ⟨j, hj, ej⟩ : ∃ j : Nat, j < 2560 ∧ g = nI j := by
      rw [show (([] : List Cl), E).2 = (3, g) from he3] at k2
      rcases k2 with ⟨h, -⟩ | ⟨h, -⟩ | ⟨-, j, hj, e⟩ | ⟨h, -⟩
      · exact absurd h (by show ¬ (3 : Int32) = 12; decide)
      · exact absurd h (by show ¬ (3 : Int32) = 2; decide)
      · exact ⟨j, hj, e⟩
      · exact absurd h (by show ¬ (3 : Int32) = 6; decide)
    have n2 := (gr_num hj).2
    have ho2 : lineOf i = nI (j / 256) := by rw [ho, ej, n2]
    refine ⟨done, 0, vp_updL now (j / 256) (now (j / 256) + (lineTerm i).toInt64), opn, stage, temporary, 0, values, fun f => ?_, ?_⟩
    · rw [f_X6_runLines_B2, if_neg hlt, if_pos rfl, ixd_of hiv, nI_clamp (n := i) (by omega), hso, if_pos rfl, ixd_of hiv, ho2, ixd_of (vp_in_nI (by omega) (by omega)), ixd_of hiv, ixd_of (vp_in_nI (by omega) (by omega)), nI_clamp (n := j / 256) (by omega), nI_1]
    · show rlR (evC E (V, Tm, [], n)) _ _ _ _
      rw [he3, evC_3]
      refine ⟨.inl ⟨rfl, rfl⟩, ?_, rfl⟩
      dsimp only
      rw [show g / 256 = nI (j / 256) by rw [ej, n2], nI_clamp (by omega), hv, show g / 256 = nI (j / 256) by rw [ej, n2]]
      have hva : now (j / 256) = V (j / 256) := hm.1 (j / 256) (by omega)
      rw [hva]
      exact ⟨upL_eq hm.1, hm.2.1, hm.2.2⟩
  · -- a value is dropped
    have he : E = (6, 0) := he
    obtain ⟨d', f', o', s', vm', v', w1, w2⟩ := go _ (by rw [he]; show ¬ (6 : Int32) = 3; decide) hnd
    rcases w2 with ⟨t1, rfl, x, n', eE, ex, m1⟩ | ⟨t1, rfl, m1, m2⟩
    · refine ⟨d', 0, now, o', s', temporary, vm', v', fun f => ?_, ?_⟩
      · rw [f_X6_runLines_B2, if_neg hlt, if_pos rfl, ixd_of hiv, nI_clamp (n := i) (by omega), hso, if_neg (by decide), ixd_of hiv, w1, Option.bind_some]
        dsimp only
        rw [if_pos rfl, ixd_of hiv, if_pos rfl, nI_1]
      · rw [if_pos t1, he, eE]
        rw [eE] at m1
        exact ⟨.inl ⟨rfl, rfl⟩, m1, rfl⟩
    · refine ⟨d', 1, now, o', s', temporary, vm', v', fun f => ?_, ?_⟩
      · rw [f_X6_runLines_B2, if_neg hlt, if_pos rfl, ixd_of hiv, nI_clamp (n := i) (by omega), hso, if_neg (by decide), ixd_of hiv, w1, Option.bind_some]
        dsimp only
        rw [if_neg one_ne, nI_1]
      · rw [if_neg (by rw [t1]; exact Bool.false_ne_true)]
        exact ⟨.inr ⟨t1, rfl⟩, m1, m2⟩
/-- all lines -/
theorem m_lines (hT : T ≤ 3000) (hw : wfN sort what part T) (hN : N ≤ 2200) {Ls : List Ln} (hNL : N = Ls.length) (hl : ∀ (j : Nat) (q : Ln), Ls[j]? = some q → lnM sort what part T (lineSort j) (lineOf j) (lineTerm j) q) (hq : ∀ q ∈ Ls, LH q) :
    ∀ (R D : List Ln), Ls = D ++ R → ∀ (s : St) (now temporary values : Nat → Int64) (done vm : Int32) (opn stage : Nat → Int32) (f : Nat), s.2.2.1 = [] → mB now temporary done s → R.length < f →
    ∃ done' fails' now' opn' stage' temporary' values', f_X6_runLines_B2 f done 0 high lineOf lineSort lineTerm (nI N) now opn part pile sort stage temporary vm values what (nI D.length) = f_X6_runLines_B145 FU done' fails' high lineOf lineSort lineTerm (nI N) now' opn' part pile sort stage' temporary' 0 values' what 0 ∧ rlR (evL (fl R) s) fails' now' temporary' done' := by
  intro R
  induction R with
  | nil =>
    intro D hD s now temporary values done vm opn stage f hs hm hf
    obtain ⟨f, rfl⟩ : ∃ g, f = g + 1 := ⟨f - 1, by omega⟩
    rw [List.append_nil] at hD
    subst hD
    refine ⟨done, 0, now, opn, stage, temporary, values, ?_, .inl ⟨rfl, rfl⟩, hm, hs⟩
    rw [f_X6_runLines_B2, if_pos (by rw [hNL]; exact Int32.le_refl _)]
  | cons q R ih =>
    intro D hD s now temporary values done vm opn stage f hs hm hf
    rw [List.length_cons] at hf
    obtain ⟨f, rfl⟩ : ∃ g, f = g + 1 := ⟨f - 1, by omega⟩
    have hlen : D.length < N := by rw [hNL, hD]; simp only [List.length_append, List.length_cons]; omega
    have hget : Ls[D.length]? = some q := by rw [hD, List.getElem?_append_right (Nat.le_refl _), Nat.sub_self]; rfl
    obtain ⟨d', f', n', o', s', t', vm', v', w1, w2, w3, w4⟩ := m_line1 (high := high) (pile := pile) (values := values) (vm := vm) (opn := opn) (stage := stage) hT hw hN hlen (hl _ q hget) (hq q (by rw [hD]; exact List.mem_append_right _ List.mem_cons_self)) hs hm
    have e : fl (q :: R) = (q.1 ++ [q.2]) ++ fl R := rfl
    rw [e, evL_app, w1]
    rcases w2 with ⟨t1, rfl⟩ | ⟨t1, rfl⟩
    · rw [if_pos t1]
      have := ih (D ++ [q]) (by rw [hD, List.append_assoc]; rfl) (evL (q.1 ++ [q.2]) s).2 n' t' v' d' vm' o' s' f w4 w3 (by omega)
      rw [List.length_append] at this
      exact this
    · rw [if_neg (by rw [t1]; exact Bool.false_ne_true)]
      obtain ⟨f, rfl⟩ : ∃ g, f = g + 1 := ⟨f - 1, by omega⟩
      refine ⟨d', 1, n', o', s', t', v', ?_, .inr ⟨t1, rfl⟩, w3, w4⟩
      rw [f_X6_runLines_B2]
      by_cases hz : nI N ≤ nI (D.length + 1)
      · rw [if_pos hz]
      · rw [if_neg hz, if_neg one_ne]
/-- the pile's terms -/
theorem m_piles (hT : T ≤ 3000) (hw : wfN sort what part T) {Ps : List (List Cl)} (hP20 : Ps.length ≤ 20) (hp : ∀ (j : Nat) (P : List Cl), Ps[j]? = some P → nd sort what part T (pile j) P) (hc : ∀ P ∈ Ps, ∀ c ∈ P, okC c) (h100 : ∀ P ∈ Ps, P.length ≤ 100) {lines : Int32} :
    ∀ (R D : List (List Cl)), Ps = D ++ R → ∀ (s : St) (h' : Nat) (now temporary values : Nat → Int64) (done vm : Int32) (opn stage : Nat → Int32) (f : Nat), s.2.2.1.length ≤ 20 → hAL R.flatten s.2.2.1.length = some h' → mS now temporary done values vm s → R.length < f →
    ∃ done' fails' opn' stage' vm' values', f_X6_runLines_B145 f done 0 (nI Ps.length) lineOf lineSort lineTerm lines now opn part pile sort stage temporary vm values what (nI D.length) = some (done', fails', now, opn', stage', temporary, vm', values') ∧ (((evL R.flatten s).1 = true ∧ fails' = 0 ∧ mS now temporary done' values' vm' (evL R.flatten s).2 ∧ (evL R.flatten s).2.2.2.1.length = h') ∨ ((evL R.flatten s).1 = false ∧ fails' = 1 ∧ mB now temporary done' (evL R.flatten s).2 ∧ (evL R.flatten s).2.2.2.1 = [])) := by
  intro R
  induction R with
  | nil =>
    intro D hD s h' now temporary values done vm opn stage f hl hh hm hf
    obtain ⟨f, rfl⟩ : ∃ g, f = g + 1 := ⟨f - 1, by omega⟩
    rw [List.append_nil] at hD
    subst hD
    refine ⟨done, 0, opn, stage, vm, values, ?_, .inl ⟨rfl, rfl, hm, ?_⟩⟩
    · rw [f_X6_runLines_B145, if_pos (Int32.le_refl _)]
    · cases hh; rfl
  | cons P R ih =>
    intro D hD s h' now temporary values done vm opn stage f hl hh hm hf
    rw [List.length_cons] at hf
    obtain ⟨f, rfl⟩ : ∃ g, f = g + 1 := ⟨f - 1, by omega⟩
    have hlen : D.length < Ps.length := by rw [hD]; simp only [List.length_append, List.length_cons]; omega
    have hget : Ps[D.length]? = some P := by rw [hD, List.getElem?_append_right (Nat.le_refl _), Nat.sub_self]; rfl
    have hPm : P ∈ Ps := by rw [hD]; exact List.mem_append_right _ List.mem_cons_self
    obtain ⟨p, hpT, hpe, hmp⟩ := hp _ P hget
    rw [List.flatten_cons, hAL_app] at hh
    cases e1 : hAL P s.2.2.1.length with
    | none => rw [e1] at hh; cases hh
    | some h1 =>
      rw [e1, Option.bind_some] at hh
      obtain ⟨d', f', o', s', vm', v', w1, w2⟩ := m_work (opn := opn) (stage := stage) hT hw hpT (by unfold okT; rw [hmp]; exact hc P hPm) hm hl (by rw [hmp]; exact e1) (by rw [hmp]; exact h100 P hPm)
      rw [hmp] at w2
      rw [f_X6_runLines_B145, if_neg (nI_ge hlen (by omega)), if_pos rfl, ixd_of (vp_in_nI (by omega) (by omega)), nI_clamp (by omega), hpe, w1, Option.bind_some, List.flatten_cons, evL_app, nI_1]
      dsimp only
      rcases w2 with ⟨t1, rfl, m1⟩ | ⟨t1, rfl, m1, m2⟩
      · rw [if_pos t1]
        have hl1 := evL_len P s h1 (fun c hcc => Or.inl (hc P hPm c hcc)) e1 t1
        have := ih (D ++ [P]) (by rw [hD, List.append_assoc]; rfl) (evL P s).2 h' now temporary v' d' vm' o' s' f (by rw [hl1]; exact hAL_le _ _ _ hl e1) (by rw [hl1]; exact hh) m1 (by omega)
        rw [List.length_append] at this
        exact this
      · rw [if_neg (by rw [t1]; exact Bool.false_ne_true)]
        obtain ⟨f, rfl⟩ : ∃ g, f = g + 1 := ⟨f - 1, by omega⟩
        refine ⟨d', 1, o', s', vm', v', ?_, .inr ⟨t1, rfl, m1, m2⟩⟩
        rw [f_X6_runLines_B145]
        by_cases hz : nI Ps.length ≤ nI (D.length + 1)
        · rw [if_pos hz]
        · rw [if_neg hz, if_neg one_ne]
end PRunL
