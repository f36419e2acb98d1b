/-! PURE PART 28: whole texts: line, both sides -/
section PLine3
variable {sort what part ops lineOf lineSort lineTerm page tasks : Nat → Int32} {many lines tm th i : Int32} {T j : Nat} {txt : List Nat}
theorem l183 (hp : pg page many txt) (hl : txt.length < 5999) (hi : ¬ i < 0) : ∃ page' many', f_X6_line_B183 lineOf lineSort lineTerm lines ops page many part sort tm tasks th what i = some (sgA (txt ++ [59]) i, (page', many', tm, tasks, th)) := by
  obtain ⟨p1, q1, e1, g1⟩ := m_say (c := 59) hp (by omega)
  refine ⟨p1, q1, ?_⟩
  unfold f_X6_line_B183
  rw [show f_X6_say page many 59 = some (p1, q1) from e1, Option.bind_some]
  exact m_signAt g1 (by rw [List.length_append, List.length_singleton]; omega) hi (p1, q1, tm, tasks, th)
theorem l150t {p : Nat} (hops : opsR ops) (hT : T ≤ 3000) (h : wfN sort what part T) (hpT : p < T) (hok : okT sort what part p) (hj : j < 2200) (h2 : ¬ lineSort j = 2) (hv : lineTerm j = nI p) (hp : pg page many txt) (hl : txt.length + (txN sort what part (p + 1) 0 p).length ≤ 1900) (hi : ¬ i < 0) : ∃ page' many' tm' tasks', f_X6_line_B150 lineOf lineSort lineTerm lines ops page many part sort tm tasks th what (nI j) i = some (sgA (txt ++ txN sort what part (p + 1) 0 p ++ [59]) i, (page', many', tm', tasks', th)) := by
  obtain ⟨p1, q1, m1, t1, e1, g1⟩ := m_sayTerm (tm := tm) (tasks := tasks) hops hT h hpT hok hp hl
  obtain ⟨p2, q2, e2⟩ := l183 (lineOf := lineOf) (lineSort := lineSort) (lineTerm := lineTerm) (lines := lines) (ops := ops) (part := part) (sort := sort) (what := what) (tm := m1) (tasks := t1) (th := th) g1 (by rw [List.length_append]; omega) hi
  refine ⟨p2, q2, m1, t1, ?_⟩
  unfold f_X6_line_B150
  rw [ixd_of (vp_in_nI hj (by omega)), nI_clamp (by omega), if_neg h2, ixd_of (vp_in_nI hj (by omega)), hv, e1, Option.bind_some]
  exact e2
theorem l150n (hj : j < 2200) (h2 : lineSort j = 2) (hv : numR (lineTerm j)) (hp : pg page many txt) (hl : txt.length ≤ 1900) (hi : ¬ i < 0) : ∃ page' many' tm' tasks', f_X6_line_B150 lineOf lineSort lineTerm lines ops page many part sort tm tasks th what (nI j) i = some (sgA (txt ++ dg (lineTerm j) ++ [59]) i, (page', many', tm', tasks', th)) := by
  have hdl := dg_len (lineTerm j)
  obtain ⟨p1, q1, e1, g1⟩ := m_sayNum (numR_3 hv) hp (by omega)
  obtain ⟨p2, q2, e2⟩ := l183 (lineOf := lineOf) (lineSort := lineSort) (lineTerm := lineTerm) (lines := lines) (ops := ops) (part := part) (sort := sort) (what := what) (tm := tm) (tasks := tasks) (th := th) g1 (by rw [List.length_append]; omega) hi
  refine ⟨p2, q2, tm, tasks, ?_⟩
  unfold f_X6_line_B150
  rw [ixd_of (vp_in_nI hj (by omega)), nI_clamp (by omega), if_pos h2, ixd_of (vp_in_nI hj (by omega)), e1, Option.bind_some]
  exact e2
theorem l138 {rest : List Nat} (hp : pg page many txt) (hl : txt.length ≤ 1900) (hk : ∀ (page : Nat → Int32) (many : Int32), pg page many (txt ++ [61] ++ [32]) → ∃ page' many' tm' tasks', f_X6_line_B150 lineOf lineSort lineTerm lines ops page many part sort tm tasks th what (nI j) i = some (sgA (txt ++ [61] ++ [32] ++ rest) i, (page', many', tm', tasks', th))) : ∃ page' many' tm' tasks', f_X6_line_B138 lineOf lineSort lineTerm lines ops page many part sort tm tasks th what (nI j) i = some (sgA (txt ++ [61] ++ [32] ++ rest) i, (page', many', tm', tasks', th)) := by
  obtain ⟨p1, q1, e1, g1⟩ := m_say (c := 61) hp (by omega)
  obtain ⟨p2, q2, e2, g2⟩ := m_say (c := 32) g1 (by rw [List.length_append, List.length_singleton]; omega)
  obtain ⟨p3, q3, m3, t3, e3⟩ := hk p2 q2 g2
  refine ⟨p3, q3, m3, t3, ?_⟩
  unfold f_X6_line_B138
  rw [show f_X6_say page many 61 = some (p1, q1) from e1, Option.bind_some]
  dsimp only
  rw [show f_X6_say p1 q1 32 = some (p2, q2) from e2, Option.bind_some]
  exact e3
end PLine3
section PLineB
variable {lck lcn ends tck tcn starts : Nat → Int32} {lcs lsz tcs tsz temps : Int32} {S : Sp} {n : Nat}
variable {sort what part pile lineSort lineOf lineTerm ops : Nat → Int32} {terms high lines mtemps : Int32} {T : Nat}
theorem line_both (hC : csR tck tcn tcs lck lcn lcs ends lsz tsz starts temps S) (hD : mdR sort what part terms high pile lines lineSort lineOf lineTerm mtemps T S) (hI : invS S n) (hn : n ≤ 100) (hO : okS S n) (hT : T ≤ 3000) (hops : opsR ops) (first ws : Int32) (signs w page tasks : Nat → Int32) (many tm th : Int32) (k i : Int32) :
    ∃ x first' signs' w' ws' page' many' tm' tasks', f_X5_line lck lcn lcs ends lsz first signs w ws k i = some (x, (first', signs', w', ws')) ∧ f_X6_line lineOf lineSort lineTerm lines ops page many part sort tm tasks th what k i = some (x, (page', many', tm', tasks', 0)) := by
  obtain ⟨hcd, hlz, hl100, hends⟩ := hC.2.1
  obtain ⟨-, hwf, -, -, -, hln, hlm, -⟩ := hD
  by_cases hk : k < 0
  · refine ⟨-1, first, signs, w, ws, page, many, tm, tasks, ?_, ?_⟩
    · unfold f_X5_line; rw [if_pos hk]
    · unfold f_X6_line; rw [if_pos hk]
  obtain ⟨j, hj, rfl⟩ := nI_of hk
  by_cases hjl : ¬ j < S.1.length
  · refine ⟨-1, first, signs, w, ws, page, many, tm, tasks, ?_, ?_⟩
    · unfold f_X5_line; rw [if_neg hk, hlz, if_neg (nI_nlt (by omega) (by omega))]
    · unfold f_X6_line; rw [if_neg hk, hln, if_pos (nI_le (by omega) (by omega))]
  have hjl : j < S.1.length := by omega
  have hq : S.1[j]? = some S.1[j] := List.getElem?_eq_getElem hjl
  generalize S.1[j] = q at hq
  have hL := hlm j q hq
  obtain ⟨kc, ke, kl, -⟩ := hO.2.1 q (List.mem_of_getElem? hq)
  obtain ⟨hfl, hfl2⟩ := fl_split hq
  have hsg : sg (fl S.1) (fl (S.1.take j)).length (q.1 ++ [q.2]) := by
    intro a c ha
    rw [hfl, List.getElem?_append_right (by omega), show (fl (S.1.take j)).length + a - (fl (S.1.take j)).length = a by omega, List.getElem?_append_left (lt_of_get ha)]
    exact ha
  obtain ⟨hsg1, -⟩ := sg_app hsg
  have hlast := sg_last hsg
  have hend : f_X1_endOf lcs ends lsz (nI j) = some (nI ((fl (S.1.take j)).length + q.1.length + 1), ()) := by
    unfold f_X1_endOf
    rw [if_neg hk, hlz, if_neg (nI_ge hjl (by omega)), ixd_of (vp_in_nI (by omega) (by omega)), nI_clamp hj, hends j hjl, hfl2]
  -- what the class answers
  have cls : ∀ (txt : List Nat), (∃ first' signs' w' ws', f_X3_writeLine lck lcn lcs first signs w ws (nI ((fl (S.1.take j)).length + q.1.length)) = some (first', signs', w', ws') ∧ wr first' signs' txt) → ∃ first' signs' w' ws', f_X5_line lck lcn lcs ends lsz first signs w ws (nI j) i = some (sgA txt i, (first', signs', w', ws')) := by
    rintro txt ⟨f1, s1, w1, v1, e1, g1⟩
    refine ⟨f1, s1, w1, v1, ?_⟩
    unfold f_X5_line
    rw [if_neg hk]
    rw [if_pos (show nI j < lsz by rw [hlz]; exact nI_lt hjl (by omega)), hend, Option.bind_some]
    dsimp only
    rw [nI_pred, e1, Option.bind_some]
    dsimp only
    rw [p_signAt g1]
    rfl
  -- the reference for a sign below 0
  have refN : i < 0 → f_X6_line lineOf lineSort lineTerm lines ops page many part sort tm tasks th what (nI j) i = some (-1, (page, many, tm, tasks, 0)) := by
    intro hi
    unfold f_X6_line
    rw [if_neg hk, hln, if_neg (nI_ge hjl (by omega)), if_neg (Int32.not_le.mpr hi)]
  have fin : ∀ (txt : List Nat), (∃ first' signs' w' ws', f_X3_writeLine lck lcn lcs first signs w ws (nI ((fl (S.1.take j)).length + q.1.length)) = some (first', signs', w', ws') ∧ wr first' signs' txt) → (¬ i < 0 → ∃ page' many' tm' tasks', f_X6_line lineOf lineSort lineTerm lines ops page many part sort tm tasks th what (nI j) i = some (sgA txt i, (page', many', tm', tasks', 0))) → ∃ x first' signs' w' ws' page' many' tm' tasks', f_X5_line lck lcn lcs ends lsz first signs w ws (nI j) i = some (x, (first', signs', w', ws')) ∧ f_X6_line lineOf lineSort lineTerm lines ops page many part sort tm tasks th what (nI j) i = some (x, (page', many', tm', tasks', 0)) := by
    intro txt h1 h2
    obtain ⟨f1, s1, w1, v1, e1⟩ := cls txt h1
    by_cases hi : i < 0
    · refine ⟨-1, f1, s1, w1, v1, page, many, tm, tasks, ?_, refN hi⟩
      rw [e1]
      unfold sgA
      rw [if_pos hi]
    · obtain ⟨p1, q1, m1, t1, e2⟩ := h2 hi
      exact ⟨_, f1, s1, w1, v1, p1, q1, m1, t1, e1, e2⟩
  have hin : vp_in (nI j) 2200 := vp_in_nI (by omega) (by omega)
  have open6 : ¬ i < 0 → f_X6_line lineOf lineSort lineTerm lines ops page many part sort tm tasks th what (nI j) i = (if lineSort j = 3 then (f_X6_say page 0 100).bind fun q17 => (f_X6_say q17.1 q17.2 114).bind fun q19 => (f_X6_say q19.1 q19.2 111).bind fun q21 => (f_X6_say q21.1 q21.2 112).bind fun q23 => f_X6_line_B106 lineOf lineSort lineTerm lines ops q23.1 q23.2 part sort tm tasks 0 what (nI j) i else if lineSort j = 0 then (f_X6_say page 0 116).bind fun q12 => (f_X6_sayNumber q12.1 q12.2 (lineOf j)).bind fun q15 => f_X6_line_B106 lineOf lineSort lineTerm lines ops q15.1 q15.2 part sort tm tasks 0 what (nI j) i else (f_X6_say page 0 (97 + lineOf j)).bind fun q10 => f_X6_line_B106 lineOf lineSort lineTerm lines ops q10.1 q10.2 part sort tm tasks 0 what (nI j) i) := by
    intro hi
    unfold f_X6_line
    rw [if_neg hk, hln, if_neg (nI_ge hjl (by omega)), if_pos (Int32.not_lt.mp hi), ixd_of hin, nI_clamp hj, ixd_of hin]
    rw [show (fun q12 : (Nat → Int32) × Int32 => ixd (nI j) 2200 ((f_X6_sayNumber q12.1 q12.2 (lineOf j)).bind fun q15 => f_X6_line_B106 lineOf lineSort lineTerm (nI S.1.length) ops q15.1 q15.2 part sort tm tasks 0 what (nI j) i)) = fun q12 => (f_X6_sayNumber q12.1 q12.2 (lineOf j)).bind fun q15 => f_X6_line_B106 lineOf lineSort lineTerm (nI S.1.length) ops q15.1 q15.2 part sort tm tasks 0 what (nI j) i from funext fun q12 => ixd_of hin]
    rw [ixd_of hin]
  rcases hL with ⟨hs, hq2, p, hpT, hv, hm⟩ | ⟨hs, hq2, p, hpT, hv, hm⟩ | ⟨hs, hq1, nn, hq2, ho, hv⟩ | ⟨hs, hq2, p, hpT, hv, hm⟩
  · -- a temporary
    rw [hq2] at ke hlast
    obtain ⟨o, ho, hoe⟩ := okE_12 ke
    have hok : okT sort what part p := by intro c hc; rw [hm] at hc; exact kc c hc
    have htx := (tx_len hT hwf (p + 1) 0 p (by omega) hpT (by omega) hok).2
    rw [hm] at htx
    rw [hoe, ← hm] at hlast
    rw [← hm] at hsg1
    refine fin (116 :: (dg (nI o) ++ 32 :: 61 :: 32 :: (txN sort what part (p + 1) 0 p ++ [59]))) ?_ ?_
    · rw [← hm]
      exact wl_12 hT hwf hcd hpT hok hsg1 hlast ho (by omega)
    · intro hi
      have hdl := dg_len (nI o)
      obtain ⟨p1, q1, e1, g1⟩ := m_say (c := 116) (pg_0 page) (by rw [List.length_nil]; omega)
      obtain ⟨p2, q2, e2, g2⟩ := m_sayNum (n := nI o) (Or.inl ⟨o, by omega, rfl⟩) g1 (by simp only [List.length_append, List.length_cons, List.length_nil]; omega)
      obtain ⟨p3, q3, e3, g3⟩ := m_say (c := 32) g2 (by simp only [List.length_append, List.length_cons, List.length_nil]; omega)
      obtain ⟨p4, q4, m4, t4, e4⟩ := l138 (lineOf := lineOf) (lineSort := lineSort) (lineTerm := lineTerm) (lines := lines) (ops := ops) (part := part) (sort := sort) (what := what) (tm := tm) (tasks := tasks) (th := 0) (j := j) (i := i) (rest := txN sort what part (p + 1) 0 p ++ [59]) g3 (by simp only [List.length_append, List.length_cons, List.length_nil]; omega) (fun pa ma hg => by
        have := l150t (lineOf := lineOf) (lineSort := lineSort) (lineTerm := lineTerm) (lines := lines) (tm := tm) (tasks := tasks) (th := 0) hops hT hwf hpT hok (show j < 2200 by omega) (by rw [hs]; decide) hv hg (by simp only [List.length_append, List.length_cons, List.length_nil]; omega) hi
        rw [List.append_assoc _ _ [59]] at this
        exact this)
      refine ⟨p4, q4, m4, t4, ?_⟩
      rw [open6 hi, hs, if_neg (by decide), if_pos rfl, show f_X6_say page 0 116 = some (p1, q1) from e1, Option.bind_some]
      dsimp only
      rw [hoe, e2, Option.bind_some]
      unfold f_X6_line_B106
      dsimp only
      rw [show f_X6_say p2 q2 32 = some (p3, q3) from e3, Option.bind_some, ixd_of hin, nI_clamp hj, hs, if_neg (by decide), ixd_of hin, if_neg (by decide), e4]
      simp only [List.append_assoc, List.nil_append, List.cons_append]
  · -- a variable is set
    rw [hq2] at ke hlast
    obtain ⟨o, ho, hoe⟩ := okE_2 ke
    have hok : okT sort what part p := by intro c hc; rw [hm] at hc; exact kc c hc
    have htx := (tx_len hT hwf (p + 1) 0 p (by omega) hpT (by omega) hok).2
    rw [hm] at htx
    rw [hoe, ← hm] at hlast
    rw [← hm] at hsg1
    refine fin ((97 + o) :: 32 :: 61 :: 32 :: (txN sort what part (p + 1) 0 p ++ [59])) ?_ ?_
    · rw [← hm]
      exact wl_2 hT hwf hcd hpT hok hsg1 hlast ho (by omega)
    · intro hi
      obtain ⟨p1, q1, e1, g1⟩ := m_say (c := 97 + o) (pg_0 page) (by rw [List.length_nil]; omega)
      obtain ⟨p3, q3, e3, g3⟩ := m_say (c := 32) g1 (by simp only [List.length_append, List.length_cons, List.length_nil]; omega)
      obtain ⟨p4, q4, m4, t4, e4⟩ := l138 (lineOf := lineOf) (lineSort := lineSort) (lineTerm := lineTerm) (lines := lines) (ops := ops) (part := part) (sort := sort) (what := what) (tm := tm) (tasks := tasks) (th := 0) (j := j) (i := i) (rest := txN sort what part (p + 1) 0 p ++ [59]) g3 (by simp only [List.length_append, List.length_cons, List.length_nil]; omega) (fun pa ma hg => by
        have := l150t (lineOf := lineOf) (lineSort := lineSort) (lineTerm := lineTerm) (lines := lines) (tm := tm) (tasks := tasks) (th := 0) hops hT hwf hpT hok (show j < 2200 by omega) (by rw [hs]; decide) hv hg (by simp only [List.length_append, List.length_cons, List.length_nil]; omega) hi
        rw [List.append_assoc _ _ [59]] at this
        exact this)
      refine ⟨p4, q4, m4, t4, ?_⟩
      rw [open6 hi, hs, if_neg (by decide), if_neg (by decide), hoe, show (97 : Int32) + nI o = nI (97 + o) from nI_add 97 o, e1, Option.bind_some]
      unfold f_X6_line_B106
      dsimp only
      rw [show f_X6_say p1 q1 32 = some (p3, q3) from e3, Option.bind_some, ixd_of hin, nI_clamp hj, hs, if_neg (by decide), ixd_of hin, if_neg (by decide), e4]
      simp only [List.append_assoc, List.nil_append, List.cons_append]
  · -- a variable grows
    rw [hq2] at ke hlast
    obtain ⟨g, hg, hge⟩ := okE_3 ke
    rw [hge] at hlast ho hv
    obtain ⟨n1, n2⟩ := gr_num hg
    refine fin ((97 + g / 256) :: 32 :: 43 :: 61 :: 32 :: (dg (nI g - nI g / 256 * 256 - 128) ++ [59])) ?_ ?_
    · exact wl_3 hcd hlast hg
    · intro hi
      obtain ⟨p1, q1, e1, g1⟩ := m_say (c := 97 + g / 256) (pg_0 page) (by rw [List.length_nil]; omega)
      obtain ⟨p2, q2, e2, g2⟩ := m_say (c := 32) g1 (by simp only [List.length_append, List.length_cons, List.length_nil]; omega)
      obtain ⟨p3, q3, e3, g3⟩ := m_say (c := 43) g2 (by simp only [List.length_append, List.length_cons, List.length_nil]; omega)
      obtain ⟨p4, q4, m4, t4, e4⟩ := l138 (lineOf := lineOf) (lineSort := lineSort) (lineTerm := lineTerm) (lines := lines) (ops := ops) (part := part) (sort := sort) (what := what) (tm := tm) (tasks := tasks) (th := 0) (j := j) (i := i) (rest := dg (nI g - nI g / 256 * 256 - 128) ++ [59]) g3 (by simp only [List.length_append, List.length_cons, List.length_nil]; omega) (fun pa ma hgg => by
        have := l150n (lineOf := lineOf) (lineSort := lineSort) (lineTerm := lineTerm) (lines := lines) (ops := ops) (part := part) (sort := sort) (what := what) (tm := tm) (tasks := tasks) (th := 0) (show j < 2200 by omega) hs (by rw [hv]; exact n1) hgg (by simp only [List.length_append, List.length_cons, List.length_nil]; omega) hi
        rw [List.append_assoc _ _ [59], hv] at this
        exact this)
      refine ⟨p4, q4, m4, t4, ?_⟩
      rw [open6 hi, hs, if_neg (by decide), if_neg (by decide), ho, n2, show (97 : Int32) + nI (g / 256) = nI (97 + g / 256) from nI_add 97 _, e1, Option.bind_some]
      unfold f_X6_line_B106
      dsimp only
      rw [show f_X6_say p1 q1 32 = some (p2, q2) from e2, Option.bind_some, ixd_of hin, nI_clamp hj, hs, if_neg (by decide), ixd_of hin, if_pos rfl]
      dsimp only
      rw [show f_X6_say p2 q2 43 = some (p3, q3) from e3, Option.bind_some, e4]
      simp only [List.append_assoc, List.nil_append, List.cons_append]
      rw [n2]
  · -- a term is dropped
    rw [hq2] at ke hlast
    have hok : okT sort what part p := by intro c hc; rw [hm] at hc; exact kc c hc
    have htx := (tx_len hT hwf (p + 1) 0 p (by omega) hpT (by omega) hok).2
    rw [hm] at htx
    rw [← hm] at hlast hsg1
    refine fin (100 :: 114 :: 111 :: 112 :: 32 :: (txN sort what part (p + 1) 0 p ++ [59])) ?_ ?_
    · rw [← hm]
      exact wl_6 hT hwf hcd hpT hok hsg1 hlast (by omega)
    · intro hi
      obtain ⟨p1, q1, e1, g1⟩ := m_say (c := 100) (pg_0 page) (by rw [List.length_nil]; omega)
      obtain ⟨p2, q2, e2, g2⟩ := m_say (c := 114) g1 (by simp only [List.length_append, List.length_cons, List.length_nil]; omega)
      obtain ⟨p3, q3, e3, g3⟩ := m_say (c := 111) g2 (by simp only [List.length_append, List.length_cons, List.length_nil]; omega)
      obtain ⟨p4, q4, e4, g4⟩ := m_say (c := 112) g3 (by simp only [List.length_append, List.length_cons, List.length_nil]; omega)
      obtain ⟨p5, q5, e5, g5⟩ := m_say (c := 32) g4 (by simp only [List.length_append, List.length_cons, List.length_nil]; omega)
      obtain ⟨p6, q6, m6, t6, e6⟩ := l150t (lineOf := lineOf) (lineSort := lineSort) (lineTerm := lineTerm) (lines := lines) (tm := tm) (tasks := tasks) (th := 0) hops hT hwf hpT hok (show j < 2200 by omega) (by rw [hs]; decide) hv g5 (by simp only [List.length_append, List.length_cons, List.length_nil]; omega) hi
      refine ⟨p6, q6, m6, t6, ?_⟩
      rw [open6 hi, hs, if_pos rfl, show f_X6_say page 0 100 = some (p1, q1) from e1, Option.bind_some]
      dsimp only
      rw [show f_X6_say p1 q1 114 = some (p2, q2) from e2, Option.bind_some]
      dsimp only
      rw [show f_X6_say p2 q2 111 = some (p3, q3) from e3, Option.bind_some]
      dsimp only
      rw [show f_X6_say p3 q3 112 = some (p4, q4) from e4, Option.bind_some]
      unfold f_X6_line_B106
      dsimp only
      rw [show f_X6_say p4 q4 32 = some (p5, q5) from e5, Option.bind_some, ixd_of hin, nI_clamp hj, hs, if_pos (by decide), e6]
      simp only [List.append_assoc, List.nil_append, List.cons_append]
end PLineB
