/-! PURE PART 26: whole texts: the scribe's and the reference's, term -/
def sgA (txt : List Nat) (i : Int32) : Int32 := if i < 0 then -1 else match txt[i.toNatClampNeg]? with
  | some c => nI c
  | none => -1
theorem p_signAt {first : Int32} {signs : Nat → Int32} {txt : List Nat} (hw : wr first signs txt) (i : Int32) : f_X3_signAt first signs i = some (sgA txt i, ()) := by
  obtain ⟨w1, w2, w3⟩ := hw
  unfold f_X3_signAt sgA
  by_cases hi : i < 0
  · rw [if_pos hi, if_pos hi]
  · rw [if_neg hi, if_neg hi]
    obtain ⟨j, hj, rfl⟩ := nI_of hi
    have e : (800 : Int32) - first = nI txt.length := by
      rw [w2]
      have := pk_sub (a := 800) (b := 800 - txt.length) (by omega)
      rw [show 800 - (800 - txt.length) = txt.length by omega] at this
      exact this
    rw [e, nI_clamp hj]
    by_cases hl : txt.length ≤ j
    · rw [if_pos (nI_le hl (by omega)), List.getElem?_eq_none hl]
    · rw [if_neg (nI_ge (by omega) (by omega)), w2, nI_add, ixd_of (vp_in_nI (by omega) (by omega)), nI_clamp (by omega)]
      have hg : txt[j]? = some txt[j] := List.getElem?_eq_getElem (by omega)
      rw [hg]
      show some (signs (800 - txt.length + j), ()) = some (nI txt[j], ())
      rw [w3 j _ hg]
theorem m_signAt {page : Nat → Int32} {many : Int32} {txt : List Nat} (hp : pg page many txt) (hl : txt.length ≤ 6000) {i : Int32} (hi : ¬ i < 0) {α : Type} (st : α) : (if many ≤ i then some ((-1 : Int32), st) else ixd i 6000 (some (page i.toNatClampNeg, st))) = some (sgA txt i, st) := by
  obtain ⟨rfl, p2⟩ := hp
  unfold sgA
  rw [if_neg hi]
  obtain ⟨j, hj, rfl⟩ := nI_of hi
  rw [nI_clamp hj]
  by_cases hlj : txt.length ≤ j
  · rw [if_pos (nI_le hlj (by omega)), List.getElem?_eq_none hlj]
  · rw [if_neg (nI_ge (by omega) (by omega)), ixd_of (vp_in_nI (by omega) (by omega))]
    have hg : txt[j]? = some txt[j] := List.getElem?_eq_getElem (by omega)
    rw [hg, p2 j _ hg]
section PLine
variable {k n : Nat → Int32} {z : Int32} {L : List Cl} {sort what part ops : Nat → Int32} {T : Nat}
theorem p_writeTerm {first ws : Int32} {signs w : Nat → Int32} {txt : List Nat} {p s : Nat} (hT : T ≤ 3000) (h : wfN sort what part T) (hcd : cd k n z L) (hp : p < T) (hok : okT sort what part p) (hsg : sg L s (mp sort what part p)) (hw : wr first signs txt) (hl : txt.length + (txN sort what part (p + 1) 0 p).length ≤ 790) :
    ∃ first' signs' w' ws', f_X3_writeTerm k n z first signs w ws (nI (s + (mp sort what part p).length) - 1) = some (first', signs', w', ws') ∧ wr first' signs' (txN sort what part (p + 1) 0 p ++ txt) := by
  obtain ⟨cs, f1, s1, w1, hcs, e1, g1, -⟩ := p_wt hT h hcd (p + 1) 0 p (by omega) hp (by omega) hok s txt first signs (upd w 0 0) 0 0 hsg hw hl (by omega) (by omega) pk_us
  refine ⟨f1, s1, w1, nI 0, ?_, g1⟩
  obtain ⟨A, em⟩ := mp_len1 hT h hp
  have hmlen : (mp sort what part p).length = A.length + 1 := by rw [em, List.length_append, List.length_singleton]
  have ea : nI (s + (mp sort what part p).length) - 1 = nI (s + (mp sort what part p).length) + (-1) := by
    rw [hmlen, show s + (A.length + 1) = (s + A.length) + 1 by omega, nI_pred, pk_m1]
  have ef : FU = (4998 - cs + 1 + 1) + cs := by unfold FU; omega
  unfold f_X3_writeTerm
  rw [show f_X3_await w 0 0 = some (upd w 0 0, nI 1) from p_await (h := 0) (by omega) 0, Option.bind_some, ea, ef]
  have e2 := e1 (4998 - cs + 1 + 1)
  rw [nI_0] at e2
  dsimp only
  rw [show nI (0 + 1) = nI 1 from rfl] at e2
  rw [e2, f_X3_writeTerm_B15]
  by_cases h16 : (1600 : Int32) ≤ nI (0 + cs)
  · rw [if_pos h16, nI_0]
  · rw [if_neg h16, if_pos (by decide), nI_0]
theorem m_sayTerm {page tasks : Nat → Int32} {many tm : Int32} {txt : List Nat} {p : Nat} (hops : opsR ops) (hT : T ≤ 3000) (h : wfN sort what part T) (hp : p < T) (hok : okT sort what part p) (hg : pg page many txt) (hl : txt.length + (txN sort what part (p + 1) 0 p).length ≤ 1900) :
    ∃ page' many' tm' tasks', f_X6_sayTerm ops page many part sort tm tasks what (nI p) = some (page', many', tm', tasks') ∧ pg page' many' (txt ++ txN sort what part (p + 1) 0 p) := by
  obtain ⟨cs, p1, q1, w1, hcs, e1, g1, -⟩ := m_mt hops hT h (p + 1) p (by omega) hp hok txt page many (upd tasks 0 (nI p)) 0 hg (by omega) (by omega) pk_us
  refine ⟨p1, q1, 0, w1, ?_, g1⟩
  have ef : FU = (4998 - cs + 1 + 1) + cs := by unfold FU; omega
  unfold f_X6_sayTerm
  rw [show f_X6_task 0 tasks (nI p) = some (nI 1, upd tasks 0 (nI p)) from m_task (h := 0) (by omega) (nI p), Option.bind_some, ef]
  have e2 := e1 (4998 - cs + 1 + 1)
  rw [nI_0, show nI (0 + 1) = nI 1 from rfl] at e2
  dsimp only
  rw [e2, f_X6_sayTerm_B10, if_pos (by decide)]
theorem sg_off {Ps : List (List Cl)} {j : Nat} {P : List Cl} (h : Ps[j]? = some P) : sg Ps.flatten (off Ps j) P := by
  intro i c hi
  rw [← List.getElem?_drop, drop_off, drop_cons h, List.flatten_cons, List.getElem?_append_left (lt_of_get hi)]
  exact hi
end PLine
section PTerm
variable {ak an lck lcn ends tck tcn starts : Nat → Int32} {az lcs lsz tcs tsz temps : Int32} {A : List Cl} {S : Sp} {n : Nat}
variable {sort what part pile lineSort lineOf lineTerm ops : Nat → Int32} {terms high lines mtemps : Int32} {T : Nat}
theorem term_both (hC : csR tck tcn tcs lck lcn lcs ends lsz tsz starts temps S) (hD : mdR sort what part terms high pile lines lineSort lineOf lineTerm mtemps T S) (hI : invS S n) (hn : n ≤ 100) (hO : okS S n) (hT : T ≤ 3000) (hops : opsR ops) (first ws : Int32) (signs w page tasks : Nat → Int32) (many tm th : Int32) (k i : Int32) :
    ∃ x first' signs' w' ws' page' many' tm' tasks', f_X5_term first signs w ws tck tcn tcs tsz starts k i = some (x, (first', signs', w', ws')) ∧ f_X6_term high ops page many part pile sort tm tasks th what k i = some (x, (page', many', tm', tasks', 0)) := by
  obtain ⟨hcd, htz, h20, hst⟩ := hC.1
  obtain ⟨-, hwf, hhi, -, hpl, -⟩ := hD
  by_cases hk : k < 0
  · refine ⟨-1, first, signs, w, ws, page, many, tm, tasks, ?_, ?_⟩
    · unfold f_X5_term; rw [if_pos hk]
    · unfold f_X6_term; rw [if_pos hk]
  obtain ⟨j, hj, rfl⟩ := nI_of hk
  by_cases hjl : ¬ j < S.2.1.length
  · refine ⟨-1, first, signs, w, ws, page, many, tm, tasks, ?_, ?_⟩
    · unfold f_X5_term; rw [if_neg hk, htz, if_neg (nI_nlt (by omega) (by omega))]
    · unfold f_X6_term; rw [if_neg hk, hhi, if_pos (nI_le (by omega) (by omega))]
  have hjl : j < S.2.1.length := by omega
  have hP : S.2.1[j]? = some S.2.1[j] := List.getElem?_eq_getElem hjl
  obtain ⟨p, hpT, hpe, hpm⟩ := hpl j _ hP
  have hok : okT sort what part p := by intro c hc; rw [hpm] at hc; exact hO.1 _ (List.getElem_mem hjl) c hc
  have hlen : (mp sort what part p).length ≤ 100 := by
    rw [hpm]
    have := len_le_flat (List.getElem_mem hjl)
    have := hI.2.2.1
    omega
  have htx := (tx_len hT hwf (p + 1) 0 p (by omega) hpT (by omega) hok).2
  obtain ⟨f1, s1, w1, v1, e1, g1⟩ := p_writeTerm (first := 800) (signs := signs) (w := w) (ws := ws) (txt := []) (s := off S.2.1 j) hT hwf hcd hpT hok (by rw [hpm]; exact sg_off hP) ⟨Nat.zero_le _, rfl, fun i c h => by cases h⟩ (by rw [List.length_nil]; omega)
  rw [List.append_nil] at g1
  have hoff := off_succ hP
  have hend : f_X4_endOf tcs tsz starts (nI j) = some (nI (off S.2.1 (j + 1)), ()) := p_endOf hcd.1 htz h20 hjl ⟨fun hlt => hst (j + 1) hlt, fun he => by rw [he, off_all]⟩
  by_cases hi : i < 0
  · refine ⟨-1, f1, s1, w1, v1, page, many, tm, tasks, ?_, ?_⟩
    · unfold f_X5_term f_X3_writeOnlyTerm
      rw [if_neg hk, htz, if_pos (nI_lt hjl (by omega)), ← htz, hend, Option.bind_some]
      dsimp only
      rw [hoff, ← hpm, e1, Option.bind_some, Option.bind_some]
      dsimp only
      rw [p_signAt g1]
      unfold sgA
      rw [if_pos hi]
      rfl
    · unfold f_X6_term
      rw [if_neg hk, hhi, if_neg (nI_ge hjl (by omega)), if_neg (Int32.not_le.mpr hi)]
  · obtain ⟨p1, q1, m1, t1, e2, g2⟩ := m_sayTerm (page := page) (many := 0) (tasks := tasks) (tm := tm) (txt := []) hops hT hwf hpT hok ⟨rfl, fun i c h => by cases h⟩ (by rw [List.length_nil]; omega)
    rw [List.nil_append] at g2
    refine ⟨sgA (txN sort what part (p + 1) 0 p) i, f1, s1, w1, v1, p1, q1, m1, t1, ?_, ?_⟩
    · unfold f_X5_term f_X3_writeOnlyTerm
      rw [if_neg hk, htz, if_pos (nI_lt hjl (by omega)), ← htz, hend, Option.bind_some]
      dsimp only
      rw [hoff, ← hpm, e1, Option.bind_some, Option.bind_some]
      dsimp only
      rw [p_signAt g1]
      rfl
    · unfold f_X6_term
      rw [if_neg hk, hhi, if_neg (nI_ge hjl (by omega)), if_pos (Int32.not_lt.mp hi), ixd_of (vp_in_nI (by omega) (by omega)), nI_clamp hj, hpe, e2, Option.bind_some]
      exact m_signAt g2 (by omega) hi (p1, q1, m1, t1, (0 : Int32))
end PTerm
