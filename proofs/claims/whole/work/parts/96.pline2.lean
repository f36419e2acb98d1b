/-! PURE PART 27: whole texts: line -/
section PLine2
variable {k n : Nat → Int32} {z : Int32} {L : List Cl} {sort what part ops : Nat → Int32} {T : Nat}
theorem tw_step {first : Int32} {signs : Nat → Int32} {txt : List Nat} {i j c : Nat} (hc : c < 128) (hch : f_J0_charAt_5068e i (nI j) = some (nI c, ())) (hj : j < 100) (hw : wr first signs txt) (hl : txt.length < 800) : ∃ first' signs', (∀ fu : Nat, f_X3_writeText_B7 (fu + 1) first signs i (nI j) = f_X3_writeText_B7 fu first' signs' i (nI j + (-1))) ∧ wr first' signs' (c :: txt) := by
  obtain ⟨f1, s1, e1, g1⟩ := p_write hw hl hc
  refine ⟨f1, s1, fun fu => ?_, g1⟩
  rw [f_X3_writeText_B7, if_neg (nI_pos (by omega)), hch, Option.bind_some]
  dsimp only
  rw [e1, Option.bind_some]
theorem tw_end {first : Int32} {signs : Nat → Int32} (i fu : Nat) : f_X3_writeText_B7 (fu + 1) first signs i (nI 0 + (-1)) = some (first, signs) := by
  rw [f_X3_writeText_B7, if_pos (by decide)]
theorem tw_1 {first : Int32} {signs : Nat → Int32} {txt : List Nat} (hw : wr first signs txt) (hl : txt.length + 3 ≤ 800) : ∃ first' signs', f_X3_writeText first signs 1 = some (first', signs') ∧ wr first' signs' (32 :: 61 :: 32 :: txt) := by
  obtain ⟨f1, s1, e1, g1⟩ := tw_step (i := 1) (j := 2) (c := 32) (by omega) rfl (by omega) hw (by omega)
  obtain ⟨f2, s2, e2, g2⟩ := tw_step (i := 1) (j := 1) (c := 61) (by omega) rfl (by omega) g1 (by rw [List.length_cons]; omega)
  obtain ⟨f3, s3, e3, g3⟩ := tw_step (i := 1) (j := 0) (c := 32) (by omega) rfl (by omega) g2 (by rw [List.length_cons, List.length_cons]; omega)
  refine ⟨f3, s3, ?_, g3⟩
  unfold f_X3_writeText
  rw [show f_J0_length_8abf5 1 = some (nI 3, ()) from rfl, Option.bind_some, show ((nI 3, ()) : Int32 × Unit).1 - 1 = nI 2 from rfl, FU_4, show 4996 + 4 = 4996 + 1 + 1 + 1 + 1 from rfl, e1, pk_m1, e2, pk_m1, e3, tw_end]
theorem tw_2 {first : Int32} {signs : Nat → Int32} {txt : List Nat} (hw : wr first signs txt) (hl : txt.length + 4 ≤ 800) : ∃ first' signs', f_X3_writeText first signs 2 = some (first', signs') ∧ wr first' signs' (32 :: 43 :: 61 :: 32 :: txt) := by
  obtain ⟨f1, s1, e1, g1⟩ := tw_step (i := 2) (j := 3) (c := 32) (by omega) rfl (by omega) hw (by omega)
  obtain ⟨f2, s2, e2, g2⟩ := tw_step (i := 2) (j := 2) (c := 61) (by omega) rfl (by omega) g1 (by rw [List.length_cons]; omega)
  obtain ⟨f3, s3, e3, g3⟩ := tw_step (i := 2) (j := 1) (c := 43) (by omega) rfl (by omega) g2 (by rw [List.length_cons, List.length_cons]; omega)
  obtain ⟨f4, s4, e4, g4⟩ := tw_step (i := 2) (j := 0) (c := 32) (by omega) rfl (by omega) g3 (by rw [List.length_cons, List.length_cons, List.length_cons]; omega)
  refine ⟨f4, s4, ?_, g4⟩
  unfold f_X3_writeText
  rw [show f_J0_length_8abf5 2 = some (nI 4, ()) from rfl, Option.bind_some, show ((nI 4, ()) : Int32 × Unit).1 - 1 = nI 3 from rfl, FU_5, show 4995 + 5 = 4995 + 1 + 1 + 1 + 1 + 1 from rfl, e1, pk_m1, e2, pk_m1, e3, pk_m1, e4, tw_end]
theorem tw_3 {first : Int32} {signs : Nat → Int32} {txt : List Nat} (hw : wr first signs txt) (hl : txt.length + 5 ≤ 800) : ∃ first' signs', f_X3_writeText first signs 3 = some (first', signs') ∧ wr first' signs' (100 :: 114 :: 111 :: 112 :: 32 :: txt) := by
  obtain ⟨f0, s0, e0, g0⟩ := tw_step (i := 3) (j := 4) (c := 32) (by omega) rfl (by omega) hw (by omega)
  obtain ⟨f1, s1, e1, g1⟩ := tw_step (i := 3) (j := 3) (c := 112) (by omega) rfl (by omega) g0 (by rw [List.length_cons]; omega)
  obtain ⟨f2, s2, e2, g2⟩ := tw_step (i := 3) (j := 2) (c := 111) (by omega) rfl (by omega) g1 (by rw [List.length_cons, List.length_cons]; omega)
  obtain ⟨f3, s3, e3, g3⟩ := tw_step (i := 3) (j := 1) (c := 114) (by omega) rfl (by omega) g2 (by rw [List.length_cons, List.length_cons, List.length_cons]; omega)
  obtain ⟨f4, s4, e4, g4⟩ := tw_step (i := 3) (j := 0) (c := 100) (by omega) rfl (by omega) g3 (by rw [List.length_cons, List.length_cons, List.length_cons, List.length_cons]; omega)
  refine ⟨f4, s4, ?_, g4⟩
  unfold f_X3_writeText
  rw [show f_J0_length_8abf5 3 = some (nI 5, ()) from rfl, Option.bind_some, show ((nI 5, ()) : Int32 × Unit).1 - 1 = nI 4 from rfl, FU_5, show 4995 + 5 = 4994 + 1 + 1 + 1 + 1 + 1 + 1 from rfl, e0, pk_m1, e1, pk_m1, e2, pk_m1, e3, pk_m1, e4, tw_end]
theorem wr_0 (signs : Nat → Int32) : wr 800 signs [] := ⟨Nat.zero_le _, rfl, fun i c h => by cases h⟩
theorem pg_0 (page : Nat → Int32) : pg page 0 [] := ⟨rfl, fun i c h => by cases h⟩
theorem wl_2 {first ws : Int32} {signs w : Nat → Int32} {p s v : Nat} (hT : T ≤ 3000) (h : wfN sort what part T) (hcd : cd k n z L) (hp : p < T) (hok : okT sort what part p) (hsg : sg L s (mp sort what part p)) (hc : L[s + (mp sort what part p).length]? = some (2, nI v)) (hv : v < 10) (hl : (txN sort what part (p + 1) 0 p).length ≤ 700) :
    ∃ first' signs' w' ws', f_X3_writeLine k n z first signs w ws (nI (s + (mp sort what part p).length)) = some (first', signs', w', ws') ∧ wr first' signs' ((97 + v) :: 32 :: 61 :: 32 :: (txN sort what part (p + 1) 0 p ++ [59])) := by
  obtain ⟨f1, s1, e1, g1⟩ := p_write (c := 59) (wr_0 signs) (by rw [List.length_nil]; omega) (by omega)
  obtain ⟨f2, s2, w2, v2, e2, g2⟩ := p_writeTerm (w := w) (ws := ws) hT h hcd hp hok hsg g1 (by rw [List.length_singleton]; omega)
  obtain ⟨f3, s3, e3, g3⟩ := tw_1 g2 (by rw [List.length_append, List.length_singleton]; omega)
  obtain ⟨f4, s4, e4, g4⟩ := p_writeVar hv g3 (by simp only [List.length_cons, List.length_append, List.length_nil]; omega)
  refine ⟨f4, s4, w2, v2, ?_, g4⟩
  unfold f_X3_writeLine
  rw [p_kindAt hcd hc, Option.bind_some, p_numberAt hcd hc, Option.bind_some, show f_X3_write 800 signs 59 = some (f1, s1) from e1, Option.bind_some, if_pos rfl]
  dsimp only
  rw [e2, Option.bind_some]
  dsimp only
  rw [e3, Option.bind_some]
  dsimp only
  rw [e4, Option.bind_some]
theorem wl_6 {first ws a : Int32} {signs w : Nat → Int32} {p s : Nat} (hT : T ≤ 3000) (h : wfN sort what part T) (hcd : cd k n z L) (hp : p < T) (hok : okT sort what part p) (hsg : sg L s (mp sort what part p)) (hc : L[s + (mp sort what part p).length]? = some (6, a)) (hl : (txN sort what part (p + 1) 0 p).length ≤ 700) :
    ∃ first' signs' w' ws', f_X3_writeLine k n z first signs w ws (nI (s + (mp sort what part p).length)) = some (first', signs', w', ws') ∧ wr first' signs' (100 :: 114 :: 111 :: 112 :: 32 :: (txN sort what part (p + 1) 0 p ++ [59])) := by
  obtain ⟨f1, s1, e1, g1⟩ := p_write (c := 59) (wr_0 signs) (by rw [List.length_nil]; omega) (by omega)
  obtain ⟨f2, s2, w2, v2, e2, g2⟩ := p_writeTerm (w := w) (ws := ws) hT h hcd hp hok hsg g1 (by rw [List.length_singleton]; omega)
  obtain ⟨f3, s3, e3, g3⟩ := tw_3 g2 (by rw [List.length_append, List.length_singleton]; omega)
  refine ⟨f3, s3, w2, v2, ?_, g3⟩
  unfold f_X3_writeLine
  rw [p_kindAt hcd hc, Option.bind_some, p_numberAt hcd hc, Option.bind_some, show f_X3_write 800 signs 59 = some (f1, s1) from e1, Option.bind_some]
  dsimp only
  rw [if_neg (by decide), if_neg (by decide), if_pos rfl, e2, Option.bind_some]
  dsimp only
  rw [e3, Option.bind_some]
theorem wl_12 {first ws : Int32} {signs w : Nat → Int32} {p s j : Nat} (hT : T ≤ 3000) (h : wfN sort what part T) (hcd : cd k n z L) (hp : p < T) (hok : okT sort what part p) (hsg : sg L s (mp sort what part p)) (hc : L[s + (mp sort what part p).length]? = some (12, nI j)) (hj : j < 100) (hl : (txN sort what part (p + 1) 0 p).length ≤ 700) :
    ∃ first' signs' w' ws', f_X3_writeLine k n z first signs w ws (nI (s + (mp sort what part p).length)) = some (first', signs', w', ws') ∧ wr first' signs' (116 :: (dg (nI j) ++ 32 :: 61 :: 32 :: (txN sort what part (p + 1) 0 p ++ [59]))) := by
  obtain ⟨f1, s1, e1, g1⟩ := p_write (c := 59) (wr_0 signs) (by rw [List.length_nil]; omega) (by omega)
  obtain ⟨f2, s2, w2, v2, e2, g2⟩ := p_writeTerm (w := w) (ws := ws) hT h hcd hp hok hsg g1 (by rw [List.length_singleton]; omega)
  obtain ⟨f3, s3, e3, g3⟩ := tw_1 g2 (by rw [List.length_append, List.length_singleton]; omega)
  obtain ⟨f4, s4, e4, g4⟩ := p_writeTmp hj g3 (by simp only [List.length_cons, List.length_append, List.length_nil]; omega)
  refine ⟨f4, s4, w2, v2, ?_, g4⟩
  unfold f_X3_writeLine
  rw [p_kindAt hcd hc, Option.bind_some, p_numberAt hcd hc, Option.bind_some, show f_X3_write 800 signs 59 = some (f1, s1) from e1, Option.bind_some]
  dsimp only
  rw [if_neg (by decide), if_neg (by decide), if_neg (by decide), e2, Option.bind_some]
  dsimp only
  rw [e3, Option.bind_some]
  dsimp only
  rw [e4, Option.bind_some]
theorem gr_num {g : Nat} (hg : g < 2560) : numR (nI g - nI g / 256 * 256 - 128) ∧ nI g / 256 = nI (g / 256) := by
  have e1 : nI g - nI g / 256 * 256 = nI (g % 256) := pk_rem (d := 256) (by omega) (by omega) (by omega)
  refine ⟨?_, pk_div (d := 256) (by omega) (by omega) (by omega)⟩
  rw [e1]
  by_cases h : 128 ≤ g % 256
  · exact Or.inl ⟨g % 256 - 128, by omega, pk_sub (b := 128) h⟩
  · refine Or.inr ⟨128 - g % 256, by omega, by omega, ?_⟩
    rw [← pk_sub (a := 128) (b := g % 256) (by omega)]
    show nI (g % 256) - nI 128 = _
    rw [Int32.neg_sub]
theorem wl_3 {first ws : Int32} {signs w : Nat → Int32} {s g : Nat} (hcd : cd k n z L) (hc : L[s]? = some (3, nI g)) (hg : g < 2560) :
    ∃ first' signs' w' ws', f_X3_writeLine k n z first signs w ws (nI s) = some (first', signs', w', ws') ∧ wr first' signs' ((97 + g / 256) :: 32 :: 43 :: 61 :: 32 :: (dg (nI g - nI g / 256 * 256 - 128) ++ [59])) := by
  obtain ⟨n1, n2⟩ := gr_num hg
  have hdl := dg_len (nI g - nI g / 256 * 256 - 128)
  obtain ⟨f1, s1, e1, g1⟩ := p_write (c := 59) (wr_0 signs) (by rw [List.length_nil]; omega) (by omega)
  obtain ⟨f2, s2, e2, g2⟩ := p_writeNum (numR_3 n1) g1 (by rw [List.length_singleton]; omega)
  obtain ⟨f3, s3, e3, g3⟩ := tw_2 g2 (by rw [List.length_append, List.length_singleton]; omega)
  obtain ⟨f4, s4, e4, g4⟩ := p_writeVar (v := g / 256) (by omega) g3 (by simp only [List.length_cons, List.length_append, List.length_nil]; omega)
  refine ⟨f4, s4, w, ws, ?_, g4⟩
  unfold f_X3_writeLine f_X5_growthIn f_X5_grownVariableIn
  rw [p_kindAt hcd hc, Option.bind_some, p_numberAt hcd hc, Option.bind_some, show f_X3_write 800 signs 59 = some (f1, s1) from e1, Option.bind_some]
  dsimp only
  rw [if_neg (by decide), if_pos rfl, Option.bind_some]
  dsimp only
  rw [e2, Option.bind_some]
  dsimp only
  rw [e3, Option.bind_some, Option.bind_some]
  dsimp only
  rw [n2, e4, Option.bind_some]
end PLine2
theorem fl_split {Ls : List Ln} {j : Nat} {q : Ln} (h : Ls[j]? = some q) : fl Ls = fl (Ls.take j) ++ ((q.1 ++ [q.2]) ++ fl (Ls.drop (j + 1))) ∧ (fl (Ls.take (j + 1))).length = (fl (Ls.take j)).length + q.1.length + 1 := by
  obtain ⟨hlt, rfl⟩ := List.getElem?_eq_some_iff.mp h
  refine ⟨?_, ?_⟩
  · rw [← fl_one, ← fl_app, ← fl_app]
    congr 1
    rw [List.singleton_append, ← List.drop_eq_getElem_cons hlt, List.take_append_drop]
  · rw [List.take_succ_eq_append_getElem hlt, fl_app]
    rw [show ([Ls[j]] : List Ln) = [(Ls[j].1, Ls[j].2)] from rfl, fl_one, List.length_append, List.length_append, List.length_singleton]
    omega
theorem okE_2 {w : Int32} (h : okE (2, w)) : ∃ v : Nat, v < 10 ∧ w = nI v := by
  rcases h with h | h | h | h
  · exact absurd (show (2 : Int32) = 12 from h.1) (by decide)
  · exact h.2
  · exact absurd (show (2 : Int32) = 3 from h.1) (by decide)
  · exact absurd (show (2 : Int32) = 6 from h.1) (by decide)
theorem okE_3 {w : Int32} (h : okE (3, w)) : ∃ g : Nat, g < 2560 ∧ w = nI g := by
  rcases h with h | h | h | h
  · exact absurd (show (3 : Int32) = 12 from h.1) (by decide)
  · exact absurd (show (3 : Int32) = 2 from h.1) (by decide)
  · exact h.2
  · exact absurd (show (3 : Int32) = 6 from h.1) (by decide)
theorem okE_12 {w : Int32} (h : okE (12, w)) : ∃ j : Nat, j < 100 ∧ w = nI j := by
  rcases h with h | h | h | h
  · exact h.2
  · exact absurd (show (12 : Int32) = 2 from h.1) (by decide)
  · exact absurd (show (12 : Int32) = 3 from h.1) (by decide)
  · exact absurd (show (12 : Int32) = 6 from h.1) (by decide)
