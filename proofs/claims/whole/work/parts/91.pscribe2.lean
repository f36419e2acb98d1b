/-! PURE PART 22: the scribe writes a term: by its sort -/
section PScribe2
variable {k n : Nat → Int32} {z : Int32} {L : List Cl} {sort what part : Nat → Int32} {T : Nat}
theorem bd_leaf {f t : Nat} (hT : T ≤ 3000) (h : wfN sort what part T) (ht : t < T) {c : Cl} (em : mp sort what part t = [c]) (hpos : 1 ≤ (bdN sort what part f t).length)
    (hb : ∀ (txt : List Nat) (first : Int32) (signs w : Nat → Int32) (ws ρ : Int32), wr first signs txt → txt.length + (bdN sort what part f t).length ≤ 790 → ∃ first' signs', f_X3_writeCell_B25 first signs w ws (kc (sort t)) (what t) ρ = some (first', signs', w, ws) ∧ wr first' signs' (bdN sort what part f t ++ txt)) : BDs k n z L sort what part f t := by
  intro s txt first signs w hh st hsg hw h1 h2 h3
  obtain ⟨f1, s1, e1, g1⟩ := hb txt first signs w (nI hh) (nI (rk sort what t)) hw h1
  refine ⟨0, f1, s1, w, by omega, fun fu => ?_, g1, fun i _ => rfl⟩
  rw [e1, Option.bind_some, em]
  show f_X3_writeTerm_B15 (fu + 0) k n z f1 s1 w (nI hh) (nI (s + 1) + (-1) + (-1)) (nI st) = _
  rw [pk_m1]
  rfl
theorem bd_two {f t o a b : Nat} (e : sort t = 3) (ho : o < 8) (hw : what t = nI o) (ea : part (3 * t + 0) = nI a) (eb : part (3 * t + 1) = nI b) (ha : a < 3000) (hb : b < 3000) (em : mp sort what part t = mp sort what part a ++ (mp sort what part b ++ [(4, nI o)])) (la : 1 ≤ (txN sort what part f (opr o) a).length) (lb : 1 ≤ (txN sort what part f (opr o + 1) b).length)
    (iha : WTs k n z L sort what part f (opr o) a) (ihb : WTs k n z L sort what part f (opr o + 1) b) : BDs k n z L sort what part f t := by
  intro s txt first signs w hh st hsg hwr h1 h2 h3
  obtain ⟨q1, q2⟩ := bd_3 (f := f) e ho hw ea eb ha hb
  have hS := opS_lt o ho
  rw [q1] at h1 h2 h3 ⊢
  rw [List.length_append, List.length_cons, List.length_cons, List.length_cons] at h1 h2 h3
  rw [em] at hsg
  obtain ⟨sga, hsg⟩ := sg_app hsg
  obtain ⟨sgb, -⟩ := sg_app hsg
  have hml : (mp sort what part t).length = (mp sort what part a).length + ((mp sort what part b).length + 1) := by rw [em, List.length_append, List.length_append, List.length_singleton]
  obtain ⟨cb, f1, s1, w1, hcb, e1, g1, hw1⟩ := ihb (s + (mp sort what part a).length) txt first signs (upd (upd (upd (upd (upd w hh (nI (opr o))) (hh + 1) 32) (hh + 2) (nI (opS o))) (hh + 3) 32) (hh + 4) (nI (opr o + 1))) (hh + 4) st sgb hwr (by omega) (by omega) (by omega) pk_us
  obtain ⟨f2, s2, e2, g2⟩ := p_sign k n z (c := 32) (h := hh + 3) (st := st + cb) (w := w1) g1 (by rw [List.length_append]; omega) (by omega) (by omega) (by rw [hw1 _ (by omega)]; simp [upd]; rfl) (by omega) (by omega)
  obtain ⟨f3, s3, e3, g3⟩ := p_sign k n z (c := opS o) (h := hh + 2) (st := st + cb + 1) (w := w1) g2 (by rw [List.length_cons, List.length_append]; omega) (by omega) (by omega) (by rw [hw1 _ (by omega)]; simp [upd]) (by omega) (by omega)
  obtain ⟨f4, s4, e4, g4⟩ := p_sign k n z (c := 32) (h := hh + 1) (st := st + cb + 1 + 1) (w := w1) g3 (by rw [List.length_cons, List.length_cons, List.length_append]; omega) (by omega) (by omega) (by rw [hw1 _ (by omega)]; simp [upd]; rfl) (by omega) (by omega)
  obtain ⟨ca, f5, s5, w5, hca, e5, g5, hw5⟩ := iha s _ f4 s4 w1 hh (st + cb + 1 + 1 + 1) sga g4 (by rw [List.length_cons, List.length_cons, List.length_cons, List.length_append]; omega) (by omega) (by omega) (by rw [hw1 _ (by omega)]; simp [upd])
  refine ⟨ca + 3 + cb, f5, s5, w5, by rw [List.length_append, List.length_cons, List.length_cons, List.length_cons]; omega, fun fu => ?_, by rw [List.append_assoc]; exact g5, fun i hi => ?_⟩
  · rw [e, hw, q2, show kc 3 = 4 by decide, b25_4 (by omega) ho, Option.bind_some]
    dsimp only
    rw [hml, show s + ((mp sort what part a).length + ((mp sort what part b).length + 1)) = s + (mp sort what part a).length + (mp sort what part b).length + 1 by omega, pk_m1, show fu + (ca + 3 + cb) = (fu + ca + 1 + 1 + 1) + cb by omega]
    show f_X3_writeTerm_B15 _ _ _ _ _ _ _ (nI (hh + 4 + 1)) _ _ = _
    rw [e1, e2, e3, e4, e5, show st + cb + 1 + 1 + 1 + ca = st + (ca + 3 + cb) by omega]
  · rw [hw5 i hi, hw1 i (by omega), pk_un (by omega), pk_un (by omega), pk_un (by omega), pk_un (by omega), pk_un (by omega)]
theorem bd_min {f t a : Nat} (e : sort t = 4) (ea : part (3 * t + 0) = nI a) (ha : a < 3000) (em : mp sort what part t = mp sort what part a ++ [(5, 0)]) (la : 1 ≤ (txN sort what part f 7 a).length) (iha : WTs k n z L sort what part f 7 a) : BDs k n z L sort what part f t := by
  intro s txt first signs w hh st hsg hwr h1 h2 h3
  obtain ⟨q1, q2⟩ := bd_4 (what := what) (f := f) e ea ha
  rw [q1] at h1 h2 h3 ⊢
  rw [List.length_cons] at h1 h2 h3
  rw [em] at hsg
  obtain ⟨sga, -⟩ := sg_app hsg
  have hml : (mp sort what part t).length = (mp sort what part a).length + 1 := by rw [em, List.length_append, List.length_singleton]
  obtain ⟨ca, f1, s1, w1, hca, e1, g1, hw1⟩ := iha s txt first signs (upd (upd w hh 45) (hh + 1) 7) (hh + 1) st sga hwr (by omega) (by omega) (by omega) pk_us
  obtain ⟨f2, s2, e2, g2⟩ := p_sign k n z (c := 45) (h := hh) (st := st + ca) (w := w1) g1 (by rw [List.length_append]; omega) (by omega) (by omega) (by rw [hw1 _ (by omega)]; simp [upd]; rfl) (by omega) (by omega)
  refine ⟨ca + 1, f2, s2, w1, by rw [List.length_cons]; omega, fun fu => ?_, g2, fun i hi => ?_⟩
  · rw [e, show kc 4 = 5 by decide, b25_5 _ _ (by omega), Option.bind_some]
    dsimp only
    rw [hml, at_m, show fu + (ca + 1) = (fu + 1) + ca by omega]
    show f_X3_writeTerm_B15 _ _ _ _ _ _ _ (nI (hh + 1 + 1)) _ _ = _
    rw [e1, e2, show st + ca + 1 = st + (ca + 1) by omega]
  · rw [hw1 i (by omega), pk_un (by omega), pk_un (by omega)]
theorem bd_c0 {f t : Nat} (e : sort t = 5) (hw : what t = nI 0) (em : mp sort what part t = [(10, nI 0)]) : BDs k n z L sort what part f t := by
  intro s txt first signs w hh st hsg hwr h1 h2 h3
  have q1 := bd_50 (part := part) (f := f) e hw
  have hl3 : ([102, 40, 41] : List Nat).length = 3 := rfl
  rw [q1] at h1 h2 h3 ⊢
  obtain ⟨f1, s1, e1, g1⟩ := p_write (c := 41) hwr (by omega) (by omega)
  obtain ⟨f2, s2, e2, g2⟩ := p_sign k n z (c := 40) (h := hh + 1) (st := st) (w := upd (upd w hh 102) (hh + 1) 40) g1 (by rw [List.length_cons]; omega) (by omega) (by omega) pk_us (by omega) (by omega)
  obtain ⟨f3, s3, e3, g3⟩ := p_sign k n z (c := 102) (h := hh) (st := st + 1) (w := upd (upd w hh 102) (hh + 1) 40) g2 (by rw [List.length_cons, List.length_cons]; omega) (by omega) (by omega) (by simp [upd]; rfl) (by omega) (by omega)
  refine ⟨2, f3, s3, upd (upd w hh 102) (hh + 1) 40, by omega, fun fu => ?_, g3, fun i hi => ?_⟩
  · rw [e, hw, show kc 5 = 10 by decide, b25_10 e1 (ac_0 (by omega)), Option.bind_some]
    dsimp only
    rw [em]
    show f_X3_writeTerm_B15 (fu + 1 + 1) k n z f1 s1 _ (nI (hh + 1 + 1)) (nI (s + 1) + (-1) + (-1)) (nI st) = _
    rw [pk_m1, e2, e3]
  · rw [pk_un (by omega), pk_un (by omega)]
theorem bd_c1 {f t a : Nat} (e : sort t = 5) (hw : what t = nI 1) (ea : part (3 * t + 0) = nI a) (ha : a < 3000) (em : mp sort what part t = mp sort what part a ++ [(10, nI 1)]) (la : 1 ≤ (txN sort what part f 0 a).length) (iha : WTs k n z L sort what part f 0 a) : BDs k n z L sort what part f t := by
  intro s txt first signs w hh st hsg hwr h1 h2 h3
  have q1 := bd_51 (f := f) e hw ea ha
  rw [q1] at h1 h2 h3 ⊢
  rw [List.length_cons, List.length_cons, List.length_append, List.length_singleton] at h1 h2 h3
  rw [em] at hsg
  obtain ⟨sga, -⟩ := sg_app hsg
  have hml : (mp sort what part t).length = (mp sort what part a).length + 1 := by rw [em, List.length_append, List.length_singleton]
  obtain ⟨f0, s0, e0, g0⟩ := p_write (c := 41) hwr (by omega) (by omega)
  obtain ⟨ca, f1, s1, w1, hca, e1, g1, hw1⟩ := iha s (41 :: txt) f0 s0 (upd (upd (upd w hh 102) (hh + 1) 40) (hh + 2) 0) (hh + 2) st sga g0 (by rw [List.length_cons]; omega) (by omega) (by omega) pk_us
  obtain ⟨f2, s2, e2, g2⟩ := p_sign k n z (c := 40) (h := hh + 1) (st := st + ca) (w := w1) g1 (by rw [List.length_append, List.length_cons]; omega) (by omega) (by omega) (by rw [hw1 _ (by omega)]; simp [upd]; rfl) (by omega) (by omega)
  obtain ⟨f3, s3, e3, g3⟩ := p_sign k n z (c := 102) (h := hh) (st := st + ca + 1) (w := w1) g2 (by rw [List.length_cons, List.length_append, List.length_cons]; omega) (by omega) (by omega) (by rw [hw1 _ (by omega)]; simp [upd]; rfl) (by omega) (by omega)
  refine ⟨ca + 2, f3, s3, w1, by rw [List.length_cons, List.length_cons, List.length_append, List.length_singleton]; omega, fun fu => ?_, by rw [List.cons_append, List.cons_append, List.append_assoc]; exact g3, fun i hi => ?_⟩
  · rw [e, hw, show kc 5 = 10 by decide, b25_10 e0 (ac_1 (by omega)), Option.bind_some]
    dsimp only
    rw [hml, at_m, show fu + (ca + 2) = (fu + 1 + 1) + ca by omega]
    show f_X3_writeTerm_B15 _ _ _ _ _ _ _ (nI (hh + 2 + 1)) _ _ = _
    rw [e1, e2, e3, show st + ca + 1 + 1 = st + (ca + 2) by omega]
  · rw [hw1 i (by omega), pk_un (by omega), pk_un (by omega), pk_un (by omega)]
theorem bd_c2 {f t a b : Nat} (e : sort t = 5) (hw : what t = nI 2) (ea : part (3 * t + 0) = nI a) (eb : part (3 * t + 1) = nI b) (ha : a < 3000) (hb : b < 3000) (em : mp sort what part t = mp sort what part a ++ (mp sort what part b ++ [(10, nI 2)])) (la : 1 ≤ (txN sort what part f 0 a).length) (lb : 1 ≤ (txN sort what part f 0 b).length) (iha : WTs k n z L sort what part f 0 a) (ihb : WTs k n z L sort what part f 0 b) : BDs k n z L sort what part f t := by
  intro s txt first signs w hh st hsg hwr h1 h2 h3
  have q1 := bd_52 (f := f) e hw ea eb ha hb
  rw [q1] at h1 h2 h3 ⊢
  rw [List.length_cons, List.length_cons, List.length_append, List.length_append, List.length_cons, List.length_cons, List.length_singleton] at h1 h2 h3
  rw [em] at hsg
  obtain ⟨sga, hsg⟩ := sg_app hsg
  obtain ⟨sgb, -⟩ := sg_app hsg
  have hml : (mp sort what part t).length = (mp sort what part a).length + ((mp sort what part b).length + 1) := by rw [em, List.length_append, List.length_append, List.length_singleton]
  obtain ⟨f0, s0, e0, g0⟩ := p_write (c := 41) hwr (by omega) (by omega)
  obtain ⟨cb, f1, s1, w1, hcb, e1, g1, hw1⟩ := ihb (s + (mp sort what part a).length) (41 :: txt) f0 s0 (upd (upd (upd (upd (upd (upd w hh 102) (hh + 1) 40) (hh + 2) 0) (hh + 3) 44) (hh + 4) 32) (hh + 5) 0) (hh + 5) st sgb g0 (by rw [List.length_cons]; omega) (by omega) (by omega) pk_us
  obtain ⟨f2, s2, e2, g2⟩ := p_sign k n z (c := 32) (h := hh + 4) (st := st + cb) (w := w1) g1 (by rw [List.length_append, List.length_cons]; omega) (by omega) (by omega) (by rw [hw1 _ (by omega)]; simp [upd]; rfl) (by omega) (by omega)
  obtain ⟨f3, s3, e3, g3⟩ := p_sign k n z (c := 44) (h := hh + 3) (st := st + cb + 1) (w := w1) g2 (by rw [List.length_cons, List.length_append, List.length_cons]; omega) (by omega) (by omega) (by rw [hw1 _ (by omega)]; simp [upd]; rfl) (by omega) (by omega)
  obtain ⟨ca, f4, s4, w4, hca, e4, g4, hw4⟩ := iha s _ f3 s3 w1 (hh + 2) (st + cb + 1 + 1) sga g3 (by rw [List.length_cons, List.length_cons, List.length_append, List.length_cons]; omega) (by omega) (by omega) (by rw [hw1 _ (by omega)]; simp [upd]; rfl)
  obtain ⟨f5, s5, e5, g5⟩ := p_sign k n z (c := 40) (h := hh + 1) (st := st + cb + 1 + 1 + ca) (w := w4) g4 (by rw [List.length_append, List.length_cons, List.length_cons, List.length_append, List.length_cons]; omega) (by omega) (by omega) (by rw [hw4 _ (by omega), hw1 _ (by omega)]; simp [upd]; rfl) (by omega) (by omega)
  obtain ⟨f6, s6, e6, g6⟩ := p_sign k n z (c := 102) (h := hh) (st := st + cb + 1 + 1 + ca + 1) (w := w4) g5 (by rw [List.length_cons, List.length_append, List.length_cons, List.length_cons, List.length_append, List.length_cons]; omega) (by omega) (by omega) (by rw [hw4 _ (by omega), hw1 _ (by omega)]; simp [upd]; rfl) (by omega) (by omega)
  refine ⟨ca + cb + 4, f6, s6, w4, by rw [List.length_cons, List.length_cons, List.length_append, List.length_append, List.length_cons, List.length_cons, List.length_singleton]; omega, fun fu => ?_, ?_, fun i hi => ?_⟩
  · rw [e, hw, show kc 5 = 10 by decide, b25_10 e0 (ac_2 (by omega)), Option.bind_some]
    dsimp only
    rw [hml, show s + ((mp sort what part a).length + ((mp sort what part b).length + 1)) = s + (mp sort what part a).length + (mp sort what part b).length + 1 by omega, pk_m1, show fu + (ca + cb + 4) = (fu + 1 + 1 + ca + 1 + 1) + cb by omega]
    show f_X3_writeTerm_B15 _ _ _ _ _ _ _ (nI (hh + 5 + 1)) _ _ = _
    rw [e1, e2, e3, e4, e5, e6, show st + cb + 1 + 1 + ca + 1 + 1 = st + (ca + cb + 4) by omega]
  · rw [show (102 :: 40 :: ((txN sort what part f 0 a ++ 44 :: 32 :: txN sort what part f 0 b) ++ [41])) ++ txt = 102 :: 40 :: (txN sort what part f 0 a ++ (44 :: 32 :: (txN sort what part f 0 b ++ 41 :: txt))) by simp]
    exact g6
  · rw [hw4 i (by omega), hw1 i (by omega), pk_un (by omega), pk_un (by omega), pk_un (by omega), pk_un (by omega), pk_un (by omega), pk_un (by omega)]
theorem bd_c3 {f t a b c : Nat} (e : sort t = 5) (hw : what t = nI 3) (ea : part (3 * t + 0) = nI a) (eb : part (3 * t + 1) = nI b) (ec : part (3 * t + 2) = nI c) (ha : a < 3000) (hb : b < 3000) (hc : c < 3000) (em : mp sort what part t = mp sort what part a ++ (mp sort what part b ++ (mp sort what part c ++ [(10, nI 3)]))) (la : 1 ≤ (txN sort what part f 0 a).length) (lb : 1 ≤ (txN sort what part f 0 b).length) (lc : 1 ≤ (txN sort what part f 0 c).length) (iha : WTs k n z L sort what part f 0 a) (ihb : WTs k n z L sort what part f 0 b) (ihc : WTs k n z L sort what part f 0 c) : BDs k n z L sort what part f t := by
  intro s txt first signs w hh st hsg hwr h1 h2 h3
  have q1 := bd_53 (f := f) e hw ea eb ec ha hb hc
  rw [q1] at h1 h2 h3 ⊢
  rw [List.length_cons, List.length_cons, List.length_append, List.length_append, List.length_cons, List.length_cons, List.length_append, List.length_cons, List.length_cons, List.length_singleton] at h1 h2 h3
  rw [em] at hsg
  obtain ⟨sga, hsg⟩ := sg_app hsg
  obtain ⟨sgb, hsg⟩ := sg_app hsg
  obtain ⟨sgc, -⟩ := sg_app hsg
  have hml : (mp sort what part t).length = (mp sort what part a).length + ((mp sort what part b).length + ((mp sort what part c).length + 1)) := by rw [em, List.length_append, List.length_append, List.length_append, List.length_singleton]
  obtain ⟨f0, s0, e0, g0⟩ := p_write (c := 41) hwr (by omega) (by omega)
  obtain ⟨cc, f1, s1, w1, hcc, e1, g1, hw1⟩ := ihc (s + (mp sort what part a).length + (mp sort what part b).length) (41 :: txt) f0 s0 (upd (upd (upd (upd (upd (upd (upd (upd (upd w hh 102) (hh + 1) 40) (hh + 2) 0) (hh + 3) 44) (hh + 4) 32) (hh + 5) 0) (hh + 6) 44) (hh + 7) 32) (hh + 8) 0) (hh + 8) st sgc g0 (by rw [List.length_cons]; omega) (by omega) (by omega) pk_us
  obtain ⟨f2, s2, e2, g2⟩ := p_sign k n z (c := 32) (h := hh + 7) (st := st + cc) (w := w1) g1 (by rw [List.length_append, List.length_cons]; omega) (by omega) (by omega) (by rw [hw1 _ (by omega)]; simp [upd]; rfl) (by omega) (by omega)
  obtain ⟨f3, s3, e3, g3⟩ := p_sign k n z (c := 44) (h := hh + 6) (st := st + cc + 1) (w := w1) g2 (by rw [List.length_cons, List.length_append, List.length_cons]; omega) (by omega) (by omega) (by rw [hw1 _ (by omega)]; simp [upd]; rfl) (by omega) (by omega)
  obtain ⟨cb, f4, s4, w4, hcb, e4, g4, hw4⟩ := ihb (s + (mp sort what part a).length) _ f3 s3 w1 (hh + 5) (st + cc + 1 + 1) sgb g3 (by rw [List.length_cons, List.length_cons, List.length_append, List.length_cons]; omega) (by omega) (by omega) (by rw [hw1 _ (by omega)]; simp [upd]; rfl)
  obtain ⟨f5, s5, e5, g5⟩ := p_sign k n z (c := 32) (h := hh + 4) (st := st + cc + 1 + 1 + cb) (w := w4) g4 (by rw [List.length_append, List.length_cons, List.length_cons, List.length_append, List.length_cons]; omega) (by omega) (by omega) (by rw [hw4 _ (by omega), hw1 _ (by omega)]; simp [upd]; rfl) (by omega) (by omega)
  obtain ⟨f6, s6, e6, g6⟩ := p_sign k n z (c := 44) (h := hh + 3) (st := st + cc + 1 + 1 + cb + 1) (w := w4) g5 (by rw [List.length_cons, List.length_append, List.length_cons, List.length_cons, List.length_append, List.length_cons]; omega) (by omega) (by omega) (by rw [hw4 _ (by omega), hw1 _ (by omega)]; simp [upd]; rfl) (by omega) (by omega)
  obtain ⟨ca, f7, s7, w7, hca, e7, g7, hw7⟩ := iha s _ f6 s6 w4 (hh + 2) (st + cc + 1 + 1 + cb + 1 + 1) sga g6 (by rw [List.length_cons, List.length_cons, List.length_append, List.length_cons, List.length_cons, List.length_append, List.length_cons]; omega) (by omega) (by omega) (by rw [hw4 _ (by omega), hw1 _ (by omega)]; simp [upd]; rfl)
  obtain ⟨f8, s8, e8, g8⟩ := p_sign k n z (c := 40) (h := hh + 1) (st := st + cc + 1 + 1 + cb + 1 + 1 + ca) (w := w7) g7 (by rw [List.length_append, List.length_cons, List.length_cons, List.length_append, List.length_cons, List.length_cons, List.length_append, List.length_cons]; omega) (by omega) (by omega) (by rw [hw7 _ (by omega), hw4 _ (by omega), hw1 _ (by omega)]; simp [upd]; rfl) (by omega) (by omega)
  obtain ⟨f9, s9, e9, g9⟩ := p_sign k n z (c := 102) (h := hh) (st := st + cc + 1 + 1 + cb + 1 + 1 + ca + 1) (w := w7) g8 (by rw [List.length_cons, List.length_append, List.length_cons, List.length_cons, List.length_append, List.length_cons, List.length_cons, List.length_append, List.length_cons]; omega) (by omega) (by omega) (by rw [hw7 _ (by omega), hw4 _ (by omega), hw1 _ (by omega)]; simp [upd]; rfl) (by omega) (by omega)
  refine ⟨ca + cb + cc + 6, f9, s9, w7, by rw [List.length_cons, List.length_cons, List.length_append, List.length_append, List.length_cons, List.length_cons, List.length_append, List.length_cons, List.length_cons, List.length_singleton]; omega, fun fu => ?_, ?_, fun i hi => ?_⟩
  · rw [e, hw, show kc 5 = 10 by decide, b25_10 e0 (ac_3 (by omega)), Option.bind_some]
    dsimp only
    rw [hml, show s + ((mp sort what part a).length + ((mp sort what part b).length + ((mp sort what part c).length + 1))) = s + (mp sort what part a).length + (mp sort what part b).length + (mp sort what part c).length + 1 by omega, pk_m1, show fu + (ca + cb + cc + 6) = (fu + 1 + 1 + ca + 1 + 1 + cb + 1 + 1) + cc by omega]
    show f_X3_writeTerm_B15 _ _ _ _ _ _ _ (nI (hh + 8 + 1)) _ _ = _
    rw [e1, e2, e3, e4, e5, e6, e7, e8, e9, show st + cc + 1 + 1 + cb + 1 + 1 + ca + 1 + 1 = st + (ca + cb + cc + 6) by omega]
  · rw [show (102 :: 40 :: ((txN sort what part f 0 a ++ 44 :: 32 :: (txN sort what part f 0 b ++ 44 :: 32 :: txN sort what part f 0 c)) ++ [41])) ++ txt = 102 :: 40 :: (txN sort what part f 0 a ++ (44 :: 32 :: (txN sort what part f 0 b ++ (44 :: 32 :: (txN sort what part f 0 c ++ 41 :: txt))))) by simp]
    exact g9
  · rw [hw7 i (by omega), hw4 i (by omega), hw1 i (by omega), pk_un (by omega), pk_un (by omega), pk_un (by omega), pk_un (by omega), pk_un (by omega), pk_un (by omega), pk_un (by omega), pk_un (by omega), pk_un (by omega)]
/-- the scribe writes a term's text -/
theorem p_wt (hT : T ≤ 3000) (h : wfN sort what part T) (hcd : cd k n z L) : ∀ (f r t : Nat), t < f → t < T → r ≤ 7 → okT sort what part t → WTs k n z L sort what part f r t := by
  intro f
  induction f with
  | zero => intro r t h1; omega
  | succ f ih =>
    intro r t htf ht hr hok
    refine wt_of_bd hT h hcd htf ht hr hok ?_
    have hp := bd_pos (f := f) hT h htf ht hok
    rcases node_view hT h ht hok with ⟨e, hn, em⟩ | ⟨e, ⟨v, hv, hw⟩, em⟩ | ⟨e, ⟨j, hj, hw⟩, em⟩ | ⟨e, o, a, b, ho, hw, ha, hb, ea, eb, em, oa, ob⟩ | ⟨e, hw, a, ha, ea, em, oa⟩ | ⟨e, hw, em⟩ | ⟨e, hw, a, ha, ea, em, oa⟩ | ⟨e, hw, a, b, ha, hb, ea, eb, em, oa, ob⟩ | ⟨e, hw, a, b, c, ha, hb, hc, ea, eb, ec, em, oa, ob, oc⟩
    · refine bd_leaf hT h ht em hp (fun txt first signs w ws ρ hwr hl => ?_)
      obtain ⟨q1, -⟩ := bd_0 (what := what) (part := part) (f := f) e
      have hdl := dg_len (what t)
      rw [q1] at hl ⊢
      obtain ⟨f1, s1, e1, g1⟩ := p_writeNum (numR_3 hn) hwr (by omega)
      refine ⟨f1, s1, ?_, g1⟩
      rw [e, show kc 0 = 0 by decide]
      unfold f_X3_writeCell_B25
      rw [if_pos rfl, e1]
      rfl
    · refine bd_leaf hT h ht em hp (fun txt first signs w ws ρ hwr hl => ?_)
      obtain ⟨q1, -⟩ := bd_1 (part := part) (f := f) e hw (by omega)
      rw [q1, List.length_singleton] at hl
      rw [q1]
      obtain ⟨f1, s1, e1, g1⟩ := p_writeVar hv hwr (by omega)
      refine ⟨f1, s1, ?_, g1⟩
      rw [e, hw, show kc 1 = 1 by decide]
      unfold f_X3_writeCell_B25
      rw [if_neg (by decide), if_pos rfl, e1]
      rfl
    · refine bd_leaf hT h ht em hp (fun txt first signs w ws ρ hwr hl => ?_)
      obtain ⟨q1, -⟩ := bd_2 (what := what) (part := part) (f := f) e
      have hdl := dg_len (what t)
      rw [q1, List.length_cons] at hl
      rw [q1]
      obtain ⟨f1, s1, e1, g1⟩ := p_writeTmp hj hwr (by omega)
      rw [← hw] at e1 g1
      refine ⟨f1, s1, ?_, g1⟩
      rw [e, show kc 2 = 11 by decide]
      unfold f_X3_writeCell_B25
      rw [if_neg (by decide), if_neg (by decide), if_neg (by decide), if_neg (by decide), if_pos rfl, e1]
      rfl
    · have hle := opr_le o ho
      exact bd_two e ho hw ea eb (by omega) (by omega) em (tx_len hT h f _ a (by omega) (by omega) (by omega) oa).1 (tx_len hT h f _ b (by omega) (by omega) (by omega) ob).1 (ih _ a (by omega) (by omega) (by omega) oa) (ih _ b (by omega) (by omega) (by omega) ob)
    · exact bd_min e ea (by omega) em (tx_len hT h f _ a (by omega) (by omega) (by omega) oa).1 (ih _ a (by omega) (by omega) (by omega) oa)
    · exact bd_c0 e hw em
    · exact bd_c1 e hw ea (by omega) em (tx_len hT h f _ a (by omega) (by omega) (by omega) oa).1 (ih _ a (by omega) (by omega) (by omega) oa)
    · exact bd_c2 e hw ea eb (by omega) (by omega) em (tx_len hT h f _ a (by omega) (by omega) (by omega) oa).1 (tx_len hT h f _ b (by omega) (by omega) (by omega) ob).1 (ih _ a (by omega) (by omega) (by omega) oa) (ih _ b (by omega) (by omega) (by omega) ob)
    · exact bd_c3 e hw ea eb ec (by omega) (by omega) (by omega) em (tx_len hT h f _ a (by omega) (by omega) (by omega) oa).1 (tx_len hT h f _ b (by omega) (by omega) (by omega) ob).1 (tx_len hT h f _ c (by omega) (by omega) (by omega) oc).1 (ih _ a (by omega) (by omega) (by omega) oa) (ih _ b (by omega) (by omega) (by omega) ob) (ih _ c (by omega) (by omega) (by omega) oc)
end PScribe2
