/-! PURE PART 25: the reference says calls, terms -/
section PSay3
variable {sort what part ops : Nat → Int32} {T : Nat}
variable {K : (Nat → Int32) → (Nat → Int32) → Int32 → (Nat → Int32) → (Nat → Int32) → Int32 → (Nat → Int32) → (Nat → Int32) → Option ((Nat → Int32) × Int32 × Int32 × (Nat → Int32))}
theorem b306_e {page tasks : Nat → Int32} {many tm : Int32} {t : Int32} (fu : Nat) : f_X6_sayTerm_B306 K (fu + 1) ops page many part sort tm tasks what t (-1) = K ops page many part sort tm tasks what := by
  rw [f_X6_sayTerm_B306, if_pos (by decide)]
theorem b306_0 {page tasks : Nat → Int32} {many : Int32} {t h a : Nat} (ht : t < 3000) (hh : h < 2000) (ea : part (3 * t + 0) = nI a) (fu : Nat) : f_X6_sayTerm_B306 K (fu + 1) ops page many part sort (nI h) tasks what (nI t) (nI 0) = f_X6_sayTerm_B306 K fu ops page many part sort (nI (h + 1)) (upd tasks h (nI a)) what (nI t) (-1) := by
  have e3 : (3 : Int32) * nI t = nI (3 * t) := pk_mul 3 t
  rw [f_X6_sayTerm_B306, if_neg (by decide), e3, nI_add, ixd_of (vp_in_nI (by omega) (by omega)), nI_clamp (by omega), ea, m_task hh, Option.bind_some, if_pos (by decide)]
  rfl
theorem b306_s {page tasks : Nat → Int32} {many : Int32} {t h a k : Nat} (ht : t < 3000) (hk : k + 1 < 3) (hh : h + 3 ≤ 2000) (ea : part (3 * t + (k + 1)) = nI a) (fu : Nat) : f_X6_sayTerm_B306 K (fu + 1) ops page many part sort (nI h) tasks what (nI t) (nI (k + 1)) = f_X6_sayTerm_B306 K fu ops page many part sort (nI (h + 3)) (upd (upd (upd tasks h (nI a)) (h + 1) (-33)) (h + 2) (-45)) what (nI t) (nI k) := by
  have e3 : (3 : Int32) * nI t = nI (3 * t) := pk_mul 3 t
  rw [f_X6_sayTerm_B306, if_neg (nI_pos (by omega)), e3, nI_add, ixd_of (vp_in_nI (by omega) (by omega)), nI_clamp (by omega), ea, m_task (by omega), Option.bind_some, if_neg (nI_nle (by omega) (by omega))]
  dsimp only
  rw [m_task (by omega), Option.bind_some]
  dsimp only
  rw [m_task (by omega), Option.bind_some, pk_m1]
theorem call_open {f t x h : Nat} {txt : List Nat} {page tasks : Nat → Int32} {many : Int32} (ht : t < 3000) (e : sort t = 5) (hw : what t = nI x) (hx : x ≤ 3) (hp : pg page many txt) (hl : txt.length + 2 ≤ 6000) (hh : h + 2 ≤ 2000) (htk : tasks h = nI t) : ∃ page' many', (∀ fu : Nat, f_X6_sayTerm_B10 (fu + 1) ops page many part sort (nI (h + 1)) tasks what = f_X6_sayTerm_B306 (fun ops page pageMany part sort taskMany tasks what => f_X6_sayTerm_B10 fu ops page pageMany part sort taskMany tasks what) FU ops page' many' part sort (nI (h + 1)) (upd tasks h (-42)) what (nI t) (nI x - 1)) ∧ pg page' many' (txt ++ [102, 40]) := by
  obtain ⟨p0, q0, e0, g0⟩ := m_say (c := 102) hp (by omega)
  obtain ⟨p1, q1, e1, g1⟩ := m_say (c := 40) g0 (by simp only [List.length_append, List.length_cons, List.length_nil]; omega)
  refine ⟨p1, q1, fun fu => ?_, by rw [List.append_assoc] at g1; exact g1⟩
  have e3 : (3 : Int32) * nI t = nI (3 * t) := pk_mul 3 t
  rw [f_X6_sayTerm_B10, if_neg (nI_nle (by omega) (by omega)), nI_pred, ixd_of (vp_in_nI (by omega) (by omega)), nI_clamp (n := h) (by omega), htk, if_pos (nI_pos' (by omega)), e3, ixd_of (vp_in_nI (by omega) (by omega)), ixd_of (vp_in_nI ht (by omega)), nI_clamp (n := t) (by omega), e, if_neg (by decide), if_neg (by decide), if_neg (by decide), if_neg (by decide), if_neg (by decide), show f_X6_say page many 102 = some (p0, q0) from e0, Option.bind_some]
  dsimp only
  rw [show f_X6_say p0 q0 40 = some (p1, q1) from e1, Option.bind_some, m_task (by omega), Option.bind_some, ixd_of (vp_in_nI ht (by omega)), hw]
theorem mt_c0 {f t : Nat} (ht : t < 3000) (e : sort t = 5) (hw : what t = nI 0) (em : txN sort what part f 0 t = [102, 40, 41]) : MTs ops sort what part f t := by
  intro txt page many tasks h hp h1 h2 htk
  rw [em] at h1 h2 ⊢
  have hl3 : ([102, 40, 41] : List Nat).length = 3 := rfl
  obtain ⟨p0, q0, e0, g0⟩ := call_open (f := f) (part := part) (ops := ops) ht e hw (by omega) hp (by omega) (by omega) htk
  obtain ⟨p1, q1, e1, g1⟩ := m_sign ops sort what part (c := 41) (h := h) (tasks := upd tasks h (-42)) g0 (by rw [List.length_append]; show _ + 2 < 6000; omega) (by omega) (by rw [pk_us]; rfl) (by omega)
  refine ⟨2, p1, q1, upd tasks h (-42), by omega, fun fu => ?_, by rw [List.append_assoc] at g1; exact g1, fun i hi => pk_un (by omega)⟩
  rw [show fu + 2 = (fu + 1) + 1 from rfl, e0, show nI 0 - 1 = -1 by decide, FU_5, show 4995 + 5 = 4999 + 1 from rfl, b306_e, e1]
theorem mt_c1 {f t a : Nat} (ht : t < 3000) (e : sort t = 5) (hw : what t = nI 1) (ea : part (3 * t + 0) = nI a) (em : txN sort what part (f + 1) 0 t = 102 :: 40 :: (txN sort what part f 0 a ++ [41])) (la : 1 ≤ (txN sort what part f 0 a).length) (iha : MTs ops sort what part f a) : MTs ops sort what part (f + 1) t := by
  intro txt page many tasks h hp h1 h2 htk
  rw [em] at h1 h2 ⊢
  rw [List.length_cons, List.length_cons, List.length_append, List.length_singleton] at h1 h2
  have hl2 : ([102, 40] : List Nat).length = 2 := rfl
  obtain ⟨p0, q0, e0, g0⟩ := call_open (f := f) (part := part) (ops := ops) ht e hw (by omega) hp (by omega) (by omega) htk
  obtain ⟨ca, p1, q1, w1, hca, e1, g1, hw1⟩ := iha _ p0 q0 (upd (upd tasks h (-42)) (h + 1) (nI a)) (h + 1) g0 (by simp only [List.length_append, List.length_cons, List.length_nil]; omega) (by omega) pk_us
  obtain ⟨p2, q2, e2, g2⟩ := m_sign ops sort what part (c := 41) (h := h) (tasks := w1) g1 (by simp only [List.length_append, List.length_cons, List.length_nil]; omega) (by omega) (by rw [hw1 _ (by omega), pk_un (by omega), pk_us]; rfl) (by omega)
  refine ⟨ca + 2, p2, q2, w1, by rw [List.length_cons, List.length_cons, List.length_append, List.length_singleton]; omega, fun fu => ?_, by rw [List.append_assoc, List.append_assoc] at g2; exact g2, fun i hi => by rw [hw1 i (by omega), pk_un (by omega), pk_un (by omega)]⟩
  rw [show fu + (ca + 2) = ((fu + 1) + ca) + 1 by omega, e0, show nI 1 - 1 = nI 0 by decide, FU_5, show 4995 + 5 = 4998 + 1 + 1 from rfl, b306_0 ht (by omega) ea, b306_e, e1, e2]
theorem mt_c2 {f t a b : Nat} (ht : t < 3000) (e : sort t = 5) (hw : what t = nI 2) (ea : part (3 * t + 0) = nI a) (eb : part (3 * t + 1) = nI b) (em : txN sort what part (f + 1) 0 t = 102 :: 40 :: ((txN sort what part f 0 a ++ 44 :: 32 :: txN sort what part f 0 b) ++ [41])) (la : 1 ≤ (txN sort what part f 0 a).length) (lb : 1 ≤ (txN sort what part f 0 b).length) (iha : MTs ops sort what part f a) (ihb : MTs ops sort what part f b) : MTs ops sort what part (f + 1) t := by
  intro txt page many tasks h hp h1 h2 htk
  rw [em] at h1 h2 ⊢
  rw [List.length_cons, List.length_cons, List.length_append, List.length_append, List.length_cons, List.length_cons, List.length_singleton] at h1 h2
  have hl2 : ([102, 40] : List Nat).length = 2 := rfl
  obtain ⟨p0, q0, e0, g0⟩ := call_open (f := f) (part := part) (ops := ops) ht e hw (by omega) hp (by omega) (by omega) htk
  obtain ⟨ca, p1, q1, w1, hca, e1, g1, hw1⟩ := iha _ p0 q0 (upd (upd (upd (upd (upd tasks h (-42)) (h + 1) (nI b)) (h + 1 + 1) (-33)) (h + 1 + 2) (-45)) (h + 1 + 3) (nI a)) (h + 1 + 3) g0 (by simp only [List.length_append, List.length_cons, List.length_nil]; omega) (by omega) pk_us
  obtain ⟨p2, q2, e2, g2⟩ := m_sign ops sort what part (c := 44) (h := h + 1 + 2) (tasks := w1) g1 (by simp only [List.length_append, List.length_cons, List.length_nil]; omega) (by omega) (by rw [hw1 _ (by omega), pk_un (by omega), pk_us]; rfl) (by omega)
  obtain ⟨p3, q3, e3, g3⟩ := m_sign ops sort what part (c := 32) (h := h + 1 + 1) (tasks := w1) g2 (by simp only [List.length_append, List.length_cons, List.length_nil]; omega) (by omega) (by rw [hw1 _ (by omega), pk_un (by omega), pk_un (by omega), pk_us]; rfl) (by omega)
  obtain ⟨cb, p4, q4, w4, hcb, e4, g4, hw4⟩ := ihb _ p3 q3 w1 (h + 1) g3 (by simp only [List.length_append, List.length_cons, List.length_nil]; omega) (by omega) (by rw [hw1 _ (by omega), pk_un (by omega), pk_un (by omega), pk_un (by omega), pk_us])
  obtain ⟨p5, q5, e5, g5⟩ := m_sign ops sort what part (c := 41) (h := h) (tasks := w4) g4 (by simp only [List.length_append, List.length_cons, List.length_nil]; omega) (by omega) (by rw [hw4 _ (by omega), hw1 _ (by omega), pk_un (by omega), pk_un (by omega), pk_un (by omega), pk_un (by omega), pk_us]; rfl) (by omega)
  refine ⟨ca + cb + 4, p5, q5, w4, by rw [List.length_cons, List.length_cons, List.length_append, List.length_append, List.length_cons, List.length_cons, List.length_singleton]; omega, fun fu => ?_, ?_, fun i hi => by rw [hw4 i (by omega), hw1 i (by omega), pk_un (by omega), pk_un (by omega), pk_un (by omega), pk_un (by omega), pk_un (by omega)]⟩
  · rw [show fu + (ca + cb + 4) = ((fu + 1) + cb + 1 + 1 + ca) + 1 by omega, e0, show nI 2 - 1 = nI (0 + 1) by decide, FU_5, show 4995 + 5 = 4997 + 1 + 1 + 1 from rfl, b306_s ht (by omega) (by omega) eb, b306_0 ht (by omega) ea, b306_e, e1]
    show f_X6_sayTerm_B10 _ _ _ _ _ _ (nI (h + 1 + 2 + 1)) _ _ = _
    rw [e2, e3, e4, e5]
  · rw [List.append_assoc, List.append_assoc, List.append_assoc, List.append_assoc, List.append_assoc] at g5
    rw [show 102 :: 40 :: ((txN sort what part f 0 a ++ 44 :: 32 :: txN sort what part f 0 b) ++ [41]) = [102, 40] ++ (txN sort what part f 0 a ++ ([44] ++ ([32] ++ (txN sort what part f 0 b ++ [41])))) by simp]
    exact g5
theorem mt_c3 {f t a b c : Nat} (ht : t < 3000) (e : sort t = 5) (hw : what t = nI 3) (ea : part (3 * t + 0) = nI a) (eb : part (3 * t + 1) = nI b) (ec : part (3 * t + 2) = nI c) (em : txN sort what part (f + 1) 0 t = 102 :: 40 :: ((txN sort what part f 0 a ++ 44 :: 32 :: (txN sort what part f 0 b ++ 44 :: 32 :: txN sort what part f 0 c)) ++ [41])) (la : 1 ≤ (txN sort what part f 0 a).length) (lb : 1 ≤ (txN sort what part f 0 b).length) (lc : 1 ≤ (txN sort what part f 0 c).length) (iha : MTs ops sort what part f a) (ihb : MTs ops sort what part f b) (ihc : MTs ops sort what part f c) : MTs ops sort what part (f + 1) t := by
  intro txt page many tasks h hp h1 h2 htk
  rw [em] at h1 h2 ⊢
  rw [List.length_cons, List.length_cons, List.length_append, List.length_append, List.length_cons, List.length_cons, List.length_append, List.length_cons, List.length_cons, List.length_singleton] at h1 h2
  have hl2 : ([102, 40] : List Nat).length = 2 := rfl
  obtain ⟨p0, q0, e0, g0⟩ := call_open (f := f) (part := part) (ops := ops) ht e hw (by omega) hp (by omega) (by omega) htk
  obtain ⟨ca, p1, q1, w1, hca, e1, g1, hw1⟩ := iha _ p0 q0 (upd (upd (upd (upd (upd (upd (upd (upd tasks h (-42)) (h + 1) (nI c)) (h + 1 + 1) (-33)) (h + 1 + 2) (-45)) (h + 1 + 3) (nI b)) (h + 1 + 3 + 1) (-33)) (h + 1 + 3 + 2) (-45)) (h + 1 + 3 + 3) (nI a)) (h + 1 + 3 + 3) g0 (by simp only [List.length_append, List.length_cons, List.length_nil]; omega) (by omega) pk_us
  obtain ⟨p2, q2, e2, g2⟩ := m_sign ops sort what part (c := 44) (h := h + 1 + 3 + 2) (tasks := w1) g1 (by simp only [List.length_append, List.length_cons, List.length_nil]; omega) (by omega) (by rw [hw1 _ (by omega), pk_un (by omega), pk_us]; rfl) (by omega)
  obtain ⟨p3, q3, e3, g3⟩ := m_sign ops sort what part (c := 32) (h := h + 1 + 3 + 1) (tasks := w1) g2 (by simp only [List.length_append, List.length_cons, List.length_nil]; omega) (by omega) (by rw [hw1 _ (by omega), pk_un (by omega), pk_un (by omega), pk_us]; rfl) (by omega)
  obtain ⟨cb, p4, q4, w4, hcb, e4, g4, hw4⟩ := ihb _ p3 q3 w1 (h + 1 + 3) g3 (by simp only [List.length_append, List.length_cons, List.length_nil]; omega) (by omega) (by rw [hw1 _ (by omega), pk_un (by omega), pk_un (by omega), pk_un (by omega), pk_us])
  obtain ⟨p5, q5, e5, g5⟩ := m_sign ops sort what part (c := 44) (h := h + 1 + 2) (tasks := w4) g4 (by simp only [List.length_append, List.length_cons, List.length_nil]; omega) (by omega) (by rw [hw4 _ (by omega), hw1 _ (by omega), pk_un (by omega), pk_un (by omega), pk_un (by omega), pk_un (by omega), pk_us]; rfl) (by omega)
  obtain ⟨p6, q6, e6, g6⟩ := m_sign ops sort what part (c := 32) (h := h + 1 + 1) (tasks := w4) g5 (by simp only [List.length_append, List.length_cons, List.length_nil]; omega) (by omega) (by rw [hw4 _ (by omega), hw1 _ (by omega), pk_un (by omega), pk_un (by omega), pk_un (by omega), pk_un (by omega), pk_un (by omega), pk_us]; rfl) (by omega)
  obtain ⟨cc, p7, q7, w7, hcc, e7, g7, hw7⟩ := ihc _ p6 q6 w4 (h + 1) g6 (by simp only [List.length_append, List.length_cons, List.length_nil]; omega) (by omega) (by rw [hw4 _ (by omega), hw1 _ (by omega), pk_un (by omega), pk_un (by omega), pk_un (by omega), pk_un (by omega), pk_un (by omega), pk_un (by omega), pk_us])
  obtain ⟨p8, q8, e8, g8⟩ := m_sign ops sort what part (c := 41) (h := h) (tasks := w7) g7 (by simp only [List.length_append, List.length_cons, List.length_nil]; omega) (by omega) (by rw [hw7 _ (by omega), hw4 _ (by omega), hw1 _ (by omega), pk_un (by omega), pk_un (by omega), pk_un (by omega), pk_un (by omega), pk_un (by omega), pk_un (by omega), pk_un (by omega), pk_us]; rfl) (by omega)
  refine ⟨ca + cb + cc + 6, p8, q8, w7, by rw [List.length_cons, List.length_cons, List.length_append, List.length_append, List.length_cons, List.length_cons, List.length_append, List.length_cons, List.length_cons, List.length_singleton]; omega, fun fu => ?_, ?_, fun i hi => by rw [hw7 i (by omega), hw4 i (by omega), hw1 i (by omega), pk_un (by omega), pk_un (by omega), pk_un (by omega), pk_un (by omega), pk_un (by omega), pk_un (by omega), pk_un (by omega), pk_un (by omega)]⟩
  · rw [show fu + (ca + cb + cc + 6) = ((fu + 1) + cc + 1 + 1 + cb + 1 + 1 + ca) + 1 by omega, e0, show nI 3 - 1 = nI (1 + 1) by decide, FU_5, show 4995 + 5 = 4996 + 1 + 1 + 1 + 1 from rfl, b306_s ht (by omega) (by omega) ec]
    show f_X6_sayTerm_B306 _ _ _ _ _ _ _ _ _ _ _ (nI (0 + 1)) = _
    rw [b306_s ht (by omega) (by omega) eb, b306_0 ht (by omega) ea, b306_e, e1]
    show f_X6_sayTerm_B10 _ _ _ _ _ _ (nI (h + 1 + 3 + 2 + 1)) _ _ = _
    rw [e2, e3, e4]
    show f_X6_sayTerm_B10 _ _ _ _ _ _ (nI (h + 1 + 2 + 1)) _ _ = _
    rw [e5, e6, e7, e8]
  · simp only [List.append_assoc] at g8
    rw [show 102 :: 40 :: ((txN sort what part f 0 a ++ 44 :: 32 :: (txN sort what part f 0 b ++ 44 :: 32 :: txN sort what part f 0 c)) ++ [41]) = [102, 40] ++ (txN sort what part f 0 a ++ ([44] ++ ([32] ++ (txN sort what part f 0 b ++ ([44] ++ ([32] ++ (txN sort what part f 0 c ++ [41]))))))) by simp]
    exact g8
/-- the reference says a term's text -/
theorem m_mt (hops : opsR ops) (hT : T ≤ 3000) (h : wfN sort what part T) : ∀ (f t : Nat), t < f → t < T → okT sort what part t → MTs ops sort what part f t := by
  intro f
  induction f with
  | zero => intro t h1; omega
  | succ f ih =>
    intro t htf ht hok
    have h0 : txN sort what part (f + 1) 0 t = bdN sort what part f t := by rw [txN_succ, br, if_neg (Nat.not_lt_zero _)]
    have hlt : ∀ r x : Nat, x < f → x < T → okT sort what part x → LTs ops sort what part f r x := by
      intro r x h1 h2 h3
      obtain ⟨g, rfl⟩ : ∃ g, f = g + 1 := ⟨f - 1, by omega⟩
      exact lt_of_mt (ih x h1 h2 h3)
    have hv := node_view hT h ht hok
    rcases node_view hT h ht hok with ⟨e, hn, em⟩ | ⟨e, ⟨v, hvv, hw⟩, em⟩ | ⟨e, ⟨j, hj, hw⟩, em⟩ | ⟨e, o, a, b, ho, hw, ha, hb, ea, eb, em, oa, ob⟩ | ⟨e, hw, a, ha, ea, em, oa⟩ | ⟨e, hw, em⟩ | ⟨e, hw, a, ha, ea, em, oa⟩ | ⟨e, hw, a, b, ha, hb, ea, eb, em, oa, ob⟩ | ⟨e, hw, a, b, c, ha, hb, hc, ea, eb, ec, em, oa, ob, oc⟩
    · exact mt_num (by omega) e hn (by rw [h0]; exact (bd_0 e).1)
    · exact mt_var (by omega) e hvv hw (by rw [h0]; exact (bd_1 e hw (by omega)).1)
    · exact mt_tmp (by omega) e hj hw (by rw [h0]; exact (bd_2 e).1)
    · have hle := opr_le o ho
      exact mt_two hops (by omega) e ho hw ea eb (by omega) (by omega) hv (node_view hT h (by omega) oa) (node_view hT h (by omega) ob) (by rw [h0]; exact (bd_3 e ho hw ea eb (by omega) (by omega)).1) (bd_3 (f := f) e ho hw ea eb (by omega) (by omega)).2 (tx_len hT h f _ a (by omega) (by omega) (by omega) oa).1 (tx_len hT h f _ b (by omega) (by omega) (by omega) ob).1 (hlt _ a (by omega) (by omega) oa) (hlt _ b (by omega) (by omega) ob)
    · exact mt_min (by omega) e ea (by omega) (node_view hT h (by omega) oa) (by rw [h0]; exact (bd_4 e ea (by omega)).1) (tx_len hT h f _ a (by omega) (by omega) (by omega) oa).1 (hlt _ a (by omega) (by omega) oa)
    · exact mt_c0 (by omega) e hw (by rw [h0]; exact bd_50 e hw)
    · exact mt_c1 (by omega) e hw ea (by rw [h0]; exact bd_51 e hw ea (by omega)) (tx_len hT h f _ a (by omega) (by omega) (by omega) oa).1 (ih a (by omega) (by omega) oa)
    · exact mt_c2 (by omega) e hw ea eb (by rw [h0]; exact bd_52 e hw ea eb (by omega) (by omega)) (tx_len hT h f _ a (by omega) (by omega) (by omega) oa).1 (tx_len hT h f _ b (by omega) (by omega) (by omega) ob).1 (ih a (by omega) (by omega) oa) (ih b (by omega) (by omega) ob)
    · exact mt_c3 (by omega) e hw ea eb ec (by rw [h0]; exact bd_53 e hw ea eb ec (by omega) (by omega) (by omega)) (tx_len hT h f _ a (by omega) (by omega) (by omega) oa).1 (tx_len hT h f _ b (by omega) (by omega) (by omega) ob).1 (tx_len hT h f _ c (by omega) (by omega) (by omega) oc).1 (ih a (by omega) (by omega) oa) (ih b (by omega) (by omega) ob) (ih c (by omega) (by omega) oc)
end PSay3
