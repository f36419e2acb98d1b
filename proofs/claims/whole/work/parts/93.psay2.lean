/-! PURE PART 24: the reference says a term: by its sort -/
section PSay2
variable {sort what part ops : Nat → Int32} {T : Nat}
def opsR (ops : Nat → Int32) : Prop := ∀ o : Nat, o < 8 → ops o = nI (opS o)
theorem mt_num {f t : Nat} (ht : t < 3000) (e : sort t = 0) (hn : numR (what t)) (em : txN sort what part f 0 t = dg (what t)) : MTs ops sort what part f t := by
  intro txt page many tasks h hp h1 h2 htk
  rw [em] at h1 h2 ⊢
  have hdl := dg_len (what t)
  obtain ⟨p1, q1, e1, g1⟩ := m_sayNum (numR_3 hn) hp (by omega)
  refine ⟨1, p1, q1, tasks, by omega, fun fu => ?_, g1, fun i _ => rfl⟩
  have e3 : (3 : Int32) * nI t = nI (3 * t) := pk_mul 3 t
  rw [f_X6_sayTerm_B10, if_neg (nI_nle (by omega) (by omega)), nI_pred, ixd_of (vp_in_nI (by omega) (by omega)), nI_clamp (n := h) (by omega), htk, if_pos (nI_pos' (by omega)), e3, ixd_of (vp_in_nI (by omega) (by omega)), ixd_of (vp_in_nI ht (by omega)), nI_clamp (n := t) (by omega), e, if_pos rfl, ixd_of (vp_in_nI ht (by omega)), e1, Option.bind_some]
theorem mt_var {f t v : Nat} (ht : t < 3000) (e : sort t = 1) (hv : v < 10) (hw : what t = nI v) (em : txN sort what part f 0 t = [97 + v]) : MTs ops sort what part f t := by
  intro txt page many tasks h hp h1 h2 htk
  rw [em] at h1 h2 ⊢
  rw [List.length_singleton] at h1 h2
  obtain ⟨p1, q1, e1, g1⟩ := m_say (c := 97 + v) hp (by omega)
  refine ⟨1, p1, q1, tasks, by rw [List.length_singleton]; omega, fun fu => ?_, g1, fun i _ => rfl⟩
  have e3 : (3 : Int32) * nI t = nI (3 * t) := pk_mul 3 t
  rw [f_X6_sayTerm_B10, if_neg (nI_nle (by omega) (by omega)), nI_pred, ixd_of (vp_in_nI (by omega) (by omega)), nI_clamp (n := h) (by omega), htk, if_pos (nI_pos' (by omega)), e3, ixd_of (vp_in_nI (by omega) (by omega)), ixd_of (vp_in_nI ht (by omega)), nI_clamp (n := t) (by omega), e, if_neg (by decide), if_pos rfl, ixd_of (vp_in_nI ht (by omega)), hw, show (97 : Int32) + nI v = nI (97 + v) from nI_add 97 v, e1, Option.bind_some]
theorem mt_tmp {f t j : Nat} (ht : t < 3000) (e : sort t = 2) (hj : j < 100) (hw : what t = nI j) (em : txN sort what part f 0 t = 116 :: dg (what t)) : MTs ops sort what part f t := by
  intro txt page many tasks h hp h1 h2 htk
  rw [em] at h1 h2 ⊢
  have hdl := dg_len (what t)
  rw [List.length_cons] at h1 h2
  obtain ⟨p0, q0, e0, g0⟩ := m_say (c := 116) hp (by omega)
  obtain ⟨p1, q1, e1, g1⟩ := m_sayNum (n := what t) (Or.inl ⟨j, by omega, hw⟩) g0 (by rw [List.length_append, List.length_singleton]; omega)
  refine ⟨1, p1, q1, tasks, by rw [List.length_cons]; omega, fun fu => ?_, by rw [List.append_assoc] at g1; exact g1, fun i _ => rfl⟩
  have e3 : (3 : Int32) * nI t = nI (3 * t) := pk_mul 3 t
  rw [f_X6_sayTerm_B10, if_neg (nI_nle (by omega) (by omega)), nI_pred, ixd_of (vp_in_nI (by omega) (by omega)), nI_clamp (n := h) (by omega), htk, if_pos (nI_pos' (by omega)), e3, ixd_of (vp_in_nI (by omega) (by omega)), ixd_of (vp_in_nI ht (by omega)), nI_clamp (n := t) (by omega), e, if_neg (by decide), if_neg (by decide), if_pos rfl, show f_X6_say page many 116 = some (p0, q0) from e0, Option.bind_some]
  dsimp only
  rw [ixd_of (vp_in_nI ht (by omega)), e1, Option.bind_some]
theorem mt_two {f t o a b : Nat} (hops : opsR ops) (ht : t < 3000) (e : sort t = 3) (ho : o < 8) (hw : what t = nI o) (ea : part (3 * t + 0) = nI a) (eb : part (3 * t + 1) = nI b) (ha : a < 3000) (hb : b < 3000) (vt : ndV sort what part t) (va : ndV sort what part a) (vb : ndV sort what part b) (em : txN sort what part (f + 1) 0 t = txN sort what part f (opr o) a ++ 32 :: opS o :: 32 :: txN sort what part f (opr o + 1) b) (hrk : rk sort what t = opr o)
    (la : 1 ≤ (txN sort what part f (opr o) a).length) (lb : 1 ≤ (txN sort what part f (opr o + 1) b).length) (iha : LTs ops sort what part f (opr o) a) (ihb : LTs ops sort what part f (opr o + 1) b) : MTs ops sort what part (f + 1) t := by
  intro txt page many tasks h hp h1 h2 htk
  rw [em] at h1 h2 ⊢
  rw [List.length_append, List.length_cons, List.length_cons, List.length_cons] at h1 h2
  have hS := opS_lt o ho
  have hle := opr_le o ho
  have e3 : (3 : Int32) * nI t = nI (3 * t) := pk_mul 3 t
  have e31 : nI (3 * t) + 1 = nI (3 * t + 1) := nI_1 _
  have ea' : part (3 * t) = nI a := ea
  obtain ⟨hb1, tb, elb, stb, ub, hb2, hb3⟩ := m_later (sort := sort) (what := what) (h := h) (r := opr o + 1) (t := b) (tasks := tasks) (by omega)
  obtain ⟨ha1, ta, ela, sta, ua, ha2, ha3⟩ := m_later (sort := sort) (what := what) (h := hb1 + 3) (r := opr o) (t := a) (tasks := upd (upd (upd tb hb1 (-33)) (hb1 + 1) ((-1) - nI (opS o))) (hb1 + 2) (-33)) (by omega)
  obtain ⟨ca, p1, q1, w1, hca, e1, g1, hw1⟩ := iha txt page many ta (hb1 + 3) ha1 hp (by omega) (by
    have := br_len (rk sort what b) (opr o + 1) (bdN sort what part f b)
    rcases stb with ⟨z1, z2, -⟩ | ⟨z1, z2, -⟩
    · have hlb : 3 ≤ (txN sort what part f (opr o + 1) b).length := by
        cases f with
        | zero => exact absurd lb (by show ¬ 1 ≤ 0; omega)
        | succ f =>
          rw [tx_br]
          rcases br_len (rk sort what b) (opr o + 1) (txN sort what part (f + 1) 0 b) with ⟨-, q⟩ | ⟨q, -⟩
          · have hb0 : 1 ≤ (txN sort what part (f + 1) 0 b).length := by
              rw [tx_br, br, if_pos z1, List.length_cons, List.length_append, List.length_singleton] at lb
              rw [txN_succ, br, if_neg (Nat.not_lt_zero _)]
              rcases vb with ⟨e', hn', -⟩ | ⟨e', ⟨v, hv, hw'⟩, -⟩ | ⟨e', ⟨j, hj, hw'⟩, -⟩ | ⟨e', o', a', b', ho', hw', a1, a2, a3, a4, -⟩ | ⟨e', hw', a', a1, a3, -⟩ | ⟨e', hw', -⟩ | ⟨e', hw', a', a1, a3, -⟩ | ⟨e', hw', a', b', a1, a2, a3, a4, -⟩ | ⟨e', hw', a', b', c', a1, a2, a3, a4, a5, a6, -⟩
              · rw [(bd_0 (what := what) (part := part) (f := f) e').1]; exact (dg_len _).1
              · rw [(bd_1 (part := part) (f := f) e' hw' (by omega)).1]; exact Nat.le_refl 1
              · rw [(bd_2 (what := what) (part := part) (f := f) e').1, List.length_cons]; omega
              · rw [(bd_3 (f := f) e' ho' hw' a3 a4 (by omega) (by omega)).1, List.length_append, List.length_cons]; omega
              · rw [(bd_4 (what := what) (f := f) e' a3 (by omega)).1, List.length_cons]; omega
              · rw [bd_50 (part := part) (f := f) e' hw']; show 1 ≤ 3; omega
              · rw [bd_51 (f := f) e' hw' a3 (by omega), List.length_cons]; omega
              · rw [bd_52 (f := f) e' hw' a3 a4 (by omega) (by omega), List.length_cons]; omega
              · rw [bd_53 (f := f) e' hw' a4 a5 a6 (by omega) (by omega) (by omega), List.length_cons]; omega
            omega
          · exact absurd z1 q
      omega
    · omega) sta
  obtain ⟨p2, q2, e2, g2⟩ := m_sign ops sort what part (c := 32) (h := hb1 + 2) (tasks := w1) g1 (by rw [List.length_append]; omega) (by omega) (by rw [hw1 _ (by omega), ua _ (by omega), pk_us]; rfl) (by omega)
  obtain ⟨p3, q3, e4, g3⟩ := m_sign ops sort what part (c := opS o) (h := hb1 + 1) (tasks := w1) g2 (by rw [List.length_append, List.length_append, List.length_singleton]; omega) (by omega) (by rw [hw1 _ (by omega), ua _ (by omega), pk_un (by omega), pk_us]) (by omega)
  obtain ⟨p4, q4, e5, g4⟩ := m_sign ops sort what part (c := 32) (h := hb1) (tasks := w1) g3 (by rw [List.length_append, List.length_append, List.length_append, List.length_singleton, List.length_singleton]; omega) (by omega) (by rw [hw1 _ (by omega), ua _ (by omega), pk_un (by omega), pk_un (by omega), pk_us]; rfl) (by omega)
  obtain ⟨cb, p5, q5, w5, hcb, e6, g5, hw5⟩ := ihb _ p4 q4 w1 h hb1 g4 (by rw [List.length_append, List.length_append, List.length_append, List.length_append, List.length_singleton, List.length_singleton]; omega) (by omega) (stk_mono stb (fun i hi => by rw [hw1 _ (by omega), ua _ (by omega), pk_un (by omega), pk_un (by omega), pk_un (by omega)]))
  refine ⟨ca + cb + 4, p5, q5, w5, by rw [List.length_append, List.length_cons, List.length_cons, List.length_cons]; omega, fun fu => ?_, ?_, fun i hi => ?_⟩
  · have step : f_X6_sayTerm_B10 ((fu + cb + 1 + 1 + 1 + ca) + 1) ops page many part sort (nI (h + 1)) tasks what = f_X6_sayTerm_B10 (fu + cb + 1 + 1 + 1 + ca) ops page many part sort (nI ha1) ta what := by
      rw [f_X6_sayTerm_B10, if_neg (nI_nle (by omega) (by omega)), nI_pred, ixd_of (vp_in_nI (by omega) (by omega)), nI_clamp (n := h) (by omega), htk, if_pos (nI_pos' (by omega)), e3, ixd_of (vp_in_nI (by omega) (by omega)), ixd_of (vp_in_nI ht (by omega)), nI_clamp (n := t) (by omega), e, if_neg (by decide), if_neg (by decide), if_neg (by decide), if_pos rfl, e31, ixd_of (vp_in_nI (by omega) (by omega)), nI_clamp (n := 3 * t + 1) (by omega), eb, m_rank vb hb, Option.bind_some, m_rank vt ht, Option.bind_some, hrk, nI_clamp (n := 3 * t) (by omega), ea']
      dsimp only
      by_cases cB : rk sort what b < opr o + 1
      · rw [if_pos cB] at elb
        rw [if_neg (nI_nlt (by omega) (by omega)), elb, Option.bind_some]
        dsimp only
        rw [m_task (by omega), Option.bind_some, ixd_of (vp_in_nI ht (by omega)), hw, ixd_of (vp_in_nI ho (by omega)), nI_clamp (n := o) (by omega), hops o ho]
        dsimp only
        rw [m_task (by omega), Option.bind_some]
        dsimp only
        rw [m_task (by omega), Option.bind_some, m_rank va ha, Option.bind_some, Option.bind_some]
        dsimp only
        by_cases cA : rk sort what a < opr o
        · rw [if_pos cA] at ela
          rw [if_neg (nI_ge (by omega) (by omega)), ela, Option.bind_some]
        · rw [if_neg cA] at ela
          rw [if_pos (nI_le (by omega) (by omega)), ela, Option.bind_some]
      · rw [if_neg cB] at elb
        rw [if_pos (nI_lt (by omega) (by omega)), elb, Option.bind_some]
        dsimp only
        rw [m_task (by omega), Option.bind_some, ixd_of (vp_in_nI ht (by omega)), hw, ixd_of (vp_in_nI ho (by omega)), nI_clamp (n := o) (by omega), hops o ho]
        dsimp only
        rw [m_task (by omega), Option.bind_some]
        dsimp only
        rw [m_task (by omega), Option.bind_some, m_rank va ha, Option.bind_some, Option.bind_some]
        dsimp only
        by_cases cA : rk sort what a < opr o
        · rw [if_pos cA] at ela
          rw [if_neg (nI_ge (by omega) (by omega)), ela, Option.bind_some]
        · rw [if_neg cA] at ela
          rw [if_pos (nI_le (by omega) (by omega)), ela, Option.bind_some]
    rw [show fu + (ca + cb + 4) = (fu + cb + 1 + 1 + 1 + ca) + 1 by omega, step, e1]
    show f_X6_sayTerm_B10 _ _ _ _ _ _ (nI (hb1 + 2 + 1)) _ _ = _
    rw [e2, e4, e5, e6]
  · rw [List.append_assoc, List.append_assoc, List.append_assoc, List.append_assoc] at g5
    exact g5
  · rw [hw5 i hi, hw1 i (by omega), ua i (by omega), pk_un (by omega), pk_un (by omega), pk_un (by omega), ub i hi]
theorem mt_min {f t a : Nat} (ht : t < 3000) (e : sort t = 4) (ea : part (3 * t + 0) = nI a) (ha : a < 3000) (va : ndV sort what part a) (em : txN sort what part (f + 1) 0 t = 45 :: txN sort what part f 7 a) (la : 1 ≤ (txN sort what part f 7 a).length) (iha : LTs ops sort what part f 7 a) : MTs ops sort what part (f + 1) t := by
  intro txt page many tasks h hp h1 h2 htk
  rw [em] at h1 h2 ⊢
  rw [List.length_cons] at h1 h2
  have e3 : (3 : Int32) * nI t = nI (3 * t) := pk_mul 3 t
  have ea' : part (3 * t) = nI a := ea
  obtain ⟨p0, q0, e0, g0⟩ := m_say (c := 45) hp (by omega)
  obtain ⟨ha1, ta, ela, sta, ua, ha2, ha3⟩ := m_later (sort := sort) (what := what) (h := h) (r := 7) (t := a) (tasks := tasks) (by omega)
  obtain ⟨ca, p1, q1, w1, hca, e1, g1, hw1⟩ := iha _ p0 q0 ta h ha1 g0 (by rw [List.length_append, List.length_singleton]; omega) (by omega) sta
  have hr8 := rk_lt8 sort what a
  refine ⟨ca + 1, p1, q1, w1, by rw [List.length_cons]; omega, fun fu => ?_, by rw [List.append_assoc] at g1; exact g1, fun i hi => by rw [hw1 i hi, ua i hi]⟩
  have step : f_X6_sayTerm_B10 ((fu + ca) + 1) ops page many part sort (nI (h + 1)) tasks what = f_X6_sayTerm_B10 (fu + ca) ops p0 q0 part sort (nI ha1) ta what := by
    rw [f_X6_sayTerm_B10, if_neg (nI_nle (by omega) (by omega)), nI_pred, ixd_of (vp_in_nI (by omega) (by omega)), nI_clamp (n := h) (by omega), htk, if_pos (nI_pos' (by omega)), e3, ixd_of (vp_in_nI (by omega) (by omega)), ixd_of (vp_in_nI ht (by omega)), nI_clamp (n := t) (by omega), e, if_neg (by decide), if_neg (by decide), if_neg (by decide), if_neg (by decide), if_pos rfl, show f_X6_say page many 45 = some (p0, q0) from e0, Option.bind_some, nI_clamp (n := 3 * t) (by omega), ea', m_rank va ha, Option.bind_some]
    dsimp only
    by_cases c7 : rk sort what a < 7
    · rw [if_pos c7] at ela
      by_cases c6 : rk sort what a < 6
      · rw [if_pos (show nI (min (rk sort what a + 1) 7) ≤ 6 from nI_le (b := 6) (by omega) (by omega)), ela, Option.bind_some]
      · have hs0 : sort a = 0 := by
          have h6 : rk sort what a = 6 := by omega
          unfold rk at h6
          by_cases z0 : sort a = 0
          · exact z0
          · rw [if_neg z0] at h6
            rcases va with ⟨e', -⟩ | ⟨e', -⟩ | ⟨e', -⟩ | ⟨e', o', a', b', ho', hw', -⟩ | ⟨e', -⟩ | ⟨e', -⟩ | ⟨e', -⟩ | ⟨e', -⟩ | ⟨e', -⟩
            · exact e'
            · rw [e', if_neg (by decide), if_neg (by decide)] at h6; omega
            · rw [e', if_neg (by decide), if_neg (by decide)] at h6; omega
            · rw [e', if_pos rfl, hw', nI_clamp (by omega)] at h6
              have := opr_le o' ho'
              omega
            · rw [e', if_neg (by decide), if_pos rfl] at h6; omega
            · rw [e', if_neg (by decide), if_neg (by decide)] at h6; omega
            · rw [e', if_neg (by decide), if_neg (by decide)] at h6; omega
            · rw [e', if_neg (by decide), if_neg (by decide)] at h6; omega
            · rw [e', if_neg (by decide), if_neg (by decide)] at h6; omega
        rw [if_neg (show ¬ nI (min (rk sort what a + 1) 7) ≤ 6 from nI_ge (a := 6) (by omega) (by omega)), ixd_of (vp_in_nI ha (by omega)), nI_clamp (n := a) (by omega), if_pos hs0, ela, Option.bind_some]
    · rw [if_neg c7] at ela
      have hs0 : ¬ sort a = 0 := by
        intro z0
        apply c7
        unfold rk
        rw [if_pos z0]
        omega
      rw [if_neg (show ¬ nI (min (rk sort what a + 1) 7) ≤ 6 from nI_ge (a := 6) (by omega) (by omega)), ixd_of (vp_in_nI ha (by omega)), nI_clamp (n := a) (by omega), if_neg hs0, ela, Option.bind_some]
  rw [show fu + (ca + 1) = (fu + ca) + 1 by omega, step, e1]
end PSay2
