/-! PURE PART 21: the scribe writes a term -/
def sg (L : List Cl) (s : Nat) (M : List Cl) : Prop := ∀ (i : Nat) (c : Cl), M[i]? = some c → L[s + i]? = some c
theorem sg_app {L A B : List Cl} {s : Nat} (h : sg L s (A ++ B)) : sg L s A ∧ sg L (s + A.length) B := by
  refine ⟨fun i c hi => h i c (by rw [List.getElem?_append_left (lt_of_get hi)]; exact hi), fun i c hi => ?_⟩
  have := h (A.length + i) c (by rw [List.getElem?_append_right (by omega), show A.length + i - A.length = i by omega]; exact hi)
  rw [show s + A.length + i = s + (A.length + i) by omega]
  exact this
theorem sg_last {L A : List Cl} {s : Nat} {c : Cl} (h : sg L s (A ++ [c])) : L[s + A.length]? = some c := (sg_app h).2 0 c rfl
section PScribe
variable {k n : Nat → Int32} {z : Int32} {L : List Cl} {sort what part : Nat → Int32} {T : Nat}
theorem p_sign (k n : Nat → Int32) (z : Int32) {first : Int32} {signs w : Nat → Int32} {txt : List Nat} {c h st : Nat} (hw : wr first signs txt) (hl : txt.length < 800) (h8 : 8 ≤ c) (hc : c < 128) (hwh : w h = nI c) (hh : h < 800) (hst : st < 1600) : ∃ first' signs', (∀ (fu : Nat) (p : Int32), f_X3_writeTerm_B15 (fu + 1) k n z first signs w (nI (h + 1)) p (nI st) = f_X3_writeTerm_B15 fu k n z first' signs' w (nI h) p (nI (st + 1))) ∧ wr first' signs' (c :: txt) := by
  obtain ⟨f1, s1, e1, g1⟩ := p_write hw hl hc
  refine ⟨f1, s1, fun fu p => ?_, g1⟩
  rw [f_X3_writeTerm_B15, if_neg (show ¬ (1600 : Int32) ≤ nI st from nI_ge (a := st) (b := 1600) hst (by omega)), if_neg (nI_nle (by omega) (by omega)), nI_pred, ixd_of (vp_in_nI hh (by omega)), nI_clamp (by omega), hwh, if_neg (show ¬ nI c ≤ 7 from nI_ge (a := 7) (b := c) (by omega) (by omega)), ch_u hc, e1, Option.bind_some, nI_1]
theorem b25_4 {first : Int32} {signs w : Nat → Int32} {h o ρ : Nat} (hh : h + 5 ≤ 800) (ho : o < 8) : f_X3_writeCell_B25 first signs w (nI h) 4 (nI o) (nI ρ) = some (first, signs, upd (upd (upd (upd (upd w h (nI ρ)) (h + 1) 32) (h + 2) (nI (opS o))) (h + 3) 32) (h + 4) (nI (ρ + 1)), nI (h + 5)) := by
  unfold f_X3_writeCell_B25
  rw [if_neg (by decide), if_neg (by decide), if_pos rfl, p_await (by omega), Option.bind_some]
  dsimp only
  rw [p_await (by omega), Option.bind_some, p_signOf ho, Option.bind_some]
  dsimp only
  rw [p_await (by omega), Option.bind_some]
  dsimp only
  rw [p_await (by omega), Option.bind_some]
  dsimp only
  rw [p_await (by omega), Option.bind_some, nI_1]
theorem b25_5 {first : Int32} {signs w : Nat → Int32} {h : Nat} (a ρ : Int32) (hh : h + 2 ≤ 800) : f_X3_writeCell_B25 first signs w (nI h) 5 a ρ = some (first, signs, upd (upd w h 45) (h + 1) 7, nI (h + 2)) := by
  unfold f_X3_writeCell_B25
  rw [if_neg (by decide), if_neg (by decide), if_neg (by decide), if_pos rfl, p_await (by omega), Option.bind_some]
  dsimp only
  rw [p_await (by omega), Option.bind_some]
theorem FU_5 : FU = 4995 + 5 := rfl
theorem ac_0 {w : Nat → Int32} {h : Nat} (hh : h + 9 ≤ 800 ∨ h + 2 ≤ 800) : f_X3_awaitCall w (nI h) (nI 0) = some (upd (upd w h 102) (h + 1) 40, nI (h + 2)) := by
  unfold f_X3_awaitCall
  rw [p_await (by omega), Option.bind_some]
  dsimp only
  rw [p_await (by omega), Option.bind_some]
  dsimp only
  rw [FU_5, f_X3_awaitCall_B14, if_pos (by decide)]
theorem ac_1 {w : Nat → Int32} {h : Nat} (hh : h + 3 ≤ 800) : f_X3_awaitCall w (nI h) (nI 1) = some (upd (upd (upd w h 102) (h + 1) 40) (h + 2) 0, nI (h + 3)) := by
  unfold f_X3_awaitCall
  rw [p_await (by omega), Option.bind_some]
  dsimp only
  rw [p_await (by omega), Option.bind_some]
  dsimp only
  rw [FU_5, f_X3_awaitCall_B14, if_neg (by decide), if_pos (by decide), p_await (by omega), Option.bind_some]
  dsimp only
  rw [f_X3_awaitCall_B14, if_pos (by decide)]
theorem ac_2 {w : Nat → Int32} {h : Nat} (hh : h + 6 ≤ 800) : f_X3_awaitCall w (nI h) (nI 2) = some (upd (upd (upd (upd (upd (upd w h 102) (h + 1) 40) (h + 2) 0) (h + 3) 44) (h + 4) 32) (h + 5) 0, nI (h + 6)) := by
  unfold f_X3_awaitCall
  rw [p_await (by omega), Option.bind_some]
  dsimp only
  rw [p_await (by omega), Option.bind_some]
  dsimp only
  rw [FU_5, f_X3_awaitCall_B14, if_neg (by decide), if_pos (by decide), p_await (by omega), Option.bind_some]
  dsimp only
  rw [f_X3_awaitCall_B14, if_neg (by decide), if_neg (by decide), p_await (by omega), Option.bind_some]
  dsimp only
  rw [p_await (by omega), Option.bind_some]
  dsimp only
  rw [p_await (by omega), Option.bind_some]
  dsimp only
  rw [f_X3_awaitCall_B14, if_pos (by decide)]
theorem ac_3 {w : Nat → Int32} {h : Nat} (hh : h + 9 ≤ 800) : f_X3_awaitCall w (nI h) (nI 3) = some (upd (upd (upd (upd (upd (upd (upd (upd (upd w h 102) (h + 1) 40) (h + 2) 0) (h + 3) 44) (h + 4) 32) (h + 5) 0) (h + 6) 44) (h + 7) 32) (h + 8) 0, nI (h + 9)) := by
  unfold f_X3_awaitCall
  rw [p_await (by omega), Option.bind_some]
  dsimp only
  rw [p_await (by omega), Option.bind_some]
  dsimp only
  rw [FU_5, f_X3_awaitCall_B14, if_neg (by decide), if_pos (by decide), p_await (by omega), Option.bind_some]
  dsimp only
  rw [f_X3_awaitCall_B14, if_neg (by decide), if_neg (by decide), p_await (by omega), Option.bind_some]
  dsimp only
  rw [p_await (by omega), Option.bind_some]
  dsimp only
  rw [p_await (by omega), Option.bind_some]
  dsimp only
  rw [f_X3_awaitCall_B14, if_neg (by decide), if_neg (by decide), p_await (by omega), Option.bind_some]
  dsimp only
  rw [p_await (by omega), Option.bind_some]
  dsimp only
  rw [p_await (by omega), Option.bind_some]
  dsimp only
  rw [f_X3_awaitCall_B14, if_pos (by decide)]
theorem b25_10 {first first' : Int32} {signs signs' w w' : Nat → Int32} {ws ws' a ρ : Int32} (e1 : f_X3_write first signs (nI 41) = some (first', signs')) (e2 : f_X3_awaitCall w ws a = some (w', ws')) : f_X3_writeCell_B25 first signs w ws 10 a ρ = some (first', signs', w', ws') := by
  unfold f_X3_writeCell_B25
  rw [if_neg (by decide), if_neg (by decide), if_neg (by decide), if_neg (by decide), if_neg (by decide), show f_X3_write first signs 41 = some (first', signs') from e1, Option.bind_some, e2]
  rfl
theorem p_rank {t : Nat} (hv : ndV sort what part t) : f_X3_rankOf (kc (sort t)) (what t) = some (nI (rk sort what t), ()) := by
  rcases hv with ⟨e, -, -⟩ | ⟨e, -, -⟩ | ⟨e, -, -⟩ | ⟨e, o, a, b, ho, hw, -⟩ | ⟨e, -⟩ | ⟨e, -⟩ | ⟨e, -⟩ | ⟨e, -⟩ | ⟨e, -⟩
  · unfold rk; rw [e]; rfl
  · unfold rk; rw [e]; rfl
  · unfold rk; rw [e]; rfl
  · have hr : rk sort what t = opr o := by unfold rk; rw [e, if_neg (by decide), if_pos rfl, hw, nI_clamp (by omega)]
    rw [hr, e, hw]
    match o, ho with
    | 0, _ => rfl
    | 1, _ => rfl
    | 2, _ => rfl
    | 3, _ => rfl
    | 4, _ => rfl
    | 5, _ => rfl
    | 6, _ => rfl
    | 7, _ => rfl
  · unfold rk; rw [e]; rfl
  · unfold rk; rw [e]; rfl
  · unfold rk; rw [e]; rfl
  · unfold rk; rw [e]; rfl
  · unfold rk; rw [e]; rfl
theorem mp_len1 {t : Nat} (hT : T ≤ 3000) (h : wfN sort what part T) (ht : t < T) : ∃ A : List Cl, mp sort what part t = A ++ [(kc (sort t), what t)] := ⟨_, mp_eq hT h ht⟩
/-- what writing a term comes to -/
def WTs (k n : Nat → Int32) (z : Int32) (L : List Cl) (sort what part : Nat → Int32) (f r t : Nat) : Prop :=
  ∀ (s : Nat) (txt : List Nat) (first : Int32) (signs w : Nat → Int32) (h st : Nat), sg L s (mp sort what part t) → wr first signs txt → txt.length + (txN sort what part f r t).length ≤ 790 → h + (txN sort what part f r t).length ≤ 800 → st + 2 * (txN sort what part f r t).length ≤ 1600 → w h = nI r →
  ∃ cs first' signs' w', cs ≤ 2 * (txN sort what part f r t).length ∧ (∀ fu : Nat, f_X3_writeTerm_B15 (fu + cs) k n z first signs w (nI (h + 1)) (nI (s + (mp sort what part t).length) + (-1)) (nI st) = f_X3_writeTerm_B15 fu k n z first' signs' w' (nI h) (nI s + (-1)) (nI (st + cs))) ∧ wr first' signs' (txN sort what part f r t ++ txt) ∧ ∀ i : Nat, i < h → w' i = w i
def BDs (k n : Nat → Int32) (z : Int32) (L : List Cl) (sort what part : Nat → Int32) (f t : Nat) : Prop :=
  ∀ (s : Nat) (txt : List Nat) (first : Int32) (signs w : Nat → Int32) (h st : Nat), sg L s (mp sort what part t) → wr first signs txt → txt.length + (bdN sort what part f t).length ≤ 790 → h + (bdN sort what part f t).length ≤ 800 → st + 2 * (bdN sort what part f t).length ≤ 1601 →
  ∃ cs first' signs' w', cs + 1 ≤ 2 * (bdN sort what part f t).length ∧ (∀ fu : Nat, ((f_X3_writeCell_B25 first signs w (nI h) (kc (sort t)) (what t) (nI (rk sort what t))).bind fun q => f_X3_writeTerm_B15 (fu + cs) k n z q.1 q.2.1 q.2.2.1 q.2.2.2 (nI (s + (mp sort what part t).length) + (-1) + (-1)) (nI st)) = f_X3_writeTerm_B15 fu k n z first' signs' w' (nI h) (nI s + (-1)) (nI (st + cs))) ∧ wr first' signs' (bdN sort what part f t ++ txt) ∧ ∀ i : Nat, i < h → w' i = w i
theorem at_m (s m : Nat) : nI (s + (m + 1)) + (-1) = nI (s + m) := pk_m1 (s + m)
theorem bd_pos {f t : Nat} (hT : T ≤ 3000) (h : wfN sort what part T) (htf : t < f + 1) (ht : t < T) (hok : okT sort what part t) : 1 ≤ (bdN sort what part f t).length := by
  have := (tx_len hT h (f + 1) 0 t htf ht (by omega) hok).1
  rw [txN_succ] at this
  rcases br_len (rk sort what t) 0 (bdN sort what part f t) with ⟨q, -⟩ | ⟨-, q⟩
  · omega
  · omega
theorem rk_lt8 (sort what : Nat → Int32) (t : Nat) : rk sort what t < 8 := by
  unfold rk
  split
  · omega
  · split
    · have : ∀ j : Nat, opr j ≤ 4 := by
        intro j
        by_cases hj : j < 8
        · exact opr_le j hj
        · unfold opr
          rw [List.getD_eq_getElem?_getD, List.getElem?_eq_none (by show 8 ≤ j; omega)]
          exact Nat.zero_le 4
      have := this (what t).toNatClampNeg
      omega
    · split <;> omega
/-- brackets or none -/
theorem wt_of_bd {f r t : Nat} (hT : T ≤ 3000) (h : wfN sort what part T) (hcd : cd k n z L) (htf : t < f + 1) (ht : t < T) (hr : r ≤ 7) (hok : okT sort what part t) (hb : BDs k n z L sort what part f t) : WTs k n z L sort what part (f + 1) r t := by
  intro s txt first signs w hh st hsg hw h1 h2 h3 hwh
  rw [txN_succ] at h1 h2 h3 ⊢
  have hv := node_view hT h ht hok
  have hrk := p_rank hv
  have hrk8 := rk_lt8 sort what t
  have hbl := bd_pos (f := f) hT h htf ht hok
  obtain ⟨A, em⟩ := mp_len1 hT h ht
  have hmlen : (mp sort what part t).length = A.length + 1 := by rw [em, List.length_append, List.length_singleton]
  have hg : L[s + A.length]? = some (kc (sort t), what t) := sg_last (by rw [← em]; exact hsg)
  have hLs := lt_of_get hg
  have hL3 := hcd.2.1
  have hge : (bdN sort what part f t).length ≤ (br (rk sort what t) r (bdN sort what part f t)).length := by
    rcases br_len (rk sort what t) r (bdN sort what part f t) with ⟨-, q⟩ | ⟨-, q⟩ <;> omega
  have e0 : ∀ fu : Nat, f_X3_writeTerm_B15 (fu + 1) k n z first signs w (nI (hh + 1)) (nI (s + (mp sort what part t).length) + (-1)) (nI st) = (f_X3_writeCell first signs w (nI hh) (kc (sort t)) (what t) (nI r)).bind fun q => f_X3_writeTerm_B15 fu k n z q.1 q.2.1 q.2.2.1 q.2.2.2 (nI (s + (mp sort what part t).length) + (-1) + (-1)) (nI (st + 1)) := by
    intro fu
    rw [hmlen, at_m]
    rw [f_X3_writeTerm_B15, if_neg (show ¬ (1600 : Int32) ≤ nI st from nI_ge (a := st) (b := 1600) (by omega) (by omega)), if_neg (nI_nle (by omega) (by omega)), nI_pred, ixd_of (vp_in_nI (by omega) (by omega)), nI_clamp (by omega), hwh, if_pos (show nI r ≤ 7 from nI_le (a := r) (b := 7) hr (by omega)), p_kindAt hcd hg, Option.bind_some, p_numberAt hcd hg, Option.bind_some, nI_1]
  by_cases hlt : rk sort what t < r
  · have hbe : br (rk sort what t) r (bdN sort what part f t) = 40 :: (bdN sort what part f t ++ [41]) := by unfold br; rw [if_pos hlt]
    rw [hbe] at h1 h2 h3 ⊢
    rw [List.length_cons, List.length_append, List.length_singleton] at h1 h2 h3
    obtain ⟨f1, s1, e1, g1⟩ := p_write (c := 41) hw (by omega) (by omega)
    obtain ⟨cs, f2, s2, w2, hcs, e2, g2, hw2⟩ := hb s (41 :: txt) f1 s1 (upd w hh 40) (hh + 1) (st + 1) hsg g1 (by rw [List.length_cons]; omega) (by omega) (by omega)
    obtain ⟨f3, s3, e3, g3⟩ := p_sign k n z (c := 40) (h := hh) (st := st + 1 + cs) (w := w2) g2 (by rw [List.length_append, List.length_cons]; omega) (by omega) (by omega) (by rw [hw2 hh (by omega), pk_us]; rfl) (by omega) (by omega)
    refine ⟨cs + 1 + 1, f3, s3, w2, by rw [List.length_cons, List.length_append, List.length_singleton]; omega, fun fu => ?_, by rw [List.cons_append, List.append_assoc]; exact g3, fun i hi => ?_⟩
    · rw [show fu + (cs + 1 + 1) = (fu + 1 + cs) + 1 by omega, e0]
      unfold f_X3_writeCell
      rw [hrk, Option.bind_some, if_neg (show ¬ nI r ≤ nI (rk sort what t) from nI_ge hlt (by omega)), show f_X3_write first signs 41 = some (f1, s1) from e1, Option.bind_some, p_await (by omega), Option.bind_some]
      dsimp only
      rw [e2 (fu + 1), e3, show st + 1 + cs + 1 = st + (cs + 1 + 1) by omega]
    · rw [hw2 i (by omega), pk_un (by omega)]
  · have hbe : br (rk sort what t) r (bdN sort what part f t) = bdN sort what part f t := by unfold br; rw [if_neg hlt]
    rw [hbe] at h1 h2 h3 ⊢
    obtain ⟨cs, f2, s2, w2, hcs, e2, g2, hw2⟩ := hb s txt first signs w hh (st + 1) hsg hw h1 h2 (by omega)
    refine ⟨cs + 1, f2, s2, w2, by omega, fun fu => ?_, g2, hw2⟩
    rw [show fu + (cs + 1) = (fu + cs) + 1 by omega, e0]
    unfold f_X3_writeCell
    rw [hrk, Option.bind_some, if_pos (show nI r ≤ nI (rk sort what t) from nI_le (by omega) (by omega)), e2 fu, show st + 1 + cs = st + (cs + 1) by omega]
end PScribe
