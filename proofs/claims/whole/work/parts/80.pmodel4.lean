/-! PURE PART 11: the reference tells an act as the spec does: calls, turns, all kinds -/
section PTurn2
variable {sort what part pile lineSort lineOf lineTerm : Nat → Int32} {terms high lines temps : Int32} {T : Nat} {S : Sp} {a : Int32}
theorem newP_i {v0 v1 v2 : Int32} {i : Nat} (hi : i < 3) : newP part T v0 v1 v2 (3 * T + i) = if i = 0 then v0 else if i = 1 then v1 else v2 := by
  have : i = 0 ∨ i = 1 ∨ i = 2 := by omega
  rcases this with rfl | rfl | rfl
  · exact newP_0
  · exact newP_1
  · exact newP_2
theorem range_flat (f : Nat → List Cl) (Rs : List (List Cl)) : ∀ x : Nat, Rs.length = x → (∀ i P, Rs[i]? = some P → f i = P) → ((List.range x).map f) = Rs := by
  intro x hx hf
  apply List.ext_getElem?
  intro i
  rw [List.getElem?_map]
  by_cases hi : i < x
  · rw [List.getElem?_range hi]
    have hg : Rs[i]? = some (Rs[i]'(by omega)) := List.getElem?_eq_getElem _
    rw [hg]
    show some (f i) = _
    rw [hf i _ hg]
  · rw [List.getElem?_eq_none (by rw [List.length_range]; omega), List.getElem?_eq_none (by omega)]
    rfl
theorem turn_call {m x : Nat} (hx : x ≤ 3) (hax : a = nI x) (hT : T < 3000) (h : mdR sort what part terms high pile lines lineSort lineOf lineTerm temps T S) (hm : S.2.1.length = m + x) (hm20 : m < 20) :
    ∃ sort' what' part' pile' terms' high', f_X6_turn_B58 high lineOf lineSort lineTerm lines part pile sort temps terms what (nI 10) a (nI x) = some (high', lineOf, lineSort, lineTerm, lines, part', pile', sort', temps, terms', what') ∧ mdR sort' what' part' terms' high' pile' lines lineSort lineOf lineTerm temps (T + 1) (S.1, S.2.1.take m ++ [(S.2.1.drop m).flatten ++ [(nI 10, a)]], S.2.2) := by
  have hh := h
  obtain ⟨h1, h2, h4, h5, h6, h7, h8, h9⟩ := hh
  have har : ar (upd sort T (nI 5)) (upd what T a) T = x := by unfold ar; rw [pk_us, pk_us, if_neg (by decide), if_neg (by decide), if_pos (by decide), hax, nI_clamp (by omega)]
  have hget : ∀ i, i < x → newP part T (pile m) (pile (m + 1)) (pile (m + 2)) (3 * T + i) = pile (m + i) := by
    intro i hi
    rw [newP_i (by omega)]
    have : i = 0 ∨ i = 1 ∨ i = 2 := by omega
    rcases this with rfl | rfl | rfl <;> rfl
  have hnd : ∀ i, i < x → nd sort what part T (pile (m + i)) (S.2.1[m + i]?.getD []) := by
    intro i hi
    have hg : S.2.1[m + i]? = some (S.2.1[m + i]'(by omega)) := List.getElem?_eq_getElem _
    rw [hg]
    exact h6 (m + i) _ hg
  have hpp : ∀ i, i < ar (upd sort T (nI 5)) (upd what T a) T → ∃ r, r < T ∧ newP part T (pile m) (pile (m + 1)) (pile (m + 2)) (3 * T + i) = nI r := by
    intro i hi
    rw [har] at hi
    obtain ⟨p, hp, hpe, -⟩ := hnd i hi
    exact ⟨p, hp, by rw [hget i hi]; exact hpe⟩
  have l2 := md_new (s := 5) (w := a) (a := pile m) (b := pile (m + 1)) (c := pile (m + 2)) hT h (by omega) (by rw [har]; exact hx) hpp
  have hmp := mp_new (s := 5) (w := a) (a := pile m) (b := pile (m + 1)) (c := pile (m + 2)) hT h2 (by omega) (by rw [har]; exact hx) hpp
  have hv : nd (upd sort T (nI 5)) (upd what T a) (newP part T (pile m) (pile (m + 1)) (pile (m + 2))) (T + 1) (nI T) ((S.2.1.drop m).flatten ++ [(nI 10, a)]) := by
    refine ⟨T, by omega, rfl, ?_⟩
    rw [hmp, har, range_flat _ (S.2.1.drop m) x (by rw [List.length_drop]; omega)]
    · rfl
    · intro i P hP
      have hi : i < x := by have := lt_of_get hP; rw [List.length_drop] at this; omega
      rw [List.getElem?_drop] at hP
      obtain ⟨p, hp, hpe, hpm⟩ := h6 (m + i) P hP
      rw [hget i hi, hpe, nI_clamp (by omega)]
      exact hpm
  have l3 := md_push (m := m) l2 (by omega) hm20 hv
  refine ⟨_, _, _, _, _, _, ?_, l3⟩
  have hin := fun {α : Type} (r : Option α) => B58_in (high := high) (m := m) (l := S.2.1.length) (X := pile) h5 (by omega) x (by omega) h4 r
  have e2 : nI m + 2 = nI (m + 2) := nI_add m 2
  unfold f_X6_turn_B58
  rw [(hin (none : Option Nat)).1, (hin _).2, if_neg (by decide), if_neg (by decide), if_neg (by decide), if_neg (by decide), if_neg (by decide), if_neg (by decide), if_neg (by decide), if_neg (by decide), if_neg (by decide), if_neg (by decide), e2, nI_1, ixd_of (vp_in_nI (by omega) (by omega)), ixd_of (vp_in_nI (by omega) (by omega)), ixd_of (vp_in_nI (by omega) (by omega)), nI_clamp (by omega), nI_clamp (by omega), nI_clamp (by omega), h1, m_made hT, Option.bind_some]
  show (f_X6_push (nI m) pile (nI T)).bind _ = _
  rw [m_push (by omega), Option.bind_some]
  rfl
theorem one1_get {Q : List Cl} {i : Nat} {c : Cl} (h : Q[i]? = some c) : (one1 Q)[i]? = some [c] := by
  unfold one1
  rw [List.getElem?_map, h]
  rfl
theorem one1_take (Q : List Cl) (m : Nat) : (one1 Q).take m = one1 (Q.take m) := by unfold one1; rw [List.map_take]
theorem turn_7 {m : Nat} {Q : List Cl} (hQ : S.2.1 = one1 Q) (h : mdR sort what part terms high pile lines lineSort lineOf lineTerm temps T S) (hm : Q.length = m + 1) (hm20 : m + 1 < 20) :
    ∃ pile' high', f_X6_turn_B58 high lineOf lineSort lineTerm lines part pile sort temps terms what (nI 7) a (nI 1) = some (high', lineOf, lineSort, lineTerm, lines, part, pile', sort, temps, terms, what) ∧ mdR sort what part terms high' pile' lines lineSort lineOf lineTerm temps T (S.1, one1 (turnQ (nI 7) Q), S.2.2) := by
  have hh := h
  obtain ⟨h1, h2, h4, h5, h6, h7, h8, h9⟩ := hh
  have hlen : S.2.1.length = m + 1 := by rw [hQ, one1_len, hm]
  have gx : Q[m]? = some (Q.getD m (0, 0)) := getD_some (by omega)
  generalize Q.getD m (0, 0) = c at gx
  have hx := h6 m [c] (by rw [hQ]; exact one1_get gx)
  have p1 := md_push (m := m) h (by omega) (by omega) hx
  have p2 := md_push (m := m + 1) p1 (by show m + 1 ≤ (S.2.1.take m ++ [[c]]).length; rw [List.length_append, List.length_take, List.length_singleton]; omega) hm20 hx
  refine ⟨upd (upd pile m (pile m)) (m + 1) (pile m), nI (m + 1 + 1), ?_, ?_⟩
  rotate_left
  · have ht : turnQ (nI 7) Q = Q.take m ++ [c] ++ [c] := by
      unfold turnQ
      rw [if_pos (show nI 7 = 7 from rfl), show Q.length - 1 = m by omega, List.getD_eq_getElem?_getD, gx]
      have : Q = Q.take m ++ [c] := by
        have h3 := List.take_append_drop m Q
        rw [drop_cons gx, List.drop_of_length_le (by omega)] at h3
        exact h3.symm
      rw [← this]
      rfl
    rw [ht, one1_app, one1_app, ← one1_take, ← hQ]
    have hl : (S.2.1.take m ++ [[c]]).length = m + 1 := by rw [List.length_append, List.length_take, List.length_singleton]; omega
    have p2 : mdR sort what part terms (nI (m + 1 + 1)) (upd (upd pile m (pile m)) (m + 1) (pile m)) lines lineSort lineOf lineTerm temps T (S.1, (S.2.1.take m ++ [[c]]).take (m + 1) ++ [[c]], S.2.2) := p2
    rw [List.take_of_length_le (by omega)] at p2
    exact p2
  · have hin := fun {α : Type} (r : Option α) => B58_in (high := high) (m := m) (l := S.2.1.length) (X := pile) h5 (by omega) 1 (by omega) h4 r
    unfold f_X6_turn_B58
    rw [(hin (none : Option Nat)).1, (hin _).2, if_neg (by decide), if_neg (by decide), if_neg (by decide), if_neg (by decide), if_neg (by decide), if_neg (by decide), if_neg (by decide), if_pos (by decide), nI_clamp (by omega), m_push (by omega), Option.bind_some]
    show (f_X6_push (nI (m + 1)) (upd pile m (pile m)) (pile m)).bind _ = _
    rw [m_push (by omega), Option.bind_some]
theorem turn_89 {κ m : Nat} {Q : List Cl} (hκ : κ = 8 ∨ κ = 9) (hQ : S.2.1 = one1 Q) (h : mdR sort what part terms high pile lines lineSort lineOf lineTerm temps T S) (hm : Q.length = m + 2) (hm20 : κ = 9 → m + 2 < 20) :
    ∃ pile' high', f_X6_turn_B58 high lineOf lineSort lineTerm lines part pile sort temps terms what (nI κ) a (nI 2) = some (high', lineOf, lineSort, lineTerm, lines, part, pile', sort, temps, terms, what) ∧ mdR sort what part terms high' pile' lines lineSort lineOf lineTerm temps T (S.1, one1 (turnQ (nI κ) Q), S.2.2) := by
  have hh := h
  obtain ⟨h1, h2, h4, h5, h6, h7, h8, h9⟩ := hh
  have hlen : S.2.1.length = m + 2 := by rw [hQ, one1_len, hm]
  have gx : Q[m]? = some (Q.getD m (0, 0)) := getD_some (by omega)
  have gy : Q[m + 1]? = some (Q.getD (m + 1) (0, 0)) := getD_some (by omega)
  generalize hxe : Q.getD m (0, 0) = x at gx
  generalize hye : Q.getD (m + 1) (0, 0) = y at gy
  have hx := h6 m [x] (by rw [hQ]; exact one1_get gx)
  have hy := h6 (m + 1) [y] (by rw [hQ]; exact one1_get gy)
  have p1 := md_push (m := m) h (by omega) (by omega) hy
  have hl1 : (S.2.1.take m ++ [[y]]).length = m + 1 := by rw [List.length_append, List.length_take, List.length_singleton]; omega
  have p2 := md_push (m := m + 1) p1 (by show m + 1 ≤ (S.2.1.take m ++ [[y]]).length; omega) (by omega) hx
  have p2 : mdR sort what part terms (nI (m + 1 + 1)) (upd (upd pile m (pile (m + 1))) (m + 1) (pile m)) lines lineSort lineOf lineTerm temps T (S.1, (S.2.1.take m ++ [[y]]).take (m + 1) ++ [[x]], S.2.2) := p2
  rw [List.take_of_length_le (by omega)] at p2
  have hin := fun {α : Type} (r : Option α) => B58_in (high := high) (m := m) (l := S.2.1.length) (X := pile) h5 (by omega) 2 (by omega) h4 r
  have hone : S.2.1.take m = one1 (Q.take m) := by rw [hQ, one1_take]
  rcases hκ with rfl | rfl
  · refine ⟨upd (upd pile m (pile (m + 1))) (m + 1) (pile m), nI (m + 1 + 1), ?_, ?_⟩
    rotate_left
    · have ht : turnQ (nI 8) Q = Q.take m ++ [y] ++ [x] := by
        unfold turnQ
        rw [if_neg (by decide), if_pos (by decide), show Q.length - 2 = m by omega, show Q.length - 1 = m + 1 by omega, hxe, hye, List.append_assoc]
        rfl
      rw [ht, one1_app, one1_app, ← hone]
      exact p2
    · unfold f_X6_turn_B58
      rw [(hin (none : Option Nat)).1, (hin _).2, if_neg (by decide), if_neg (by decide), if_neg (by decide), if_neg (by decide), if_neg (by decide), if_neg (by decide), if_neg (by decide), if_neg (by decide), if_pos (by decide), nI_1, nI_clamp (by omega), nI_clamp (by omega), m_push (by omega), Option.bind_some]
      show (f_X6_push (nI (m + 1)) (upd pile m (pile (m + 1))) (pile m)).bind _ = _
      rw [m_push (by omega), Option.bind_some, if_neg (by decide)]
  · have p3 := md_push (m := m + 2) p2 (by show m + 2 ≤ (S.2.1.take m ++ [[y]] ++ [[x]]).length; rw [List.length_append, hl1, List.length_singleton]; omega) (hm20 rfl) hy
    have p3 : mdR sort what part terms (nI (m + 2 + 1)) (upd (upd (upd pile m (pile (m + 1))) (m + 1) (pile m)) (m + 2) (pile (m + 1))) lines lineSort lineOf lineTerm temps T (S.1, (S.2.1.take m ++ [[y]] ++ [[x]]).take (m + 2) ++ [[y]], S.2.2) := p3
    rw [List.take_of_length_le (by rw [List.length_append, hl1, List.length_singleton]; omega)] at p3
    refine ⟨upd (upd (upd pile m (pile (m + 1))) (m + 1) (pile m)) (m + 2) (pile (m + 1)), nI (m + 2 + 1), ?_, ?_⟩
    rotate_left
    · have ht : turnQ (nI 9) Q = Q.take m ++ [y] ++ [x] ++ [y] := by
        unfold turnQ
        rw [if_neg (by decide), if_neg (by decide), show Q.length - 2 = m by omega, show Q.length - 1 = m + 1 by omega, hxe, hye, List.append_assoc, List.append_assoc]
        rfl
      rw [ht, one1_app, one1_app, one1_app, ← hone]
      exact p3
    · unfold f_X6_turn_B58
      rw [(hin (none : Option Nat)).1, (hin _).2, if_neg (by decide), if_neg (by decide), if_neg (by decide), if_neg (by decide), if_neg (by decide), if_neg (by decide), if_neg (by decide), if_neg (by decide), if_neg (by decide), if_pos (by decide), nI_1, nI_clamp (by omega), nI_clamp (by omega), m_push (by omega), Option.bind_some]
      show (f_X6_push (nI (m + 1)) (upd pile m (pile (m + 1))) (pile m)).bind _ = _
      rw [m_push (by omega), Option.bind_some, if_pos (by decide)]
      show (f_X6_push (nI (m + 2)) (upd (upd pile m (pile (m + 1))) (m + 1) (pile m)) (pile (m + 1))).bind _ = _
      rw [m_push (by omega), Option.bind_some]
end PTurn2
