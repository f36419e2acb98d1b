/-! PURE PART 10: the reference tells an act as the spec does -/
section PTurn
variable {sort what part pile lineSort lineOf lineTerm : Nat → Int32} {terms high lines temps : Int32} {T : Nat} {S : Sp} {a : Int32}
theorem m_push {h : Nat} {pl : Nat → Int32} {v : Int32} (hh : h < 24) : f_X6_push (nI h) pl v = some (nI (h + 1), upd pl h v) := by
  unfold f_X6_push
  rw [ixd_of (vp_in_nI hh (by omega)), nI_clamp (by omega), nI_1]
theorem md_take {m : Nat} (h : mdR sort what part terms high pile lines lineSort lineOf lineTerm temps T S) (hm : m ≤ S.2.1.length) : mdR sort what part terms (nI m) pile lines lineSort lineOf lineTerm temps T (S.1, S.2.1.take m, S.2.2) := by
  obtain ⟨h1, h2, h4, h5, h6, h7, h8, h9⟩ := h
  refine ⟨h1, h2, by show nI m = nI (S.2.1.take m).length; rw [List.length_take, Nat.min_eq_left hm], by show (S.2.1.take m).length ≤ 20; rw [List.length_take]; omega, fun j P hj => ?_, h7, h8, h9⟩
  have hj : (S.2.1.take m)[j]? = some P := hj
  rw [List.getElem?_take] at hj
  by_cases hlt : j < m
  · rw [if_pos hlt] at hj; exact h6 j P hj
  · rw [if_neg hlt] at hj; cases hj
theorem md_push {m : Nat} {v : Int32} {P : List Cl} (h : mdR sort what part terms high pile lines lineSort lineOf lineTerm temps T S) (hm : m ≤ S.2.1.length) (hm20 : m < 20) (hv : nd sort what part T v P) : mdR sort what part terms (nI (m + 1)) (upd pile m v) lines lineSort lineOf lineTerm temps T (S.1, S.2.1.take m ++ [P], S.2.2) := by
  obtain ⟨h1, h2, h4, h5, h6, h7, h8, h9⟩ := h
  have hl : (S.2.1.take m).length = m := by rw [List.length_take]; omega
  refine ⟨h1, h2, by show nI (m + 1) = nI (S.2.1.take m ++ [P]).length; rw [List.length_append, hl]; rfl, by show (S.2.1.take m ++ [P]).length ≤ 20; rw [List.length_append, hl, List.length_singleton]; omega, fun j P' hj => ?_, h7, h8, h9⟩
  have hj : (S.2.1.take m ++ [P])[j]? = some P' := hj
  by_cases hlt : j < m
  · rw [List.getElem?_append_left (by omega), List.getElem?_take, if_pos hlt] at hj
    rw [pk_un (by omega)]
    exact h6 j P' hj
  · rw [List.getElem?_append_right (by omega), hl] at hj
    have hz := lt_of_get hj
    rw [List.length_singleton] at hz
    have hj0 : j = m := by omega
    subst hj0
    rw [Nat.sub_self, List.getElem?_cons_zero] at hj
    cases hj
    rw [pk_us]; exact hv
theorem m_takes {κ : Nat} {n : Int32} (hκ : κ ≤ 10) (hn : κ = 10 → ∃ x, x ≤ 3 ∧ n = nI x) : f_X6_takes (nI κ) n = some (nI (tak κ n), ()) := by
  by_cases h : κ = 10
  · obtain ⟨x, hx, rfl⟩ := hn h
    subst h
    have ht : tak 10 (nI x) = x := by unfold tak; rw [if_pos rfl, nI_clamp (by omega)]
    rw [ht]
    unfold f_X6_takes
    rw [if_pos (show nI 10 = 10 from rfl)]
  · have ht : tak κ n = ([0, 0, 1, 0, 2, 1, 1, 1, 2, 2, 0] : List Nat).getD κ 0 := by unfold tak; rw [if_neg h]
    rw [ht]
    have : ∀ κ : Fin 10, ∀ n : Int32, f_X6_takes (nI κ.val) n = some (nI (([0, 0, 1, 0, 2, 1, 1, 1, 2, 2, 0] : List Nat).getD κ.val 0), ()) := by
      intro κ n
      match κ with
      | ⟨0, _⟩ => rfl
      | ⟨1, _⟩ => rfl
      | ⟨2, _⟩ => rfl
      | ⟨3, _⟩ => rfl
      | ⟨4, _⟩ => rfl
      | ⟨5, _⟩ => rfl
      | ⟨6, _⟩ => rfl
      | ⟨7, _⟩ => rfl
      | ⟨8, _⟩ => rfl
      | ⟨9, _⟩ => rfl
      | ⟨k + 10, h⟩ => omega
    exact this ⟨κ, by omega⟩ n
/-- the last row of turn, when m places are left below what is taken -/
theorem B58_in {m l : Nat} {X : Nat → Int32} (hl : l ≤ 20) (hm : m ≤ l) (x : Nat) (hx : x = l - m) (hh : high = nI l) {α : Type} (r : Option α) : high - nI x = nI m ∧ ixd (nI m) 24 (ixd (nI m + 1) 24 r) = r := by
  subst hh hx
  refine ⟨by rw [pk_sub (by omega)]; congr 1; omega, ?_⟩
  rw [nI_1, ixd_of (vp_in_nI (by omega) (by omega)), ixd_of (vp_in_nI (by omega) (by omega))]
theorem turn_leaf {κ : Nat} (hκ : κ = 0 ∨ κ = 1) (hT : T < 3000) (h : mdR sort what part terms high pile lines lineSort lineOf lineTerm temps T S) (h20 : S.2.1.length < 20) :
    ∃ sort' what' part' pile' terms' high', f_X6_turn_B58 high lineOf lineSort lineTerm lines part pile sort temps terms what (nI κ) a (nI 0) = some (high', lineOf, lineSort, lineTerm, lines, part', pile', sort', temps, terms', what') ∧ mdR sort' what' part' terms' high' pile' lines lineSort lineOf lineTerm temps (T + 1) (S.1, S.2.1 ++ [[(nI κ, a)]], S.2.2) := by
  have hh := h
  obtain ⟨h1, h2, h4, h5, h6, h7, h8, h9⟩ := hh
  have l2 := md_new (s := κ) (w := a) (a := -1) (b := -1) (c := -1) hT h (by omega) (by rw [ar_leaf (by omega)]; omega) (fun i hi => by rw [ar_leaf (by omega)] at hi; omega)
  have hnd := nd_leaf (sort := sort) (what := what) (part := part) (T := T) (s := κ) (w := a) (a := -1) (b := -1) (c := -1) hT h2 (by omega)
  have hkc : kc (nI κ) = nI κ := by rcases hκ with rfl | rfl <;> decide
  rw [hkc] at hnd
  have l3 := md_push (m := S.2.1.length) l2 (Nat.le_refl _) h20 hnd
  rw [List.take_of_length_le (Nat.le_refl _)] at l3
  refine ⟨_, _, _, _, _, _, ?_, l3⟩
  have hin := fun {α : Type} (r : Option α) => B58_in (high := high) (m := S.2.1.length) (l := S.2.1.length) (X := pile) h5 (Nat.le_refl _) 0 (by omega) h4 r
  unfold f_X6_turn_B58
  rw [(hin (none : Option Nat)).1, (hin _).2]
  rcases hκ with rfl | rfl
  · rw [if_pos (by decide), h1, m_made hT, Option.bind_some]
    show (f_X6_push (nI S.2.1.length) pile (nI T)).bind _ = _
    rw [m_push (by omega), Option.bind_some]
    rfl
  · rw [if_neg (by decide), if_pos (by decide), h1, m_made hT, Option.bind_some]
    show (f_X6_push (nI S.2.1.length) pile (nI T)).bind _ = _
    rw [m_push (by omega), Option.bind_some]
    rfl
theorem get2 {α : Type} {L : List α} {m : Nat} (h : L.length = m + 2) : ∃ x y, L[m]? = some x ∧ L[m + 1]? = some y ∧ L.drop m = [x, y] := by
  have h1 : L[m]? = some (L[m]'(by omega)) := List.getElem?_eq_getElem _
  have h2 : L[m + 1]? = some (L[m + 1]'(by omega)) := List.getElem?_eq_getElem _
  exact ⟨_, _, h1, h2, by rw [drop_cons h1, drop_cons h2, List.drop_of_length_le (by omega)]⟩
theorem get1 {α : Type} {L : List α} {m : Nat} (h : L.length = m + 1) : ∃ x, L[m]? = some x ∧ L.drop m = [x] := by
  have h1 : L[m]? = some (L[m]'(by omega)) := List.getElem?_eq_getElem _
  exact ⟨_, h1, by rw [drop_cons h1, List.drop_of_length_le (by omega)]⟩
theorem turn_two {m : Nat} (hT : T < 3000) (h : mdR sort what part terms high pile lines lineSort lineOf lineTerm temps T S) (hm : S.2.1.length = m + 2) :
    ∃ sort' what' part' pile' terms' high', f_X6_turn_B58 high lineOf lineSort lineTerm lines part pile sort temps terms what (nI 4) a (nI 2) = some (high', lineOf, lineSort, lineTerm, lines, part', pile', sort', temps, terms', what') ∧ mdR sort' what' part' terms' high' pile' lines lineSort lineOf lineTerm temps (T + 1) (S.1, S.2.1.take m ++ [(S.2.1.drop m).flatten ++ [(nI 4, a)]], S.2.2) := by
  have hh := h
  obtain ⟨h1, h2, h4, h5, h6, h7, h8, h9⟩ := hh
  obtain ⟨X, Y, gx, gy, hd⟩ := get2 hm
  obtain ⟨p, hp, hpe, hpm⟩ := h6 m X gx
  obtain ⟨q, hq, hqe, hqm⟩ := h6 (m + 1) Y gy
  have har : ar (upd sort T (nI 3)) (upd what T a) T = 2 := by unfold ar; rw [pk_us, if_pos (by decide)]
  have hpp : ∀ i, i < ar (upd sort T (nI 3)) (upd what T a) T → ∃ r, r < T ∧ newP part T (pile m) (pile (m + 1)) (-1) (3 * T + i) = nI r := by
    intro i hi
    rw [har] at hi
    have : i = 0 ∨ i = 1 := by omega
    rcases this with rfl | rfl
    · exact ⟨p, hp, by rw [newP_0]; exact hpe⟩
    · exact ⟨q, hq, by rw [newP_1]; exact hqe⟩
  have l2 := md_new (s := 3) (w := a) (a := pile m) (b := pile (m + 1)) (c := -1) hT h (by omega) (by rw [har]; omega) hpp
  have hmp := mp_new (s := 3) (w := a) (a := pile m) (b := pile (m + 1)) (c := -1) hT h2 (by omega) (by rw [har]; omega) hpp
  have hv : nd (upd sort T (nI 3)) (upd what T a) (newP part T (pile m) (pile (m + 1)) (-1)) (T + 1) (nI T) ((S.2.1.drop m).flatten ++ [(nI 4, a)]) := by
    refine ⟨T, by omega, rfl, ?_⟩
    rw [hmp, har, hd]
    show ([mp sort what part (newP part T (pile m) (pile (m + 1)) (-1) (3 * T + 0)).toNatClampNeg, mp sort what part (newP part T (pile m) (pile (m + 1)) (-1) (3 * T + 1)).toNatClampNeg] : List (List Cl)).flatten ++ [(kc (nI 3), a)] = _
    rw [newP_0, newP_1, hpe, hqe, nI_clamp (by omega), nI_clamp (by omega), hpm, hqm]
    rfl
  have l3 := md_push (m := m) l2 (by omega) (by omega) hv
  refine ⟨_, _, _, _, _, _, ?_, l3⟩
  have hin := fun {α : Type} (r : Option α) => B58_in (high := high) (m := m) (l := S.2.1.length) (X := pile) h5 (by omega) 2 (by omega) h4 r
  unfold f_X6_turn_B58
  rw [(hin (none : Option Nat)).1, (hin _).2, if_neg (by decide), if_neg (by decide), if_neg (by decide), if_neg (by decide), if_pos (by decide), nI_1, nI_clamp (by omega), nI_clamp (by omega), h1, m_made hT, Option.bind_some]
  show (f_X6_push (nI m) pile (nI T)).bind _ = _
  rw [m_push (by omega), Option.bind_some]
  rfl
theorem turn_minus {m : Nat} (ha : a = 0) (hT : T < 3000) (h : mdR sort what part terms high pile lines lineSort lineOf lineTerm temps T S) (hm : S.2.1.length = m + 1) :
    ∃ sort' what' part' pile' terms' high', f_X6_turn_B58 high lineOf lineSort lineTerm lines part pile sort temps terms what (nI 5) a (nI 1) = some (high', lineOf, lineSort, lineTerm, lines, part', pile', sort', temps, terms', what') ∧ mdR sort' what' part' terms' high' pile' lines lineSort lineOf lineTerm temps (T + 1) (S.1, S.2.1.take m ++ [(S.2.1.drop m).flatten ++ [(nI 5, a)]], S.2.2) := by
  have hh := h
  obtain ⟨h1, h2, h4, h5, h6, h7, h8, h9⟩ := hh
  obtain ⟨X, gx, hd⟩ := get1 hm
  obtain ⟨p, hp, hpe, hpm⟩ := h6 m X gx
  have har : ar (upd sort T (nI 4)) (upd what T 0) T = 1 := by unfold ar; rw [pk_us, if_neg (by decide), if_pos (by decide)]
  have hpp : ∀ i, i < ar (upd sort T (nI 4)) (upd what T 0) T → ∃ r, r < T ∧ newP part T (pile m) (-1) (-1) (3 * T + i) = nI r := by
    intro i hi
    rw [har] at hi
    have : i = 0 := by omega
    subst this
    exact ⟨p, hp, by rw [newP_0]; exact hpe⟩
  have l2 := md_new (s := 4) (w := 0) (a := pile m) (b := -1) (c := -1) hT h (by omega) (by rw [har]; omega) hpp
  have hmp := mp_new (s := 4) (w := 0) (a := pile m) (b := -1) (c := -1) hT h2 (by omega) (by rw [har]; omega) hpp
  have hv : nd (upd sort T (nI 4)) (upd what T 0) (newP part T (pile m) (-1) (-1)) (T + 1) (nI T) ((S.2.1.drop m).flatten ++ [(nI 5, a)]) := by
    refine ⟨T, by omega, rfl, ?_⟩
    rw [hmp, har, hd, ha]
    show ([mp sort what part (newP part T (pile m) (-1) (-1) (3 * T + 0)).toNatClampNeg] : List (List Cl)).flatten ++ [(kc (nI 4), 0)] = _
    rw [newP_0, hpe, nI_clamp (by omega), hpm]
    rfl
  have l3 := md_push (m := m) l2 (by omega) (by omega) hv
  refine ⟨_, _, _, _, _, _, ?_, l3⟩
  have hin := fun {α : Type} (r : Option α) => B58_in (high := high) (m := m) (l := S.2.1.length) (X := pile) h5 (by omega) 1 (by omega) h4 r
  unfold f_X6_turn_B58
  rw [(hin (none : Option Nat)).1, (hin _).2, if_neg (by decide), if_neg (by decide), if_neg (by decide), if_neg (by decide), if_neg (by decide), if_pos (by decide), nI_clamp (by omega), h1, m_made hT, Option.bind_some]
  show (f_X6_push (nI m) pile (nI T)).bind _ = _
  rw [m_push (by omega), Option.bind_some]
  rfl
theorem turn_line {κ m x : Nat} (hκ : κ = 2 ∨ κ = 3 ∨ κ = 6) (h6a : κ = 6 → a = 0) (hx : x = if κ = 3 then 0 else 1) (h : mdR sort what part terms high pile lines lineSort lineOf lineTerm temps T S) (hm : S.2.1.length = m + x) (hL : S.1.length < 2200) :
    ∃ lineSort' lineOf' lineTerm' lines' high', f_X6_turn_B58 high lineOf lineSort lineTerm lines part pile sort temps terms what (nI κ) a (nI x) = some (high', lineOf', lineSort', lineTerm', lines', part, pile, sort, temps, terms, what) ∧ mdR sort what part terms high' pile lines' lineSort' lineOf' lineTerm' temps T (S.1 ++ [((S.2.1.drop m).flatten, (nI κ, a))], S.2.1.take m, S.2.2) := by
  have hh := h
  obtain ⟨h1, h2, h4, h5, h6, h7, h8, h9⟩ := hh
  have hin := fun {α : Type} (r : Option α) => B58_in (high := high) (m := m) (l := S.2.1.length) (X := pile) h5 (by omega) x (by omega) h4 r
  rcases hκ with rfl | rfl | rfl
  · rw [if_neg (by decide)] at hx
    subst hx
    obtain ⟨X, gx, hd⟩ := get1 hm
    have l1 := md_take (m := m) (md_line h (s := 1) (o := a) (v := pile m) (q := (X, (2, a))) (Or.inr (Or.inl ⟨rfl, rfl, h6 m X gx⟩))) (by show m ≤ S.2.1.length; omega)
    refine ⟨_, _, _, _, _, ?_, by rw [hd]; exact (by rw [List.flatten_cons, List.flatten_nil, List.append_nil]; exact l1)⟩
    unfold f_X6_turn_B58
    rw [(hin (none : Option Nat)).1, (hin _).2, if_neg (by decide), if_neg (by decide), if_pos (by decide), nI_clamp (by omega), h7, m_lineOut hL, Option.bind_some]
  · rw [if_pos rfl] at hx
    subst hx
    have l1 := md_take (m := m) (md_line h (s := 2) (o := a / 256) (v := (a - a / 256 * 256) - 128) (q := ([], (3, a))) (Or.inr (Or.inr (Or.inl ⟨rfl, rfl, a, rfl, rfl, rfl⟩)))) (by show m ≤ S.2.1.length; omega)
    have hd : (S.2.1.drop m).flatten = [] := by rw [List.drop_of_length_le (by omega)]; rfl
    refine ⟨_, _, _, _, _, ?_, by rw [hd]; exact l1⟩
    unfold f_X6_turn_B58
    rw [(hin (none : Option Nat)).1, (hin _).2, if_neg (by decide), if_neg (by decide), if_neg (by decide), if_pos (by decide), h7, m_lineOut hL, Option.bind_some]
  · rw [if_neg (by decide)] at hx
    subst hx
    obtain ⟨X, gx, hd⟩ := get1 hm
    have ha0 := h6a rfl
    have l1 := md_take (m := m) (md_line h (s := 3) (o := 0) (v := pile m) (q := (X, (6, a))) (Or.inr (Or.inr (Or.inr ⟨rfl, by rw [ha0], h6 m X gx⟩)))) (by show m ≤ S.2.1.length; omega)
    refine ⟨_, _, _, _, _, ?_, by rw [hd]; exact (by rw [List.flatten_cons, List.flatten_nil, List.append_nil]; exact l1)⟩
    unfold f_X6_turn_B58
    rw [(hin (none : Option Nat)).1, (hin _).2, if_neg (by decide), if_neg (by decide), if_neg (by decide), if_neg (by decide), if_neg (by decide), if_neg (by decide), if_pos (by decide), nI_clamp (by omega), h7, m_lineOut hL, Option.bind_some]
end PTurn
