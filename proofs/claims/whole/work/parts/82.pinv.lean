/-! PURE PART 13: what stays within the class's rows: lines, cells, temporaries are bounded by the acts -/
def cx : List (List Cl) → Nat
  | [] => 0
  | P :: r => (if lastK P = 0 ∨ lastK P = 11 then 0 else 1) + cx r
theorem cx_app (a b : List (List Cl)) : cx (a ++ b) = cx a + cx b := by
  induction a with
  | nil => show cx b = 0 + cx b; omega
  | cons P a ih => show _ + cx (a ++ b) = _ + cx a + cx b; rw [ih]; omega
theorem cx_take_drop (Ps : List (List Cl)) (m : Nat) : cx Ps = cx (Ps.take m) + cx (Ps.drop m) := by rw [← cx_app, List.take_append_drop]
theorem cx_one1 {Q : List Cl} (h : ∀ c ∈ Q, c.1 = 0 ∨ c.1 = 11) : cx (one1 Q) = 0 := by
  induction Q with
  | nil => rfl
  | cons c Q ih =>
    show (if lastK [c] = 0 ∨ lastK [c] = 11 then 0 else 1) + cx (one1 Q) = 0
    rw [if_pos (show lastK [c] = 0 ∨ lastK [c] = 11 from h c (List.mem_cons_self)), ih (fun d hd => h d (List.mem_cons_of_mem _ hd))]
theorem po_facts : ∀ (Ps : List (List Cl)) (a : List Ln × List Cl × Nat), (∀ P ∈ Ps, okP P) → (∀ c ∈ a.2.1, c.1 = 0 ∨ c.1 = 11) →
    (Ps.foldl poF a).1.length = a.1.length + cx Ps ∧ (Ps.foldl poF a).2.2 = a.2.2 + cx Ps ∧ (fl (Ps.foldl poF a).1).length + (Ps.foldl poF a).2.1.length = (fl a.1).length + a.2.1.length + Ps.flatten.length + 2 * cx Ps ∧ ∀ c ∈ (Ps.foldl poF a).2.1, c.1 = 0 ∨ c.1 = 11 := by
  intro Ps
  induction Ps with
  | nil => intro a _ h; exact ⟨rfl, rfl, rfl, h⟩
  | cons P Ps ih =>
    intro a hok ha
    have hP := hok P List.mem_cons_self
    have hok' : ∀ P ∈ Ps, okP P := fun P' h => hok P' (List.mem_cons_of_mem _ h)
    show (Ps.foldl poF (poF a P)).1.length = _ ∧ (Ps.foldl poF (poF a P)).2.2 = _ ∧ (fl (Ps.foldl poF (poF a P)).1).length + (Ps.foldl poF (poF a P)).2.1.length = _ ∧ ∀ c ∈ (Ps.foldl poF (poF a P)).2.1, _
    by_cases hS : lastK P = 0 ∨ lastK P = 11
    · obtain ⟨c, rfl⟩ := hP.2 hS
      have hpo : poF a [c] = (a.1, a.2.1 ++ [c], a.2.2) := by unfold poF; rw [if_pos hS]; rfl
      have hcx : cx ([c] :: Ps) = cx Ps := by show (if _ then 0 else 1) + cx Ps = _; rw [if_pos hS]; omega
      rw [hpo]
      obtain ⟨g1, g2, g3, g4⟩ := ih (a.1, a.2.1 ++ [c], a.2.2) hok' (by
        intro d hd
        rcases List.mem_append.mp hd with hd | hd
        · exact ha d hd
        · rw [List.mem_singleton.mp hd]; exact hS)
      refine ⟨by rw [g1, hcx], by rw [g2, hcx], ?_, g4⟩
      rw [g3, hcx, List.flatten_cons, List.length_append, List.length_append]
      show (fl a.1).length + (a.2.1.length + 1) + _ + _ = _
      have : ([c] : List Cl).length = 1 := rfl
      omega
    · have hpo : poF a P = (a.1 ++ [(P, (12, nI a.2.2))], a.2.1 ++ [(11, nI a.2.2)], a.2.2 + 1) := by unfold poF; rw [if_neg hS]
      have hcx : cx (P :: Ps) = 1 + cx Ps := by show (if _ then 0 else 1) + cx Ps = _; rw [if_neg hS]
      rw [hpo]
      obtain ⟨g1, g2, g3, g4⟩ := ih (a.1 ++ [(P, (12, nI a.2.2))], a.2.1 ++ [(11, nI a.2.2)], a.2.2 + 1) hok' (by
        intro d hd
        rcases List.mem_append.mp hd with hd | hd
        · exact ha d hd
        · rw [List.mem_singleton.mp hd]; exact Or.inr rfl)
      refine ⟨?_, ?_, ?_, g4⟩
      · rw [g1, hcx, List.length_append, List.length_singleton]; omega
      · rw [g2, hcx]; show a.2.2 + 1 + cx Ps = _; omega
      · rw [g3, hcx, List.flatten_cons, List.length_append, fl_app, fl_one, List.length_append, List.length_append, List.length_append, List.length_singleton, List.length_singleton]
        omega
theorem flat_ge {Ps : List (List Cl)} (h : ∀ P ∈ Ps, okP P) : Ps.length ≤ Ps.flatten.length := by
  have := off_ge (Ps := Ps) (fun P hP => (h P hP).1) Ps.length (Nat.le_refl _)
  rw [off_all] at this
  exact this
/-- the spec state's bounds, with n acts told -/
def invS (S : Sp) (n : Nat) : Prop := S.1.length + cx S.2.1 ≤ n ∧ (fl S.1).length + S.2.1.flatten.length ≤ n + 2 * S.2.2 ∧ S.2.1.flatten.length ≤ n ∧ S.2.2 ≤ S.1.length ∧ (∀ P ∈ S.2.1, okP P) ∧ S.2.1.length ≤ 20
theorem okP_one {c : Cl} : okP [c] := ⟨by simp, fun _ => ⟨c, rfl⟩⟩
theorem okP_big {P : List Cl} {c : Cl} (h : ¬ (c.1 = 0 ∨ c.1 = 11)) : okP (P ++ [c]) ∧ ¬ (lastK (P ++ [c]) = 0 ∨ lastK (P ++ [c]) = 11) := by
  have hl : lastK (P ++ [c]) = c.1 := by unfold lastK; rw [List.getLast?_concat]; rfl
  have hn : ¬ (lastK (P ++ [c]) = 0 ∨ lastK (P ++ [c]) = 11) := by rw [hl]; exact h
  exact ⟨⟨by simp, fun z => absurd z hn⟩, hn⟩
theorem okP_one1 {Q : List Cl} : ∀ P ∈ one1 Q, okP P := by
  intro P hP
  obtain ⟨c, -, rfl⟩ := List.mem_map.mp hP
  exact okP_one
theorem turnQ_mem {k : Int32} {Q : List Cl} (h1 : 1 ≤ Q.length) : ∀ c ∈ turnQ k Q, c ∈ Q := by
  have hg : ∀ i, i < Q.length → Q.getD i (0, 0) ∈ Q := fun i hi => List.mem_of_getElem? (getD_some hi)
  intro c hc
  unfold turnQ at hc
  by_cases h7 : k = 7
  · rw [if_pos h7] at hc
    rcases List.mem_append.mp hc with hc | hc
    · exact hc
    · rw [List.mem_singleton.mp hc]; exact hg _ (by omega)
  · rw [if_neg h7] at hc
    by_cases h8 : k = 8
    · rw [if_pos h8] at hc
      rcases List.mem_append.mp hc with hc | hc
      · exact List.mem_of_mem_take hc
      · simp only [List.mem_cons, List.not_mem_nil, or_false] at hc
        rcases hc with rfl | rfl <;> exact hg _ (by omega)
    · rw [if_neg h8] at hc
      rcases List.mem_append.mp hc with hc | hc
      · exact List.mem_of_mem_take hc
      · simp only [List.mem_cons, List.not_mem_nil, or_false] at hc
        rcases hc with rfl | rfl | rfl <;> exact hg _ (by omega)
theorem turnQ_len {κ : Nat} {Q : List Cl} (hκ : κ = 7 ∨ κ = 8 ∨ κ = 9) (h : tak κ 0 ≤ Q.length) : (turnQ (nI κ) Q).length = Q.length - tak κ 0 + pts κ := by
  rcases hκ with rfl | rfl | rfl
  · have : 1 ≤ Q.length := h
    unfold turnQ
    rw [if_pos (by decide), List.length_append]
    show Q.length + 1 = Q.length - 1 + 2
    omega
  · have : 2 ≤ Q.length := h
    unfold turnQ
    rw [if_neg (by decide), if_pos (by decide), List.length_append, List.length_take]
    show min (Q.length - 2) Q.length + 2 = Q.length - 2 + 2
    omega
  · have : 2 ≤ Q.length := h
    unfold turnQ
    rw [if_neg (by decide), if_neg (by decide), List.length_append, List.length_take]
    show min (Q.length - 2) Q.length + 3 = Q.length - 2 + 3
    omega
theorem inv_tell {S : Sp} {n κ : Nat} {a : Int32} (h : invS S n) (hκ : κ ≤ 10) (htk : tak κ a ≤ S.2.1.length) (h20 : S.2.1.length - tak κ a + pts κ ≤ 20) : invS (tellS S κ a) (n + 1) := by
  obtain ⟨i1, i2, i3, i4, i5, i6⟩ := h
  generalize hm : S.2.1.length - tak κ a = m at h20
  have hml : m ≤ S.2.1.length := by omega
  have hokt : ∀ P ∈ S.2.1.take m, okP P := fun P hP => i5 P (List.mem_of_mem_take hP)
  obtain ⟨f1, f2, f3, f4⟩ := po_facts (S.2.1.take m) (S.1, [], S.2.2) hokt (fun c hc => by cases hc)
  have f1 : (po S.1 (S.2.1.take m) S.2.2).1.length = S.1.length + cx (S.2.1.take m) := f1
  have f2 : (po S.1 (S.2.1.take m) S.2.2).2.2 = S.2.2 + cx (S.2.1.take m) := f2
  have f3 : (fl (po S.1 (S.2.1.take m) S.2.2).1).length + (po S.1 (S.2.1.take m) S.2.2).2.1.length = (fl S.1).length + 0 + (S.2.1.take m).flatten.length + 2 * cx (S.2.1.take m) := f3
  have f4 : ∀ c ∈ (po S.1 (S.2.1.take m) S.2.2).2.1, c.1 = 0 ∨ c.1 = 11 := f4
  have hql := po_len S.1 S.2.2 S.2.1 m hml
  have hcx := cx_take_drop S.2.1 m
  have hfl : S.2.1.flatten.length = (S.2.1.take m).flatten.length + (S.2.1.drop m).flatten.length := by rw [← List.length_append, ← off_split]
  have hge := flat_ge hokt
  rw [List.length_take, Nat.min_eq_left hml] at hge
  by_cases hA : κ = 2 ∨ κ = 3 ∨ κ = 6
  · have hS : tellS S κ a = ((po S.1 (S.2.1.take m) S.2.2).1 ++ [((S.2.1.drop m).flatten, (nI κ, a))], one1 (po S.1 (S.2.1.take m) S.2.2).2.1, (po S.1 (S.2.1.take m) S.2.2).2.2) := by unfold tellS; rw [if_pos hA, hm]
    rw [hS]
    refine ⟨?_, ?_, ?_, ?_, okP_one1, ?_⟩
    · show ((po S.1 (S.2.1.take m) S.2.2).1 ++ [_]).length + cx (one1 _) ≤ _
      rw [List.length_append, List.length_singleton, cx_one1 f4]; omega
    · show (fl ((po S.1 (S.2.1.take m) S.2.2).1 ++ [_])).length + (one1 _).flatten.length ≤ n + 1 + 2 * (po S.1 (S.2.1.take m) S.2.2).2.2
      rw [fl_app, fl_one, one1_flat, List.length_append, List.length_append, List.length_singleton]; omega
    · show (one1 (po S.1 (S.2.1.take m) S.2.2).2.1).flatten.length ≤ n + 1
      rw [one1_flat]; omega
    · show (po S.1 (S.2.1.take m) S.2.2).2.2 ≤ ((po S.1 (S.2.1.take m) S.2.2).1 ++ [_]).length
      rw [List.length_append]; omega
    · show (one1 (po S.1 (S.2.1.take m) S.2.2).2.1).length ≤ 20
      rw [one1_len]; omega
  by_cases hE : κ = 10
  · subst hE
    have hS : tellS S 10 a = ((po S.1 (S.2.1.take m) S.2.2).1, one1 (po S.1 (S.2.1.take m) S.2.2).2.1 ++ [(S.2.1.drop m).flatten ++ [(nI 10, a)]], (po S.1 (S.2.1.take m) S.2.2).2.2) := by unfold tellS; rw [if_neg (by omega), if_neg (by omega), if_pos rfl, hm]
    obtain ⟨o1, o2⟩ := okP_big (P := (S.2.1.drop m).flatten) (c := (nI 10, a)) (by show ¬ (nI 10 = 0 ∨ nI 10 = 11); decide)
    have hpts : pts 10 = 1 := rfl
    rw [hS]
    refine ⟨?_, ?_, ?_, ?_, ?_, ?_⟩
    · show (po S.1 (S.2.1.take m) S.2.2).1.length + cx (one1 _ ++ [_]) ≤ _
      rw [cx_app, cx_one1 f4]
      show _ + (0 + ((if _ then 0 else 1) + 0)) ≤ _
      rw [if_neg o2]; omega
    · show (fl (po S.1 (S.2.1.take m) S.2.2).1).length + (one1 (po S.1 (S.2.1.take m) S.2.2).2.1 ++ [(S.2.1.drop m).flatten ++ [(nI 10, a)]]).flatten.length ≤ n + 1 + 2 * (po S.1 (S.2.1.take m) S.2.2).2.2
      rw [List.flatten_append, one1_flat, List.flatten_cons, List.flatten_nil, List.append_nil, List.length_append, List.length_append, List.length_singleton]; omega
    · show (one1 (po S.1 (S.2.1.take m) S.2.2).2.1 ++ [(S.2.1.drop m).flatten ++ [(nI 10, a)]]).flatten.length ≤ n + 1
      rw [List.flatten_append, one1_flat, List.flatten_cons, List.flatten_nil, List.append_nil, List.length_append, List.length_append, List.length_singleton]; omega
    · show (po S.1 (S.2.1.take m) S.2.2).2.2 ≤ (po S.1 (S.2.1.take m) S.2.2).1.length
      omega
    · intro P hP
      rcases List.mem_append.mp hP with hP | hP
      · exact okP_one1 P hP
      · rw [List.mem_singleton.mp hP]; exact o1
    · show (one1 (po S.1 (S.2.1.take m) S.2.2).2.1 ++ [_]).length ≤ 20
      rw [List.length_append, one1_len, List.length_singleton]; omega
  by_cases hB : κ = 7 ∨ κ = 8 ∨ κ = 9
  · have hta : tak κ a = tak κ 0 := by rcases hB with rfl | rfl | rfl <;> rfl
    obtain ⟨f1, f2, f3, f4⟩ := po_facts S.2.1 (S.1, [], S.2.2) i5 (fun c hc => by cases hc)
    have f1 : (po S.1 S.2.1 S.2.2).1.length = S.1.length + cx S.2.1 := f1
    have f2 : (po S.1 S.2.1 S.2.2).2.2 = S.2.2 + cx S.2.1 := f2
    have f3 : (fl (po S.1 S.2.1 S.2.2).1).length + (po S.1 S.2.1 S.2.2).2.1.length = (fl S.1).length + 0 + S.2.1.flatten.length + 2 * cx S.2.1 := f3
    have f4 : ∀ c ∈ (po S.1 S.2.1 S.2.2).2.1, c.1 = 0 ∨ c.1 = 11 := f4
    have hql := po_all_len S.1 S.2.2 S.2.1
    have hS : tellS S κ a = ((po S.1 S.2.1 S.2.2).1, one1 (turnQ (nI κ) (po S.1 S.2.1 S.2.2).2.1), (po S.1 S.2.1 S.2.2).2.2) := by unfold tellS; rw [if_neg (by omega), if_pos hB]
    have h1 : 1 ≤ S.2.1.length := by have : 1 ≤ tak κ 0 := by rcases hB with rfl | rfl | rfl <;> decide
                                     omega
    have htl := turnQ_len (κ := κ) (Q := (po S.1 S.2.1 S.2.2).2.1) hB (by omega)
    have hmem := turnQ_mem (k := nI κ) (Q := (po S.1 S.2.1 S.2.2).2.1) (by omega)
    have hpt : pts κ ≤ tak κ 0 + 1 := by rcases hB with rfl | rfl | rfl <;> decide
    have hge2 := flat_ge i5
    rw [hS]
    refine ⟨?_, ?_, ?_, ?_, okP_one1, ?_⟩
    · show (po S.1 S.2.1 S.2.2).1.length + cx (one1 _) ≤ _
      rw [cx_one1 (fun c hc => f4 c (hmem c hc))]; omega
    · show (fl (po S.1 S.2.1 S.2.2).1).length + (one1 (turnQ (nI κ) (po S.1 S.2.1 S.2.2).2.1)).flatten.length ≤ n + 1 + 2 * (po S.1 S.2.1 S.2.2).2.2
      rw [one1_flat]; omega
    · show (one1 (turnQ (nI κ) (po S.1 S.2.1 S.2.2).2.1)).flatten.length ≤ n + 1
      rw [one1_flat]; omega
    · show (po S.1 S.2.1 S.2.2).2.2 ≤ (po S.1 S.2.1 S.2.2).1.length
      omega
    · show (one1 (turnQ (nI κ) (po S.1 S.2.1 S.2.2).2.1)).length ≤ 20
      rw [one1_len]; omega
  · have hS : tellS S κ a = (S.1, S.2.1.take m ++ [(S.2.1.drop m).flatten ++ [(nI κ, a)]], S.2.2) := by unfold tellS; rw [if_neg hA, if_neg hB, if_neg hE, hm]
    have hk : κ = 0 ∨ κ = 1 ∨ κ = 4 ∨ κ = 5 := by omega
    have hpts : pts κ = 1 := by rcases hk with rfl | rfl | rfl | rfl <;> rfl
    have hnew : okP ((S.2.1.drop m).flatten ++ [(nI κ, a)]) := by
      by_cases h0 : κ = 0
      · subst h0
        have : tak 0 a = 0 := rfl
        rw [List.drop_of_length_le (by omega)]
        exact okP_one
      · exact (okP_big (by show ¬ (nI κ = 0 ∨ nI κ = 11); rcases hk with rfl | rfl | rfl | rfl <;> first | exact absurd rfl h0 | decide)).1
    have hc1 : cx [(S.2.1.drop m).flatten ++ [(nI κ, a)]] ≤ 1 := by
      show (if _ then 0 else 1) + 0 ≤ 1
      split <;> omega
    rw [hS]
    refine ⟨?_, ?_, ?_, i4, ?_, ?_⟩
    · show S.1.length + cx (S.2.1.take m ++ [_]) ≤ _
      rw [cx_app]; omega
    · show (fl S.1).length + (S.2.1.take m ++ [(S.2.1.drop m).flatten ++ [(nI κ, a)]]).flatten.length ≤ n + 1 + 2 * S.2.2
      rw [List.flatten_append, List.flatten_cons, List.flatten_nil, List.append_nil, List.length_append, List.length_append, List.length_singleton]; omega
    · show (S.2.1.take m ++ [(S.2.1.drop m).flatten ++ [(nI κ, a)]]).flatten.length ≤ n + 1
      rw [List.flatten_append, List.flatten_cons, List.flatten_nil, List.append_nil, List.length_append, List.length_append, List.length_singleton]; omega
    · intro P hP
      rcases List.mem_append.mp hP with hP | hP
      · exact hokt P hP
      · rw [List.mem_singleton.mp hP]; exact hnew
    · show (S.2.1.take m ++ [_]).length ≤ 20
      rw [List.length_append, List.length_take, List.length_singleton]; omega
/-- what the bounds give -/
theorem inv_caps {S : Sp} {n : Nat} (h : invS S n) (hn : n ≤ 100) : S.1.length ≤ 100 ∧ (fl S.1).length ≤ 300 ∧ S.2.1.flatten.length ≤ 300 ∧ S.2.2 ≤ 100 := by
  obtain ⟨i1, i2, i3, i4, i5, i6⟩ := h
  exact ⟨by omega, by omega, by omega, by omega⟩
