/-! PURE PART 18: a term of the reference's table, seen by its sort -/
theorem okC_0 {w : Int32} (h : okC (0, w)) : numR w := by
  rcases h with h | h | h | h | h | h
  · exact h.2
  · exact absurd (show (0 : Int32) = 1 from h.1) (by decide)
  · exact absurd (show (0 : Int32) = 4 from h.1) (by decide)
  · exact absurd (show (0 : Int32) = 5 from h.1) (by decide)
  · exact absurd (show (0 : Int32) = 10 from h.1) (by decide)
  · exact absurd (show (0 : Int32) = 11 from h.1) (by decide)
theorem okC_1 {w : Int32} (h : okC (1, w)) : ∃ v : Nat, v < 10 ∧ w = nI v := by
  rcases h with h | h | h | h | h | h
  · exact absurd (show (1 : Int32) = 0 from h.1) (by decide)
  · exact h.2
  · exact absurd (show (1 : Int32) = 4 from h.1) (by decide)
  · exact absurd (show (1 : Int32) = 5 from h.1) (by decide)
  · exact absurd (show (1 : Int32) = 10 from h.1) (by decide)
  · exact absurd (show (1 : Int32) = 11 from h.1) (by decide)
theorem okC_4 {w : Int32} (h : okC (4, w)) : ∃ o : Nat, o < 8 ∧ w = nI o := by
  rcases h with h | h | h | h | h | h
  · exact absurd (show (4 : Int32) = 0 from h.1) (by decide)
  · exact absurd (show (4 : Int32) = 1 from h.1) (by decide)
  · exact h.2
  · exact absurd (show (4 : Int32) = 5 from h.1) (by decide)
  · exact absurd (show (4 : Int32) = 10 from h.1) (by decide)
  · exact absurd (show (4 : Int32) = 11 from h.1) (by decide)
theorem okC_5 {w : Int32} (h : okC (5, w)) : w = 0 := by
  rcases h with h | h | h | h | h | h
  · exact absurd (show (5 : Int32) = 0 from h.1) (by decide)
  · exact absurd (show (5 : Int32) = 1 from h.1) (by decide)
  · exact absurd (show (5 : Int32) = 4 from h.1) (by decide)
  · exact h.2
  · exact absurd (show (5 : Int32) = 10 from h.1) (by decide)
  · exact absurd (show (5 : Int32) = 11 from h.1) (by decide)
theorem okC_10 {w : Int32} (h : okC (10, w)) : ∃ x : Nat, x ≤ 3 ∧ w = nI x := by
  rcases h with h | h | h | h | h | h
  · exact absurd (show (10 : Int32) = 0 from h.1) (by decide)
  · exact absurd (show (10 : Int32) = 1 from h.1) (by decide)
  · exact absurd (show (10 : Int32) = 4 from h.1) (by decide)
  · exact absurd (show (10 : Int32) = 5 from h.1) (by decide)
  · exact h.2
  · exact absurd (show (10 : Int32) = 11 from h.1) (by decide)
theorem okC_11 {w : Int32} (h : okC (11, w)) : ∃ j : Nat, j < 100 ∧ w = nI j := by
  rcases h with h | h | h | h | h | h
  · exact absurd (show (11 : Int32) = 0 from h.1) (by decide)
  · exact absurd (show (11 : Int32) = 1 from h.1) (by decide)
  · exact absurd (show (11 : Int32) = 4 from h.1) (by decide)
  · exact absurd (show (11 : Int32) = 5 from h.1) (by decide)
  · exact absurd (show (11 : Int32) = 10 from h.1) (by decide)
  · exact h.2
section NodeV
variable {sort what part : Nat → Int32}
def okT (sort what part : Nat → Int32) (t : Nat) : Prop := ∀ c ∈ mp sort what part t, okC c
/-- a term by its sort -/
def ndV (sort what part : Nat → Int32) (t : Nat) : Prop :=
  (sort t = 0 ∧ numR (what t) ∧ mp sort what part t = [(0, what t)]) ∨
  (sort t = 1 ∧ (∃ v : Nat, v < 10 ∧ what t = nI v) ∧ mp sort what part t = [(1, what t)]) ∨
  (sort t = 2 ∧ (∃ j : Nat, j < 100 ∧ what t = nI j) ∧ mp sort what part t = [(11, what t)]) ∨
  (sort t = 3 ∧ ∃ o a b : Nat, o < 8 ∧ what t = nI o ∧ a < t ∧ b < t ∧ part (3 * t + 0) = nI a ∧ part (3 * t + 1) = nI b ∧ mp sort what part t = mp sort what part a ++ (mp sort what part b ++ [(4, nI o)]) ∧ okT sort what part a ∧ okT sort what part b) ∨
  (sort t = 4 ∧ what t = 0 ∧ ∃ a : Nat, a < t ∧ part (3 * t + 0) = nI a ∧ mp sort what part t = mp sort what part a ++ [(5, 0)] ∧ okT sort what part a) ∨
  (sort t = 5 ∧ what t = nI 0 ∧ mp sort what part t = [(10, nI 0)]) ∨
  (sort t = 5 ∧ what t = nI 1 ∧ ∃ a : Nat, a < t ∧ part (3 * t + 0) = nI a ∧ mp sort what part t = mp sort what part a ++ [(10, nI 1)] ∧ okT sort what part a) ∨
  (sort t = 5 ∧ what t = nI 2 ∧ ∃ a b : Nat, a < t ∧ b < t ∧ part (3 * t + 0) = nI a ∧ part (3 * t + 1) = nI b ∧ mp sort what part t = mp sort what part a ++ (mp sort what part b ++ [(10, nI 2)]) ∧ okT sort what part a ∧ okT sort what part b) ∨
  (sort t = 5 ∧ what t = nI 3 ∧ ∃ a b c : Nat, a < t ∧ b < t ∧ c < t ∧ part (3 * t + 0) = nI a ∧ part (3 * t + 1) = nI b ∧ part (3 * t + 2) = nI c ∧ mp sort what part t = mp sort what part a ++ (mp sort what part b ++ (mp sort what part c ++ [(10, nI 3)])) ∧ okT sort what part a ∧ okT sort what part b ∧ okT sort what part c)
theorem node_view {T t : Nat} (hT : T ≤ 3000) (h : wfN sort what part T) (ht : t < T) (hok : okT sort what part t) : ndV sort what part t := by
  have em := mp_eq hT h ht
  obtain ⟨h3, ⟨s, hs, hse⟩, hp⟩ := h t ht
  have hlast : okC (kc (sort t), what t) := hok _ (by rw [em]; exact List.mem_append_right _ List.mem_cons_self)
  have hsub : ∀ i, i < ar sort what t → okT sort what part (part (3 * t + i)).toNatClampNeg := by
    intro i hi c hc
    refine hok c ?_
    rw [em]
    refine List.mem_append_left _ (List.mem_flatten.mpr ⟨_, List.mem_map.mpr ⟨i, List.mem_range.mpr hi, rfl⟩, hc⟩)
  unfold ndV
  match s, hs with
  | 0, _ =>
    have e : sort t = 0 := hse
    have ea : ar sort what t = 0 := ar0 (Or.inl e)
    rw [e] at hlast
    rw [ea, e] at em
    exact Or.inl ⟨e, okC_0 hlast, em⟩
  | 1, _ =>
    have e : sort t = 1 := hse
    have ea : ar sort what t = 0 := ar0 (Or.inr (Or.inl e))
    rw [e] at hlast
    rw [ea, e] at em
    exact Or.inr (Or.inl ⟨e, okC_1 hlast, em⟩)
  | 2, _ =>
    have e : sort t = 2 := hse
    have ea : ar sort what t = 0 := ar0 (Or.inr (Or.inr e))
    rw [e] at hlast
    rw [ea, e] at em
    exact Or.inr (Or.inr (Or.inl ⟨e, okC_11 hlast, em⟩))
  | 3, _ =>
    have e : sort t = 3 := hse
    have ea : ar sort what t = 2 := by unfold ar; rw [if_pos e]
    rw [e] at hlast
    obtain ⟨o, ho, hw⟩ := okC_4 hlast
    obtain ⟨a, ha, ea0⟩ := hp 0 (by omega)
    obtain ⟨b, hb, eb0⟩ := hp 1 (by omega)
    have oa := hsub 0 (by omega)
    have ob := hsub 1 (by omega)
    rw [ea0, nI_clamp (by omega)] at oa
    rw [eb0, nI_clamp (by omega)] at ob
    rw [ea, e, show List.range 2 = [0, 1] from rfl, List.map_cons, List.map_cons, List.map_nil, ea0, eb0, nI_clamp (by omega), nI_clamp (by omega), hw] at em
    refine Or.inr (Or.inr (Or.inr (Or.inl ⟨e, o, a, b, ho, hw, ha, hb, ea0, eb0, ?_, oa, ob⟩)))
    rw [em, List.flatten_cons, List.flatten_cons, List.flatten_nil, List.append_nil, List.append_assoc]
    rfl
  | 4, _ =>
    have e : sort t = 4 := hse
    have ea : ar sort what t = 1 := by unfold ar; rw [e]; rfl
    rw [e] at hlast
    have hw := okC_5 hlast
    obtain ⟨a, ha, ea0⟩ := hp 0 (by omega)
    have oa := hsub 0 (by omega)
    rw [ea0, nI_clamp (by omega)] at oa
    rw [ea, e, show List.range 1 = [0] from rfl, List.map_cons, List.map_nil, ea0, nI_clamp (by omega), hw] at em
    refine Or.inr (Or.inr (Or.inr (Or.inr (Or.inl ⟨e, hw, a, ha, ea0, ?_, oa⟩))))
    rw [em, List.flatten_cons, List.flatten_nil, List.append_nil]
    rfl
  | 5, _ =>
    have e : sort t = 5 := hse
    rw [e] at hlast
    obtain ⟨x, hx, hw⟩ := okC_10 hlast
    have ea : ar sort what t = x := by unfold ar; rw [e, if_neg (by decide), if_neg (by decide), if_pos rfl, hw, nI_clamp (by omega)]
    match x, hx with
    | 0, _ =>
      rw [ea, e, hw] at em
      exact Or.inr (Or.inr (Or.inr (Or.inr (Or.inr (Or.inl ⟨e, hw, em⟩)))))
    | 1, _ =>
      obtain ⟨a, ha, ea0⟩ := hp 0 (by omega)
      have oa := hsub 0 (by omega)
      rw [ea0, nI_clamp (by omega)] at oa
      rw [ea, e, show List.range 1 = [0] from rfl, List.map_cons, List.map_nil, ea0, nI_clamp (by omega), hw] at em
      refine Or.inr (Or.inr (Or.inr (Or.inr (Or.inr (Or.inr (Or.inl ⟨e, hw, a, ha, ea0, ?_, oa⟩))))))
      rw [em, List.flatten_cons, List.flatten_nil, List.append_nil]
      rfl
    | 2, _ =>
      obtain ⟨a, ha, ea0⟩ := hp 0 (by omega)
      obtain ⟨b, hb, eb0⟩ := hp 1 (by omega)
      have oa := hsub 0 (by omega)
      have ob := hsub 1 (by omega)
      rw [ea0, nI_clamp (by omega)] at oa
      rw [eb0, nI_clamp (by omega)] at ob
      rw [ea, e, show List.range 2 = [0, 1] from rfl, List.map_cons, List.map_cons, List.map_nil, ea0, eb0, nI_clamp (by omega), nI_clamp (by omega), hw] at em
      refine Or.inr (Or.inr (Or.inr (Or.inr (Or.inr (Or.inr (Or.inr (Or.inl ⟨e, hw, a, b, ha, hb, ea0, eb0, ?_, oa, ob⟩)))))))
      rw [em, List.flatten_cons, List.flatten_cons, List.flatten_nil, List.append_nil, List.append_assoc]
      rfl
    | 3, _ =>
      obtain ⟨a, ha, ea0⟩ := hp 0 (by omega)
      obtain ⟨b, hb, eb0⟩ := hp 1 (by omega)
      obtain ⟨c, hc, ec0⟩ := hp 2 (by omega)
      have oa := hsub 0 (by omega)
      have ob := hsub 1 (by omega)
      have oc := hsub 2 (by omega)
      rw [ea0, nI_clamp (by omega)] at oa
      rw [eb0, nI_clamp (by omega)] at ob
      rw [ec0, nI_clamp (by omega)] at oc
      rw [ea, e, show List.range 3 = [0, 1, 2] from rfl, List.map_cons, List.map_cons, List.map_cons, List.map_nil, ea0, eb0, ec0, nI_clamp (by omega), nI_clamp (by omega), nI_clamp (by omega), hw] at em
      refine Or.inr (Or.inr (Or.inr (Or.inr (Or.inr (Or.inr (Or.inr (Or.inr ⟨e, hw, a, b, c, ha, hb, hc, ea0, eb0, ec0, ?_, oa, ob, oc⟩)))))))
      rw [em, List.flatten_cons, List.flatten_cons, List.flatten_cons, List.flatten_nil, List.append_nil, List.append_assoc, List.append_assoc]
      rfl
end NodeV
