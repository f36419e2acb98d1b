/-! PURE PART 12: the reference tells an act as the spec does: put together -/
theorem poP_drop (S : Sp) {m : Nat} (hm : m ≤ S.2.1.length) : (poP S m).2.1.drop m = S.2.1.drop m := by
  have hl : (one1 (po S.1 (S.2.1.take m) S.2.2).2.1).length = m := by rw [one1_len, po_len _ _ _ _ hm]
  show (one1 _ ++ S.2.1.drop m).drop m = _
  rw [List.drop_append, hl, Nat.sub_self, List.drop_zero, List.drop_of_length_le (by omega), List.nil_append]
theorem poP_take (S : Sp) {m : Nat} (hm : m ≤ S.2.1.length) : (poP S m).2.1.take m = one1 (po S.1 (S.2.1.take m) S.2.2).2.1 := by
  have hl : (one1 (po S.1 (S.2.1.take m) S.2.2).2.1).length = m := by rw [one1_len, po_len _ _ _ _ hm]
  show (one1 _ ++ S.2.1.drop m).take m = _
  rw [List.take_append, hl, Nat.sub_self, List.take_zero, List.append_nil, List.take_of_length_le (by omega)]
section PTurn3
variable {sort what part pile lineSort lineOf lineTerm : Nat → Int32} {terms high lines temps : Int32} {T : Nat} {S : Sp} {a : Int32}
/-- what an act's number may be, by its kind -/
def okN (κ : Nat) (a : Int32) : Prop := (κ = 10 → ∃ x, x ≤ 3 ∧ a = nI x) ∧ (5 ≤ κ → κ ≤ 9 → a = 0)
theorem m_turn {κ : Nat} (hκ : κ ≤ 10) (hn : okN κ a) (h : mdR sort what part terms high pile lines lineSort lineOf lineTerm temps T S) (hok : ∀ P ∈ S.2.1, okP P) (htk : tak κ a ≤ S.2.1.length) (h20 : S.2.1.length - tak κ a + pts κ ≤ 20) (hc1 : (tellS S κ a).1.length ≤ 100) (hT : T + 21 < 3000) :
    ∃ sort' what' part' pile' lineSort' lineOf' lineTerm' terms' high' lines' temps' T', f_X6_turn high lineOf lineSort lineTerm lines part pile sort temps terms what (nI κ) a = some (high', lineOf', lineSort', lineTerm', lines', part', pile', sort', temps', terms', what') ∧ mdR sort' what' part' terms' high' pile' lines' lineSort' lineOf' lineTerm' temps' T' (tellS S κ a) ∧ T' ≤ T + 21 := by
  have hh := h
  obtain ⟨h1, h2, h4, h5, h6, h7, h8, h9⟩ := hh
  have e0 := m_takes hκ hn.1
  by_cases hA : κ = 0 ∨ κ = 1
  · have htak : tak κ a = 0 := by rcases hA with rfl | rfl <;> rfl
    have hpts : pts κ = 1 := by rcases hA with rfl | rfl <;> rfl
    have hS : tellS S κ a = (S.1, S.2.1 ++ [[(nI κ, a)]], S.2.2) := by
      unfold tellS
      rw [if_neg (by omega), if_neg (by omega), if_neg (by omega), htak, Nat.sub_zero, List.take_of_length_le (Nat.le_refl _), List.drop_length]
      rfl
    obtain ⟨a1, a2, a3, a4, a5, a6, e, g⟩ := turn_leaf (a := a) hA (by omega) h (by omega)
    refine ⟨a1, a2, a3, a4, _, _, _, a5, a6, _, _, T + 1, ?_, by rw [hS]; exact g, by omega⟩
    unfold f_X6_turn
    rw [e0, Option.bind_some, htak]
    rcases hA with rfl | rfl
    · rw [if_neg (by decide), if_neg (by decide), if_neg (by decide), if_neg (by decide)]
      unfold f_X6_turn_B38
      rw [if_pos (by decide)]
      exact e
    · rw [if_neg (by decide), if_neg (by decide), if_neg (by decide), if_neg (by decide)]
      unfold f_X6_turn_B38
      rw [if_pos (by decide)]
      exact e
  by_cases hB : κ = 4
  · subst hB
    obtain ⟨m, hm⟩ : ∃ m, S.2.1.length = m + 2 := ⟨S.2.1.length - 2, by have : 2 ≤ S.2.1.length := htk; omega⟩
    have hS : tellS S 4 a = (S.1, S.2.1.take m ++ [(S.2.1.drop m).flatten ++ [(nI 4, a)]], S.2.2) := by
      unfold tellS
      rw [if_neg (by omega), if_neg (by omega), if_neg (by omega), show tak 4 a = 2 from rfl, show S.2.1.length - 2 = m by omega]
    obtain ⟨a1, a2, a3, a4, a5, a6, e, g⟩ := turn_two (a := a) (by omega) h hm
    refine ⟨a1, a2, a3, a4, _, _, _, a5, a6, _, _, T + 1, ?_, by rw [hS]; exact g, by omega⟩
    unfold f_X6_turn
    rw [e0, Option.bind_some, if_neg (by decide), if_neg (by decide), if_neg (by decide), if_neg (by decide)]
    unfold f_X6_turn_B38
    rw [if_pos (by decide)]
    exact e
  by_cases hC : κ = 5
  · subst hC
    obtain ⟨m, hm⟩ : ∃ m, S.2.1.length = m + 1 := ⟨S.2.1.length - 1, by have : 1 ≤ S.2.1.length := htk; omega⟩
    have hS : tellS S 5 a = (S.1, S.2.1.take m ++ [(S.2.1.drop m).flatten ++ [(nI 5, a)]], S.2.2) := by
      unfold tellS
      rw [if_neg (by omega), if_neg (by omega), if_neg (by omega), show tak 5 a = 1 from rfl, show S.2.1.length - 1 = m by omega]
    obtain ⟨a1, a2, a3, a4, a5, a6, e, g⟩ := turn_minus (a := a) (hn.2 (by omega) (by omega)) (by omega) h hm
    refine ⟨a1, a2, a3, a4, _, _, _, a5, a6, _, _, T + 1, ?_, by rw [hS]; exact g, by omega⟩
    unfold f_X6_turn
    rw [e0, Option.bind_some, if_neg (by decide), if_neg (by decide), if_neg (by decide), if_neg (by decide)]
    unfold f_X6_turn_B38
    rw [if_pos (by decide)]
    exact e
  by_cases hD : κ = 2 ∨ κ = 3 ∨ κ = 6
  · have htak : tak κ a = if κ = 3 then 0 else 1 := by rcases hD with rfl | rfl | rfl <;> rfl
    obtain ⟨m, hm⟩ : ∃ m, S.2.1.length = m + tak κ a := ⟨S.2.1.length - tak κ a, by omega⟩
    have hml : m ≤ S.2.1.length := by omega
    have hsub : S.2.1.length - tak κ a = m := by omega
    have hS : tellS S κ a = ((poP S m).1 ++ [(((poP S m).2.1.drop m).flatten, (nI κ, a))], (poP S m).2.1.take m, (poP S m).2.2) := by
      unfold tellS
      rw [if_pos hD, hsub, poP_drop S hml, poP_take S hml]
      rfl
    rw [hS] at hc1 ⊢
    rw [List.length_append, List.length_singleton] at hc1
    obtain ⟨b1, b2, b3, b4, b5, b6, b7, b8, b9, b10, T1, e1, g1, g2⟩ := m_putOut (p := m) hml hok (by omega) (by omega) h
    obtain ⟨a1, a2, a3, a4, a5, e, g⟩ := turn_line (a := a) (m := m) (x := tak κ a) hD (fun z => hn.2 (by omega) (by omega)) htak g1 (by rw [poP_len S hml]; exact hm) (by omega)
    refine ⟨b1, b2, b3, b4, a1, a2, a3, b8, a5, a4, b10, T1, ?_, g, by omega⟩
    have hsub2 : high - nI (tak κ a) = nI m := by rw [h4, pk_sub htk, hsub]
    have hB28 : f_X6_turn_B28 high lineOf lineSort lineTerm lines part pile sort temps terms what (nI κ) a (nI (tak κ a)) = some (a5, a2, a1, a3, a4, b3, b4, b1, b10, b8, b2) := by
      unfold f_X6_turn_B28
      rw [hsub2, e1, Option.bind_some]
      show f_X6_turn_B38 high b6 b5 b7 b9 b3 b4 b1 b10 b8 b2 (nI κ) a (nI (tak κ a)) = _
      unfold f_X6_turn_B38
      rw [if_pos (by rcases hD with rfl | rfl | rfl <;> decide)]
      exact e
    unfold f_X6_turn
    rw [e0, Option.bind_some]
    show (if nI κ = 2 then f_X6_turn_B28 high lineOf lineSort lineTerm lines part pile sort temps terms what (nI κ) a (nI (tak κ a)) else if nI κ = 3 then f_X6_turn_B28 high lineOf lineSort lineTerm lines part pile sort temps terms what (nI κ) a (nI (tak κ a)) else if nI κ = 6 then f_X6_turn_B28 high lineOf lineSort lineTerm lines part pile sort temps terms what (nI κ) a (nI (tak κ a)) else if nI κ = 10 then f_X6_turn_B28 high lineOf lineSort lineTerm lines part pile sort temps terms what (nI κ) a (nI (tak κ a)) else f_X6_turn_B38 high lineOf lineSort lineTerm lines part pile sort temps terms what (nI κ) a (nI (tak κ a))) = _
    rw [hB28]
    rcases hD with rfl | rfl | rfl
    · rw [if_pos (by decide)]
    · rw [if_neg (by decide), if_pos (by decide)]
    · rw [if_neg (by decide), if_neg (by decide), if_pos (by decide)]
  by_cases hE : κ = 10
  · subst hE
    obtain ⟨x, hx, hax⟩ := hn.1 rfl
    have htak : tak 10 a = x := by unfold tak; rw [if_pos rfl, hax, nI_clamp (by omega)]
    rw [htak] at htk h20 e0
    have hpts : pts 10 = 1 := rfl
    obtain ⟨m, hm⟩ : ∃ m, S.2.1.length = m + x := ⟨S.2.1.length - x, by omega⟩
    have hml : m ≤ S.2.1.length := by omega
    have hsub : S.2.1.length - x = m := by omega
    have hS : tellS S 10 a = ((poP S m).1, (poP S m).2.1.take m ++ [((poP S m).2.1.drop m).flatten ++ [(nI 10, a)]], (poP S m).2.2) := by
      unfold tellS
      rw [if_neg (by omega), if_neg (by omega), if_pos rfl, htak, hsub, poP_drop S hml, poP_take S hml]
      rfl
    rw [hS] at hc1 ⊢
    obtain ⟨b1, b2, b3, b4, b5, b6, b7, b8, b9, b10, T1, e1, g1, g2⟩ := m_putOut (p := m) hml hok hc1 (by omega) h
    obtain ⟨a1, a2, a3, a4, a5, a6, e, g⟩ := turn_call (a := a) (m := m) (x := x) hx hax (by omega) g1 (by rw [poP_len S hml]; exact hm) (by omega)
    refine ⟨a1, a2, a3, a4, b5, b6, b7, a5, a6, b9, b10, T1 + 1, ?_, g, by omega⟩
    have hsub2 : high - nI x = nI m := by rw [h4, pk_sub htk, hsub]
    unfold f_X6_turn
    rw [e0, Option.bind_some, if_neg (by decide), if_neg (by decide), if_neg (by decide), if_pos (by decide)]
    show f_X6_turn_B28 high lineOf lineSort lineTerm lines part pile sort temps terms what (nI 10) a (nI x) = _
    unfold f_X6_turn_B28
    rw [hsub2, e1, Option.bind_some]
    show f_X6_turn_B38 high b6 b5 b7 b9 b3 b4 b1 b10 b8 b2 (nI 10) a (nI x) = _
    unfold f_X6_turn_B38
    rw [if_neg (by decide), if_pos (by decide)]
    exact e
  · have h789 : κ = 7 ∨ κ = 8 ∨ κ = 9 := by omega
    have hS : tellS S κ a = ((poP S S.2.1.length).1, one1 (turnQ (nI κ) (po S.1 (S.2.1.take S.2.1.length) S.2.2).2.1), (poP S S.2.1.length).2.2) := by
      unfold tellS
      rw [if_neg (by omega), if_pos h789]
      unfold poP
      rw [po_take_all _ _ _ _ (Nat.le_refl _)]
    rw [hS] at hc1 ⊢
    obtain ⟨b1, b2, b3, b4, b5, b6, b7, b8, b9, b10, T1, e1, g1, g2⟩ := m_putOut (p := S.2.1.length) (Nat.le_refl _) hok hc1 (by omega) h
    have hQ : (poP S S.2.1.length).2.1 = one1 (po S.1 (S.2.1.take S.2.1.length) S.2.2).2.1 := by
      show one1 _ ++ S.2.1.drop S.2.1.length = _
      rw [List.drop_length, List.append_nil]
    have hl : (po S.1 (S.2.1.take S.2.1.length) S.2.2).2.1.length = S.2.1.length := po_len S.1 S.2.2 S.2.1 _ (Nat.le_refl _)
    have hfin : ∀ pile' high', f_X6_turn_B58 high b6 b5 b7 b9 b3 b4 b1 b10 b8 b2 (nI κ) a (nI (tak κ a)) = some (high', b6, b5, b7, b9, b3, pile', b1, b10, b8, b2) → f_X6_turn high lineOf lineSort lineTerm lines part pile sort temps terms what (nI κ) a = some (high', b6, b5, b7, b9, b3, pile', b1, b10, b8, b2) := by
      intro pile' high' e
      have hB38 : f_X6_turn_B38 high lineOf lineSort lineTerm lines part pile sort temps terms what (nI κ) a (nI (tak κ a)) = some (high', b6, b5, b7, b9, b3, pile', b1, b10, b8, b2) := by
        unfold f_X6_turn_B38
        rw [if_neg (by rcases h789 with rfl | rfl | rfl <;> decide), if_neg (by rcases h789 with rfl | rfl | rfl <;> decide)]
        rw [show f_X6_putOut lineOf lineSort lineTerm lines part pile sort temps terms what high = some (b6, b5, b7, b9, b3, b4, b1, b10, b8, b2) by rw [h4]; exact e1, Option.bind_some]
        exact e
      unfold f_X6_turn
      rw [e0, Option.bind_some, if_neg (by rcases h789 with rfl | rfl | rfl <;> decide), if_neg (by rcases h789 with rfl | rfl | rfl <;> decide), if_neg (by rcases h789 with rfl | rfl | rfl <;> decide), if_neg (by rcases h789 with rfl | rfl | rfl <;> decide)]
      exact hB38
    by_cases h7' : κ = 7
    · subst h7'
      have : 1 ≤ S.2.1.length := htk
      have h20' : S.2.1.length - 1 + 2 ≤ 20 := h20
      obtain ⟨a1, a2, e, g⟩ := turn_7 (a := a) (m := S.2.1.length - 1) hQ g1 (by rw [hl]; omega) (by omega)
      exact ⟨b1, b2, b3, a1, b5, b6, b7, b8, a2, b9, b10, T1, hfin a1 a2 e, g, by omega⟩
    · have h89 : κ = 8 ∨ κ = 9 := by omega
      have htak : tak κ a = 2 := by rcases h89 with rfl | rfl <;> rfl
      rw [htak] at htk h20
      obtain ⟨a1, a2, e, g⟩ := turn_89 (a := a) (m := S.2.1.length - 2) h89 hQ g1 (by rw [hl]; omega) (fun z => by subst z; have h20' : S.2.1.length - 2 + 3 ≤ 20 := h20; omega)
      exact ⟨b1, b2, b3, a1, b5, b6, b7, b8, a2, b9, b10, T1, hfin a1 a2 (by rw [htak]; exact e), g, by omega⟩
end PTurn3
