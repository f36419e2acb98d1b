/-! PURE PART 6: the class tells an act as the spec does: all kinds -/
section PTell
variable {k n K N : Nat → Int32} {z Z : Int32} {starts ends : Nat → Int32} {tz lz t : Int32} {S : Sp} {a : Int32}
theorem tell_A {κ : Nat} (hκ : κ = 0 ∨ κ = 1 ∨ κ = 4 ∨ κ = 5) (h : csR k n z K N Z ends lz tz starts t S) (htk : tak κ a ≤ S.2.1.length) (h20 : S.2.1.length - tak κ a + pts κ ≤ 20) (hc3 : (tellS S κ a).2.1.flatten.length ≤ 300) :
    ∃ k' n' z' K' N' Z' ends' lz' tz' starts' t', f_X4_tell k n z K N Z ends lz tz starts t (nI κ) a = some (k', n', z', K', N', Z', ends', lz', tz', starts', t') ∧ csR k' n' z' K' N' Z' ends' lz' tz' starts' t' (tellS S κ a) := by
  obtain ⟨hT, hL, ht⟩ := h
  have hS : tellS S κ a = (S.1, S.2.1.take (S.2.1.length - tak κ a) ++ [(S.2.1.drop (S.2.1.length - tak κ a)).flatten ++ [(nI κ, a)]], S.2.2) := by
    unfold tellS
    rw [if_neg (by omega), if_neg (by omega), if_neg (by omega)]
  have hp : pts κ = 1 := by rcases hκ with rfl | rfl | rfl | rfl <;> rfl
  have hlen : (tellS S κ a).2.1.flatten.length = S.2.1.flatten.length + 1 := by
    rw [hS]
    show (S.2.1.take (S.2.1.length - tak κ a) ++ [(S.2.1.drop (S.2.1.length - tak κ a)).flatten ++ [(nI κ, a)]]).flatten.length = _
    rw [List.flatten_append, List.flatten_cons, List.flatten_nil, List.append_nil, ← List.append_assoc, ← off_split, List.length_append]
    rfl
  obtain ⟨k', n', z', tz', st', e, g⟩ := p_put (x := tak κ a) (nI κ) a hT htk (by omega) (by omega)
  have e0 := (p_taken (κ := κ) (n := a) (by omega) (fun h => by omega)).1
  refine ⟨k', n', z', K, N, Z, ends, lz, tz', st', t, ?_, ?_⟩
  · rcases hκ with rfl | rfl | rfl | rfl
    · unfold f_X4_tell
      rw [if_pos (by decide), e0, Option.bind_some]
      show (f_X4_put k n z tz starts (nI 0) a (nI (tak 0 a))).bind _ = _
      rw [e, Option.bind_some]
    · unfold f_X4_tell
      rw [if_neg (by decide), if_pos (by decide), e0, Option.bind_some]
      show (f_X4_put k n z tz starts (nI 1) a (nI (tak 1 a))).bind _ = _
      rw [e, Option.bind_some]
    · unfold f_X4_tell
      rw [if_neg (by decide), if_neg (by decide), if_neg (by decide), if_neg (by decide), if_pos (by decide), e0, Option.bind_some]
      show (f_X4_put k n z tz starts (nI 4) a (nI (tak 4 a))).bind _ = _
      rw [e, Option.bind_some]
    · unfold f_X4_tell
      rw [if_neg (by decide), if_neg (by decide), if_neg (by decide), if_neg (by decide), if_neg (by decide), if_pos (by decide), e0, Option.bind_some]
      show (f_X4_put k n z tz starts (nI 5) a (nI (tak 5 a))).bind _ = _
      rw [e, Option.bind_some]
  · rw [hS]; exact ⟨g, hL, ht⟩
theorem po_take_all (Ls : List Ln) (t : Nat) (Ps : List (List Cl)) (m : Nat) (hm : Ps.length ≤ m) : po Ls (Ps.take m) t = po Ls Ps t := by rw [List.take_of_length_le hm]
theorem tell_B {κ : Nat} (hκ : κ = 2 ∨ κ = 6) (h : csR k n z K N Z ends lz tz starts t S) (hok : ∀ P ∈ S.2.1, okP P) (htk : tak κ a ≤ S.2.1.length) (hc1 : (tellS S κ a).1.length ≤ 100) (hc2 : (fl (tellS S κ a).1).length ≤ 300) :
    ∃ k' n' z' K' N' Z' ends' lz' tz' starts' t', f_X4_tell k n z K N Z ends lz tz starts t (nI κ) a = some (k', n', z', K', N', Z', ends', lz', tz', starts', t') ∧ csR k' n' z' K' N' Z' ends' lz' tz' starts' t' (tellS S κ a) := by
  obtain ⟨hT, hL, ht⟩ := h
  have hta : tak κ a = 1 := by rcases hκ with rfl | rfl <;> rfl
  rw [hta] at htk
  obtain ⟨m, hm⟩ : ∃ m, S.2.1.length = m + 1 := ⟨S.2.1.length - 1, by omega⟩
  have htz : tz = nI (m + 1) := by rw [← hm]; exact hT.2.1
  have hS : tellS S κ a = ((po S.1 (S.2.1.take m) S.2.2).1 ++ [((S.2.1.drop m).flatten, (nI κ, a))], one1 (po S.1 (S.2.1.take m) S.2.2).2.1, (po S.1 (S.2.1.take m) S.2.2).2.2) := by
    unfold tellS
    rw [if_pos (by omega), hta, show S.2.1.length - 1 = m by omega]
  rw [hS] at hc1 hc2 ⊢
  rw [List.length_append, List.length_singleton] at hc1
  rw [fl_app, fl_one, List.length_append, List.length_append, List.length_singleton] at hc2
  obtain ⟨k1, n1, z1, K1, N1, Z1, ends1, lz1, st1, t1, e1, g1, g2, g3⟩ := p_putOutBelow (p := m) (t := S.2.2) hT hL (by omega) hok (by omega) (by omega)
  have hlen1 : (one1 (po S.1 (S.2.1.take m) S.2.2).2.1).length = m := by rw [one1_len, po_len S.1 S.2.2 S.2.1 m (by omega)]
  have hdr : (one1 (po S.1 (S.2.1.take m) S.2.2).2.1 ++ S.2.1.drop m).drop m = S.2.1.drop m := by
    rw [List.drop_append, hlen1, Nat.sub_self, List.drop_zero, List.drop_of_length_le (by omega), List.nil_append]
  have htk2 : (one1 (po S.1 (S.2.1.take m) S.2.2).2.1 ++ S.2.1.drop m).take m = one1 (po S.1 (S.2.1.take m) S.2.2).2.1 := by
    rw [List.take_append, hlen1, Nat.sub_self, List.take_zero, List.append_nil, List.take_of_length_le (by omega)]
  obtain ⟨z2, K2, N2, Z2, ends2, lz2, tz2, e2, q1, q2⟩ := p_endLine (m := m) (nI κ) a g1 g2 (by rw [List.length_append, hlen1, List.length_drop]; omega) (by omega) (by rw [hdr]; omega)
  rw [hdr] at q2
  rw [htk2] at q1
  refine ⟨k1, n1, z2, K2, N2, Z2, ends2, lz2, tz2, st1, t1, ?_, q1, q2, g3⟩
  have e1' : f_X4_putOutBelow k n z K N Z ends lz tz starts t (tz - 1) = some (k1, n1, z1, K1, N1, Z1, ends1, lz1, st1, t1) := by
    rw [show tz - 1 = nI m by rw [htz, nI_pred], ht]; exact e1
  rcases hκ with rfl | rfl
  · unfold f_X4_tell
    rw [if_neg (by decide), if_neg (by decide), if_pos (by decide), e1', Option.bind_some]
    show (f_X4_endLineWithLast k1 n1 z1 K1 N1 Z1 ends1 lz1 tz st1 (nI 2) a).bind _ = _
    rw [e2, Option.bind_some]
  · unfold f_X4_tell
    rw [if_neg (by decide), if_neg (by decide), if_neg (by decide), if_neg (by decide), if_neg (by decide), if_neg (by decide), if_pos (by decide), e1', Option.bind_some]
    show (f_X4_endLineWithLast k1 n1 z1 K1 N1 Z1 ends1 lz1 tz st1 (nI 6) a).bind _ = _
    rw [e2, Option.bind_some]
theorem tell_C (h : csR k n z K N Z ends lz tz starts t S) (hok : ∀ P ∈ S.2.1, okP P) (hc1 : (tellS S 3 a).1.length ≤ 100) (hc2 : (fl (tellS S 3 a).1).length ≤ 300) :
    ∃ k' n' z' K' N' Z' ends' lz' tz' starts' t', f_X4_tell k n z K N Z ends lz tz starts t (nI 3) a = some (k', n', z', K', N', Z', ends', lz', tz', starts', t') ∧ csR k' n' z' K' N' Z' ends' lz' tz' starts' t' (tellS S 3 a) := by
  obtain ⟨hT, hL, ht⟩ := h
  have htz : tz = nI S.2.1.length := hT.2.1
  have hS : tellS S 3 a = ((po S.1 (S.2.1.take S.2.1.length) S.2.2).1 ++ [([], (nI 3, a))], one1 (po S.1 (S.2.1.take S.2.1.length) S.2.2).2.1, (po S.1 (S.2.1.take S.2.1.length) S.2.2).2.2) := by
    unfold tellS
    rw [if_pos (by omega), show tak 3 a = 0 from rfl, Nat.sub_zero, List.drop_length, List.flatten_nil]
  rw [hS] at hc1 hc2 ⊢
  rw [List.length_append, List.length_singleton] at hc1
  rw [fl_app, fl_one, List.length_append, List.length_append, List.length_singleton, List.length_nil] at hc2
  obtain ⟨k1, n1, z1, K1, N1, Z1, ends1, lz1, st1, t1, e1, g1, g2, g3⟩ := p_putOutBelow (p := S.2.1.length) (t := S.2.2) hT hL (Nat.le_refl _) hok (by omega) (by omega)
  rw [List.drop_length, List.append_nil] at g1
  obtain ⟨c1, c2, c3, c4⟩ := g2
  obtain ⟨K2, N2, Z2, ends2, lz2, e2, q2⟩ := p_close (P := []) (nI 3) a (by rw [List.append_nil]; exact c1) c2 (by omega) c4 (by rw [List.append_nil]; omega)
  refine ⟨k1, n1, z1, K2, N2, Z2, ends2, lz2, tz, st1, t1, ?_, g1, q2, g3⟩
  unfold f_X4_tell
  rw [if_neg (by decide), if_neg (by decide), if_neg (by decide), if_pos (by decide)]
  rw [show f_X4_putOutBelow k n z K N Z ends lz tz starts t tz = some (k1, n1, z1, K1, N1, Z1, ends1, lz1, st1, t1) by rw [ht]; rw [← htz] at e1; exact e1, Option.bind_some]
  show (f_X1_close K1 N1 Z1 ends1 lz1 (nI 3) a).bind _ = _
  rw [e2, Option.bind_some]
theorem tell_D {x : Nat} (hx : x ≤ 3) (hax : a = nI x) (h : csR k n z K N Z ends lz tz starts t S) (hok : ∀ P ∈ S.2.1, okP P) (htk : x ≤ S.2.1.length) (h20 : S.2.1.length - x + 1 ≤ 20) (hc1 : (tellS S 10 a).1.length ≤ 100) (hc2 : (fl (tellS S 10 a).1).length ≤ 300) (hc3 : (tellS S 10 a).2.1.flatten.length ≤ 300) :
    ∃ k' n' z' K' N' Z' ends' lz' tz' starts' t', f_X4_tell k n z K N Z ends lz tz starts t (nI 10) a = some (k', n', z', K', N', Z', ends', lz', tz', starts', t') ∧ csR k' n' z' K' N' Z' ends' lz' tz' starts' t' (tellS S 10 a) := by
  obtain ⟨hT, hL, ht⟩ := h
  have htz : tz = nI S.2.1.length := hT.2.1
  have hta : tak 10 a = x := by unfold tak; rw [if_pos rfl, hax, nI_clamp (by omega)]
  generalize hm : S.2.1.length - x = m at h20
  have hS : tellS S 10 a = ((po S.1 (S.2.1.take m) S.2.2).1, one1 (po S.1 (S.2.1.take m) S.2.2).2.1 ++ [(S.2.1.drop m).flatten ++ [(nI 10, a)]], (po S.1 (S.2.1.take m) S.2.2).2.2) := by
    unfold tellS
    rw [if_neg (by omega), if_neg (by omega), if_pos rfl, hta, hm]
  rw [hS] at hc1 hc2 hc3 ⊢
  obtain ⟨k1, n1, z1, K1, N1, Z1, ends1, lz1, st1, t1, e1, g1, g2, g3⟩ := p_putOutBelow (p := m) (t := S.2.2) hT hL (by omega) hok hc1 hc2
  have hlen1 : (one1 (po S.1 (S.2.1.take m) S.2.2).2.1).length = m := by rw [one1_len, po_len S.1 S.2.2 S.2.1 m (by omega)]
  have hdr : (one1 (po S.1 (S.2.1.take m) S.2.2).2.1 ++ S.2.1.drop m).drop m = S.2.1.drop m := by
    rw [List.drop_append, hlen1, Nat.sub_self, List.drop_zero, List.drop_of_length_le (by omega), List.nil_append]
  have htk2 : (one1 (po S.1 (S.2.1.take m) S.2.2).2.1 ++ S.2.1.drop m).take m = one1 (po S.1 (S.2.1.take m) S.2.2).2.1 := by
    rw [List.take_append, hlen1, Nat.sub_self, List.take_zero, List.append_nil, List.take_of_length_le (by omega)]
  have hl2 : (one1 (po S.1 (S.2.1.take m) S.2.2).2.1 ++ S.2.1.drop m).length = S.2.1.length := by rw [List.length_append, hlen1, List.length_drop]; omega
  have hfl : (one1 (po S.1 (S.2.1.take m) S.2.2).2.1 ++ [(S.2.1.drop m).flatten ++ [(nI 10, a)]]).flatten.length = (one1 (po S.1 (S.2.1.take m) S.2.2).2.1 ++ S.2.1.drop m).flatten.length + 1 := by
    rw [List.flatten_append, List.flatten_append, List.flatten_cons, List.flatten_nil, List.append_nil, ← List.append_assoc, List.length_append]
    rfl
  obtain ⟨k2, n2, z2, tz2, st2, e2, q⟩ := p_put (x := x) (nI 10) a g1 (by rw [hl2]; exact htk) (by rw [hl2]; omega) (by have := hc3; rw [hfl] at this; omega)
  rw [hl2, hm, hdr, htk2] at q
  refine ⟨k2, n2, z2, K1, N1, Z1, ends1, lz1, tz2, st2, t1, ?_, q, g2, g3⟩
  unfold f_X4_tell
  rw [if_neg (by decide), if_neg (by decide), if_neg (by decide), if_neg (by decide), if_neg (by decide), if_neg (by decide), if_neg (by decide), if_pos (by decide)]
  rw [show f_X4_putOutBelow k n z K N Z ends lz tz starts t (tz - a) = some (k1, n1, z1, K1, N1, Z1, ends1, lz1, st1, t1) by rw [ht, htz, hax, pk_sub htk, hm, ← htz]; exact e1, Option.bind_some]
  show (f_X4_put k1 n1 z1 tz st1 (nI 10) a a).bind _ = _
  rw [show f_X4_put k1 n1 z1 tz st1 (nI 10) a a = f_X4_put k1 n1 z1 tz st1 (nI 10) a (nI x) by rw [← hax], e2, Option.bind_some]
theorem tell_E {κ : Nat} (hκ : κ = 7 ∨ κ = 8 ∨ κ = 9) (h : csR k n z K N Z ends lz tz starts t S) (hok : ∀ P ∈ S.2.1, okP P) (htk : tak κ a ≤ S.2.1.length) (h20 : S.2.1.length - tak κ a + pts κ ≤ 20) (hc1 : (tellS S κ a).1.length ≤ 100) (hc2 : (fl (tellS S κ a).1).length ≤ 300) :
    ∃ k' n' z' K' N' Z' ends' lz' tz' starts' t', f_X4_tell k n z K N Z ends lz tz starts t (nI κ) a = some (k', n', z', K', N', Z', ends', lz', tz', starts', t') ∧ csR k' n' z' K' N' Z' ends' lz' tz' starts' t' (tellS S κ a) := by
  obtain ⟨hT, hL, ht⟩ := h
  have htz : tz = nI S.2.1.length := hT.2.1
  have hS : tellS S κ a = ((po S.1 (S.2.1.take S.2.1.length) S.2.2).1, one1 (turnQ (nI κ) (po S.1 (S.2.1.take S.2.1.length) S.2.2).2.1), (po S.1 (S.2.1.take S.2.1.length) S.2.2).2.2) := by
    unfold tellS
    rw [if_neg (by omega), if_pos hκ, po_take_all _ _ _ _ (Nat.le_refl _)]
  rw [hS] at hc1 hc2 ⊢
  obtain ⟨k1, n1, z1, K1, N1, Z1, ends1, lz1, st1, t1, e1, g1, g2, g3⟩ := p_putOutBelow (p := S.2.1.length) (t := S.2.2) hT hL (Nat.le_refl _) hok hc1 hc2
  rw [List.drop_length, List.append_nil] at g1
  have hl : (po S.1 (S.2.1.take S.2.1.length) S.2.2).2.1.length = S.2.1.length := po_len S.1 S.2.2 S.2.1 _ (Nat.le_refl _)
  have hk : nI κ = 7 ∨ nI κ = 8 ∨ nI κ = 9 := by rcases hκ with rfl | rfl | rfl <;> decide
  have hb : 1 ≤ S.2.1.length ∧ (nI κ ≠ 7 → 2 ≤ S.2.1.length) ∧ (nI κ = 7 ∨ nI κ = 9 → S.2.1.length < 20) := by
    rcases hκ with rfl | rfl | rfl
    · exact ⟨htk, fun h => absurd rfl h, fun _ => by have : S.2.1.length - 1 + 2 ≤ 20 := h20; have : 1 ≤ S.2.1.length := htk; omega⟩
    · exact ⟨by have h9 : 2 ≤ S.2.1.length := htk; omega, fun _ => htk, fun h => absurd h (by decide)⟩
    · exact ⟨by have h9 : 2 ≤ S.2.1.length := htk; omega, fun _ => htk, fun _ => by have : S.2.1.length - 2 + 3 ≤ 20 := h20; have : 2 ≤ S.2.1.length := htk; omega⟩
  obtain ⟨k2, n2, z2, tz2, st2, e2, q⟩ := p_turn hk g1 (by rw [hl]; exact hb.1) (fun h => by rw [hl]; exact hb.2.1 h) (fun h => by rw [hl]; exact hb.2.2 h)
  refine ⟨k2, n2, z2, K1, N1, Z1, ends1, lz1, tz2, st2, t1, ?_, q, g2, g3⟩
  have e1' : f_X4_putOutBelow k n z K N Z ends lz tz starts t tz = some (k1, n1, z1, K1, N1, Z1, ends1, lz1, st1, t1) := by rw [ht]; rw [← htz] at e1; exact e1
  rcases hκ with rfl | rfl | rfl <;>
  · unfold f_X4_tell
    rw [if_neg (by decide), if_neg (by decide), if_neg (by decide), if_neg (by decide), if_neg (by decide), if_neg (by decide), if_neg (by decide), if_neg (by decide), e1', Option.bind_some]
    show (f_X4_turn k1 n1 z1 tz st1 _ ).bind _ = _
    rw [e2, Option.bind_some]
theorem p_tell {κ : Nat} (hκ : κ ≤ 10) (hn : κ = 10 → ∃ x, x ≤ 3 ∧ a = nI x) (h : csR k n z K N Z ends lz tz starts t S) (hok : ∀ P ∈ S.2.1, okP P) (htk : tak κ a ≤ S.2.1.length) (h20 : S.2.1.length - tak κ a + pts κ ≤ 20) (hc1 : (tellS S κ a).1.length ≤ 100) (hc2 : (fl (tellS S κ a).1).length ≤ 300) (hc3 : (tellS S κ a).2.1.flatten.length ≤ 300) :
    ∃ k' n' z' K' N' Z' ends' lz' tz' starts' t', f_X4_tell k n z K N Z ends lz tz starts t (nI κ) a = some (k', n', z', K', N', Z', ends', lz', tz', starts', t') ∧ csR k' n' z' K' N' Z' ends' lz' tz' starts' t' (tellS S κ a) := by
  by_cases h1 : κ = 0 ∨ κ = 1 ∨ κ = 4 ∨ κ = 5
  · exact tell_A h1 h htk h20 hc3
  by_cases h2 : κ = 2 ∨ κ = 6
  · exact tell_B h2 h hok htk hc1 hc2
  by_cases h3 : κ = 3
  · subst h3; exact tell_C h hok hc1 hc2
  by_cases h4 : κ = 10
  · subst h4
    obtain ⟨x, hx, hax⟩ := hn rfl
    have hta : tak 10 a = x := by unfold tak; rw [if_pos rfl, hax, nI_clamp (by omega)]
    rw [hta] at htk h20
    exact tell_D hx hax h hok htk h20 hc1 hc2 hc3
  exact tell_E (by omega) h hok htk h20 hc1 hc2
end PTell
