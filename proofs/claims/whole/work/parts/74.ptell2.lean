/-! PURE PART 5: the class tells an act as the spec does -/
theorem last2 {Q : List Cl} {m : Nat} (h : Q.length = m + 2) : Q = Q.take m ++ [Q.getD m (0, 0), Q.getD (m + 1) (0, 0)] := by
  have h1 : Q[m]? = some (Q.getD m (0, 0)) := getD_some (by omega)
  have h2 : Q[m + 1]? = some (Q.getD (m + 1) (0, 0)) := getD_some (by omega)
  have h3 := List.take_append_drop m Q
  rw [drop_cons h1, drop_cons h2, List.drop_of_length_le (by omega)] at h3
  exact h3.symm
theorem swap2 {A : List Cl} {x y : Cl} : ((A ++ [x, y]).set A.length y).set (A.length + 1) x = A ++ [y, x] := by
  rw [List.set_append_right _ _ (Nat.le_refl _), Nat.sub_self, List.set_append_right _ _ (Nat.le_succ _), show A.length + 1 - A.length = 1 by omega]
  rfl
theorem p_turn {k n : Nat → Int32} {z : Int32} {starts : Nat → Int32} {tz : Int32} {Q : List Cl} {kd : Int32} (hk : kd = 7 ∨ kd = 8 ∨ kd = 9) (hT : tmR k n z starts tz (one1 Q)) (h1 : 1 ≤ Q.length) (h2 : kd ≠ 7 → 2 ≤ Q.length) (h20 : kd = 7 ∨ kd = 9 → Q.length < 20) :
    ∃ k' n' z' tz' starts', f_X4_turn k n z tz starts kd = some (k', n', z', tz', starts') ∧ tmR k' n' z' starts' tz' (one1 (turnQ kd Q)) := by
  have htz : tz = nI Q.length := by have := hT.2.1; rw [one1_len] at this; exact this
  have hcd : cd k n z Q := by have := hT.1; rw [one1_flat] at this; exact this
  by_cases h7 : kd = 7
  · subst h7
    obtain ⟨m, hm⟩ : ∃ m, Q.length = m + 1 := ⟨Q.length - 1, by omega⟩
    obtain ⟨k', n', z', tz', st', e, g⟩ := p_B30 (m := m) 7 hT hm (fun h => absurd h (by decide)) h20
    refine ⟨k', n', z', tz', st', ?_, ?_⟩
    · unfold f_X4_turn
      rw [if_neg (by decide), if_neg (by decide), show tz - 1 = nI m by rw [htz, hm, nI_pred]]
      exact e
    · rw [if_pos rfl] at g
      unfold turnQ
      rw [if_pos rfl, show Q.length - 1 = m by omega]
      exact g
  · obtain ⟨m, hm⟩ : ∃ m, Q.length = m + 2 := ⟨Q.length - 2, by have := h2 h7; omega⟩
    have hd := last2 hm
    generalize hx : Q.getD m (0, 0) = x at hd
    generalize hy : Q.getD (m + 1) (0, 0) = y at hd
    have hA : (Q.take m).length = m := by rw [List.length_take]; omega
    have g1 : Q[m]? = some x := by rw [← hx]; exact getD_some (by omega)
    have g2 : Q[m + 1]? = some y := by rw [← hy]; exact getD_some (by omega)
    obtain ⟨k1, n1, e1, c1⟩ := p_exchange hcd g1 g2
    have hsw : (Q.set m y).set (m + 1) x = Q.take m ++ [y, x] := by
      have := swap2 (A := Q.take m) (x := x) (y := y)
      rw [hA, ← hd] at this
      exact this
    rw [hsw] at c1
    have hT1 := tm_one hT c1 (by rw [List.length_append, hA, hm]; rfl)
    obtain ⟨k', n', z', tz', st', e, g⟩ := p_B30 (m := m + 1) kd hT1 (by rw [List.length_append, hA]; rfl) (fun _ => by omega) (fun h => by have := h20 h; rw [List.length_append, hA]; show m + 2 < 20; omega)
    have e0 : f_X4_turn_B19 k n z tz starts kd (tz - 1) = some (k', n', z', tz', st') := by
      unfold f_X4_turn_B19
      rw [show tz - 1 = nI (m + 1) by rw [htz, hm, nI_pred], nI_pred, e1, Option.bind_some]
      exact e
    refine ⟨k', n', z', tz', st', ?_, ?_⟩
    · unfold f_X4_turn
      by_cases h8 : kd = 8
      · rw [if_pos h8]; exact e0
      · rw [if_neg h8, if_pos ((hk.resolve_left h7).resolve_left h8)]; exact e0
    · unfold turnQ
      rw [if_neg h7, show Q.length - 2 = m by omega, show Q.length - 1 = m + 1 by omega, hx, hy]
      rw [if_neg h7] at g
      by_cases h8 : kd = 8
      · rw [if_pos h8]
        rw [if_neg (by rw [h8]; decide)] at g
        exact g
      · rw [if_neg h8]
        have h9 := (hk.resolve_left h7).resolve_left h8
        rw [if_pos h9] at g
        have hg : (Q.take m ++ [y, x]).getD (m + 1 - 1) (0, 0) = y := by
          rw [show m + 1 - 1 = m by omega, List.getD_eq_getElem?_getD, List.getElem?_append_right (by omega), hA, Nat.sub_self]
          rfl
        rw [hg, List.append_assoc] at g
        exact g
/-- how many an act takes and puts -/
def tak (κ : Nat) (n : Int32) : Nat := if κ = 10 then n.toNatClampNeg else ([0, 0, 1, 0, 2, 1, 1, 1, 2, 2, 0] : List Nat).getD κ 0
def pts (κ : Nat) : Nat := ([1, 1, 0, 0, 1, 1, 0, 2, 2, 3, 1] : List Nat).getD κ 0
abbrev Sp : Type := List Ln × List (List Cl) × Nat
/-- an act is told: lines come out, the pile of terms turns -/
def tellS (S : Sp) (κ : Nat) (n : Int32) : Sp :=
  if κ = 2 ∨ κ = 3 ∨ κ = 6 then ((po S.1 (S.2.1.take (S.2.1.length - tak κ n)) S.2.2).1 ++ [((S.2.1.drop (S.2.1.length - tak κ n)).flatten, (nI κ, n))], one1 (po S.1 (S.2.1.take (S.2.1.length - tak κ n)) S.2.2).2.1, (po S.1 (S.2.1.take (S.2.1.length - tak κ n)) S.2.2).2.2)
  else if κ = 7 ∨ κ = 8 ∨ κ = 9 then ((po S.1 S.2.1 S.2.2).1, one1 (turnQ (nI κ) (po S.1 S.2.1 S.2.2).2.1), (po S.1 S.2.1 S.2.2).2.2)
  else if κ = 10 then ((po S.1 (S.2.1.take (S.2.1.length - tak κ n)) S.2.2).1, one1 (po S.1 (S.2.1.take (S.2.1.length - tak κ n)) S.2.2).2.1 ++ [(S.2.1.drop (S.2.1.length - tak κ n)).flatten ++ [(nI κ, n)]], (po S.1 (S.2.1.take (S.2.1.length - tak κ n)) S.2.2).2.2)
  else (S.1, S.2.1.take (S.2.1.length - tak κ n) ++ [(S.2.1.drop (S.2.1.length - tak κ n)).flatten ++ [(nI κ, n)]], S.2.2)
theorem po_all_len (Ls : List Ln) (t : Nat) (Ps : List (List Cl)) : (po Ls Ps t).2.1.length = Ps.length := by
  have := po_len Ls t Ps Ps.length (Nat.le_refl _)
  rw [List.take_of_length_le (Nat.le_refl _)] at this
  exact this
/-- what the class's rows hold of a spec state -/
def csR (k n : Nat → Int32) (z : Int32) (K N : Nat → Int32) (Z : Int32) (ends : Nat → Int32) (lz tz : Int32) (starts : Nat → Int32) (t : Int32) (S : Sp) : Prop := tmR k n z starts tz S.2.1 ∧ lnR K N Z ends lz S.1 ∧ t = nI S.2.2
theorem p_taken {κ : Nat} {n : Int32} (hκ : κ ≤ 10) (hn : κ = 10 → ∃ x, x ≤ 3 ∧ n = nI x) : f_X5_takenBy (nI κ) n = some (nI (tak κ n), ()) ∧ tak κ n ≤ 3 := by
  by_cases h : κ = 10
  · obtain ⟨x, hx, rfl⟩ := hn h
    subst h
    have ht : tak 10 (nI x) = x := by unfold tak; rw [if_pos rfl, nI_clamp (by omega)]
    rw [ht]
    exact ⟨by unfold f_X5_takenBy; rw [if_pos (show nI 10 = 10 from rfl)], hx⟩
  · have ht : tak κ n = ([0, 0, 1, 0, 2, 1, 1, 1, 2, 2, 0] : List Nat).getD κ 0 := by unfold tak; rw [if_neg h]
    rw [ht]
    have h9 : κ < 10 := by omega
    refine ⟨?_, ?_⟩
    · unfold f_X5_takenBy
      rw [if_neg (show ¬ nI κ = 10 from fun e => h ((nI_eq (b := 10) (by omega) (by omega)).mp e)), ixd_of (vp_in_nI (by omega) (by omega)), nI_clamp (by omega)]
      have : ∀ κ : Fin 10, tb_TAKES κ.val = nI (([0, 0, 1, 0, 2, 1, 1, 1, 2, 2, 0] : List Nat).getD κ.val 0) := by decide
      rw [this ⟨κ, h9⟩]
    · have : ∀ κ : Fin 10, ([0, 0, 1, 0, 2, 1, 1, 1, 2, 2, 0] : List Nat).getD κ.val 0 ≤ 3 := by decide
      exact this ⟨κ, h9⟩
