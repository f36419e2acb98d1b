/-! PURE PART 17: the cells stay so when an act is told -/
theorem hs1_4 (a : Int32) (h : Nat) : hs1 (4, a) h = if 2 ≤ h then some (h - 1) else none := if_pos rfl
theorem hs1_5 (a : Int32) (h : Nat) : hs1 (5, a) h = if 1 ≤ h then some h else none := by
  unfold hs1
  rw [if_neg (show ¬ ((5, a) : Cl).1 = 4 from (by decide : ¬ (5 : Int32) = 4)), if_pos rfl]
theorem hs1_10 (a : Int32) (h : Nat) : hs1 (10, a) h = if a.toNatClampNeg ≤ h ∧ h - a.toNatClampNeg < 20 then some (h - a.toNatClampNeg + 1) else none := by
  unfold hs1
  rw [if_neg (show ¬ ((10, a) : Cl).1 = 4 from (by decide : ¬ (10 : Int32) = 4)), if_neg (show ¬ ((10, a) : Cl).1 = 5 from (by decide : ¬ (10 : Int32) = 5)), if_pos rfl]
theorem ok_tell {S : Sp} {n κ : Nat} {a : Int32} (h : invS S n) (hS0 : okS S n) (hκ : κ ≤ 10) (hr : rng κ a) (htk : tak κ a ≤ S.2.1.length) (h20 : S.2.1.length - tak κ a + pts κ ≤ 20) (h100 : (tellS S κ a).2.2 ≤ 100) : okS (tellS S κ a) (n + 1) := by
  obtain ⟨i1, i2, i3, i4, i5, i6⟩ := h
  obtain ⟨s1, s2, s3⟩ := hS0
  generalize hm : S.2.1.length - tak κ a = m at h20
  have hml : m ≤ S.2.1.length := by omega
  have hall : ∀ P ∈ S.2.1, okP P ∧ (∀ c ∈ P, okC c) ∧ P.length ≤ n ∧ ∃ k : Nat, hs P k = some (k + 1) := by
    intro P hP
    obtain ⟨k, hk⟩ := List.getElem?_of_mem hP
    exact ⟨i5 P hP, s1 P hP, Nat.le_trans (len_le_flat hP) i3, k, s3 k P hk⟩
  have hdrop : ∀ c ∈ (S.2.1.drop m).flatten, okC c := by
    intro c hc
    obtain ⟨P, hP, hcP⟩ := List.mem_flatten.mp hc
    exact s1 P (List.mem_of_mem_drop hP) c hcP
  have hdl : (S.2.1.drop m).flatten.length ≤ n := by
    have : S.2.1.flatten.length = (S.2.1.take m).flatten.length + (S.2.1.drop m).flatten.length := by rw [← List.length_append, ← off_split]
    omega
  have hdh : hs (S.2.1.drop m).flatten m = some (m + (S.2.1.drop m).length) := hs_flat _ m (fun i P hP => by rw [List.getElem?_drop] at hP; exact s3 (m + i) P hP)
  rw [List.length_drop] at hdh
  have hup : ∀ q ∈ S.1, lnK (n + 1) q := fun q hq => lnK_up (s2 q hq)
  have hall' : ∀ P ∈ S.2.1, okP P ∧ (∀ c ∈ P, okC c) ∧ P.length ≤ n + 1 ∧ ∃ k : Nat, hs P k = some (k + 1) := fun P hP => ⟨(hall P hP).1, (hall P hP).2.1, by have := (hall P hP).2.2.1; omega, (hall P hP).2.2.2⟩
  by_cases hA : κ = 2 ∨ κ = 3 ∨ κ = 6
  · have hS : tellS S κ a = ((po S.1 (S.2.1.take m) S.2.2).1 ++ [((S.2.1.drop m).flatten, (nI κ, a))], one1 (po S.1 (S.2.1.take m) S.2.2).2.1, (po S.1 (S.2.1.take m) S.2.2).2.2) := by unfold tellS; rw [if_pos hA, hm]
    rw [hS] at h100 ⊢
    obtain ⟨g1, g2⟩ := po_ok (n + 1) (S.2.1.take m) (S.1, [], S.2.2) (fun P hP => hall' P (List.mem_of_mem_take hP)) hup (fun c hc => by cases hc) h100
    have g1 : ∀ q ∈ (po S.1 (S.2.1.take m) S.2.2).1, lnK (n + 1) q := g1
    have g2 : ∀ c ∈ (po S.1 (S.2.1.take m) S.2.2).2.1, okC c ∧ (c.1 = 0 ∨ c.1 = 11) := g2
    refine ⟨one1_okC g2, ?_, one1_hs g2 (by rw [po_len S.1 S.2.2 S.2.1 m hml]; omega)⟩
    intro q hq
    rcases List.mem_append.mp hq with hq | hq
    · exact g1 q hq
    · rw [List.mem_singleton.mp hq]
      refine ⟨hdrop, okE_of hA hr, by show (S.2.1.drop m).flatten.length ≤ n + 1; omega, ?_⟩
      by_cases h3 : κ = 3
      · subst h3
        left
        have : tak 3 a = 0 := rfl
        exact ⟨rfl, by show (S.2.1.drop m).flatten = []; rw [List.drop_of_length_le (by omega)]; rfl⟩
      · right
        have ht : tak κ a = 1 := by rcases hA with rfl | rfl | rfl <;> first | rfl | exact absurd rfl h3
        exact ⟨m, by show hs (S.2.1.drop m).flatten m = _; rw [hdh, show S.2.1.length - m = 1 by omega]⟩
  by_cases hE : κ = 10
  · subst hE
    have hS : tellS S 10 a = ((po S.1 (S.2.1.take m) S.2.2).1, one1 (po S.1 (S.2.1.take m) S.2.2).2.1 ++ [(S.2.1.drop m).flatten ++ [(nI 10, a)]], (po S.1 (S.2.1.take m) S.2.2).2.2) := by unfold tellS; rw [if_neg (by omega), if_neg (by omega), if_pos rfl, hm]
    rw [hS] at h100 ⊢
    obtain ⟨g1, g2⟩ := po_ok (n + 1) (S.2.1.take m) (S.1, [], S.2.2) (fun P hP => hall' P (List.mem_of_mem_take hP)) hup (fun c hc => by cases hc) h100
    have g1 : ∀ q ∈ (po S.1 (S.2.1.take m) S.2.2).1, lnK (n + 1) q := g1
    have g2 : ∀ c ∈ (po S.1 (S.2.1.take m) S.2.2).2.1, okC c ∧ (c.1 = 0 ∨ c.1 = 11) := g2
    have hql := po_len S.1 S.2.2 S.2.1 m hml
    have hp1 : pts 10 = 1 := rfl
    have hta : tak 10 a = a.toNatClampNeg := rfl
    refine ⟨?_, g1, ?_⟩
    · intro P hP
      rcases List.mem_append.mp hP with hP | hP
      · exact one1_okC g2 P hP
      · rw [List.mem_singleton.mp hP]
        intro c hc
        rcases List.mem_append.mp hc with hc | hc
        · exact hdrop c hc
        · rw [List.mem_singleton.mp hc]; exact okC_of (by omega) hr
    · intro k P hk
      have hk' : (one1 (po S.1 (S.2.1.take m) S.2.2).2.1 ++ [(S.2.1.drop m).flatten ++ [(nI 10, a)]])[k]? = some P := hk
      by_cases hlt : k < m
      · rw [List.getElem?_append_left (by rw [one1_len]; omega)] at hk'
        exact one1_hs g2 (by omega) k P hk'
      · have hkl := lt_of_get hk'
        rw [List.length_append, one1_len, List.length_singleton] at hkl
        have hkm : k = m := by omega
        rw [List.getElem?_append_right (by rw [one1_len]; omega), one1_len, hql, hkm, Nat.sub_self, List.getElem?_cons_zero] at hk'
        cases hk'
        rw [hkm, hs_app, hdh, Option.bind_some, hs_one]
        show hs1 (10, a) _ = _
        rw [hs1_10, if_pos ⟨by omega, by omega⟩]
        rw [show m + (S.2.1.length - m) - a.toNatClampNeg = m by omega]
  by_cases hB : κ = 7 ∨ κ = 8 ∨ κ = 9
  · have hta : tak κ a = tak κ 0 := by rcases hB with rfl | rfl | rfl <;> rfl
    have hS : tellS S κ a = ((po S.1 S.2.1 S.2.2).1, one1 (turnQ (nI κ) (po S.1 S.2.1 S.2.2).2.1), (po S.1 S.2.1 S.2.2).2.2) := by unfold tellS; rw [if_neg (by omega), if_pos hB]
    rw [hS] at h100 ⊢
    obtain ⟨g1, g2⟩ := po_ok (n + 1) S.2.1 (S.1, [], S.2.2) hall' hup (fun c hc => by cases hc) h100
    have g1 : ∀ q ∈ (po S.1 S.2.1 S.2.2).1, lnK (n + 1) q := g1
    have g2 : ∀ c ∈ (po S.1 S.2.1 S.2.2).2.1, okC c ∧ (c.1 = 0 ∨ c.1 = 11) := g2
    have hql := po_all_len S.1 S.2.2 S.2.1
    have h1 : 1 ≤ S.2.1.length := by have : 1 ≤ tak κ 0 := by rcases hB with rfl | rfl | rfl <;> decide
                                     omega
    have htl := turnQ_len (κ := κ) (Q := (po S.1 S.2.1 S.2.2).2.1) hB (by omega)
    have hmem := turnQ_mem (k := nI κ) (Q := (po S.1 S.2.1 S.2.2).2.1) (by omega)
    have g3 : ∀ c ∈ turnQ (nI κ) (po S.1 S.2.1 S.2.2).2.1, okC c ∧ (c.1 = 0 ∨ c.1 = 11) := fun c hc => g2 c (hmem c hc)
    exact ⟨one1_okC g3, g1, one1_hs g3 (by omega)⟩
  · have hS : tellS S κ a = (S.1, S.2.1.take m ++ [(S.2.1.drop m).flatten ++ [(nI κ, a)]], S.2.2) := by unfold tellS; rw [if_neg hA, if_neg hB, if_neg hE, hm]
    have hk : κ = 0 ∨ κ = 1 ∨ κ = 4 ∨ κ = 5 := by omega
    have hpts : pts κ = 1 := by rcases hk with rfl | rfl | rfl | rfl <;> rfl
    rw [hS]
    refine ⟨?_, hup, ?_⟩
    · intro P hP
      rcases List.mem_append.mp hP with hP | hP
      · exact s1 P (List.mem_of_mem_take hP)
      · rw [List.mem_singleton.mp hP]
        intro c hc
        rcases List.mem_append.mp hc with hc | hc
        · exact hdrop c hc
        · rw [List.mem_singleton.mp hc]; exact okC_of (by omega) hr
    · intro k P hk0
      have hk' : (S.2.1.take m ++ [(S.2.1.drop m).flatten ++ [(nI κ, a)]])[k]? = some P := hk0
      have hlm : (S.2.1.take m).length = m := by rw [List.length_take]; omega
      by_cases hlt : k < m
      · rw [List.getElem?_append_left (by omega), List.getElem?_take, if_pos hlt] at hk'
        exact s3 k P hk'
      · have hkl := lt_of_get hk'
        rw [List.length_append, hlm, List.length_singleton] at hkl
        have hkm : k = m := by omega
        rw [List.getElem?_append_right (by omega), hlm, hkm, Nat.sub_self, List.getElem?_cons_zero] at hk'
        cases hk'
        rw [hkm, hs_app, hdh, Option.bind_some]
        rcases hk with rfl | rfl | rfl | rfl
        · have : tak 0 a = 0 := rfl
          rw [show m + (S.2.1.length - m) = m by omega]
          exact hs_leaf (Or.inl rfl) (by omega)
        · have : tak 1 a = 0 := rfl
          rw [show m + (S.2.1.length - m) = m by omega]
          exact hs_leaf (Or.inr (Or.inl rfl)) (by omega)
        · have : tak 4 a = 2 := rfl
          rw [show m + (S.2.1.length - m) = m + 2 by omega, hs_one]
          show hs1 (4, a) _ = _
          rw [hs1_4, if_pos (by omega)]
          rfl
        · have : tak 5 a = 1 := rfl
          rw [show m + (S.2.1.length - m) = m + 1 by omega, hs_one]
          show hs1 (5, a) _ = _
          rw [hs1_5, if_pos (by omega)]
