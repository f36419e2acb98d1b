/-! PURE PART 1: the class's rows of cells as lists -/
abbrev Cl : Type := Int32 × Int32
/-- a row of cells holds the list -/
def cd (k n : Nat → Int32) (z : Int32) (L : List Cl) : Prop := z = nI L.length ∧ L.length ≤ 300 ∧ ∀ (i : Nat) (c : Cl), L[i]? = some c → k i = c.1 ∧ n i = c.2
theorem one_ne : ¬ (1 : Int32) = 0 := by decide
theorem lt_of_get {α : Type} {L : List α} {i : Nat} {c : α} (h : L[i]? = some c) : i < L.length := (List.getElem?_eq_some_iff.mp h).1
theorem p_holds {m j : Nat} (h : j < m) (hm : m ≤ 300) : f_X0_holds (nI m) (nI j) = some (1, ()) := by
  unfold f_X0_holds
  rw [if_neg (nI_pos (by omega)), if_neg (nI_ge h (by omega))]
theorem p_kindAt {k n : Nat → Int32} {z : Int32} {L : List Cl} {j : Nat} {c : Cl} (h : cd k n z L) (hj : L[j]? = some c) : f_X0_kindAt k z (nI j) = some (c.1, ()) := by
  obtain ⟨rfl, hl, hg⟩ := h
  have hlt := lt_of_get hj
  unfold f_X0_kindAt
  rw [p_holds hlt hl]
  rw [Option.bind_some, if_neg one_ne, ixd_of (vp_in_nI (by omega) (by omega)), nI_clamp (by omega), (hg j c hj).1]
theorem p_numberAt {k n : Nat → Int32} {z : Int32} {L : List Cl} {j : Nat} {c : Cl} (h : cd k n z L) (hj : L[j]? = some c) : f_X0_numberAt n z (nI j) = some (c.2, ()) := by
  obtain ⟨rfl, hl, hg⟩ := h
  have hlt := lt_of_get hj
  unfold f_X0_numberAt
  rw [p_holds hlt hl]
  rw [Option.bind_some, if_neg one_ne, ixd_of (vp_in_nI (by omega) (by omega)), nI_clamp (by omega), (hg j c hj).2]
theorem p_add {k n : Nat → Int32} {z : Int32} {L : List Cl} (a b : Int32) (h : cd k n z L) (hl : L.length < 300) : ∃ k' n' z', f_X0_add k n z a b = some (k', n', z') ∧ cd k' n' z' (L ++ [(a, b)]) := by
  obtain ⟨rfl, -, hg⟩ := h
  refine ⟨upd k L.length a, upd n L.length b, nI (L.length + 1), ?_, ?_⟩
  · unfold f_X0_add
    rw [if_neg (show ¬ (300 : Int32) ≤ nI L.length from nI_ge (a := L.length) (b := 300) hl (by omega)), ixd_of (vp_in_nI hl (by omega)), ixd_of (vp_in_nI hl (by omega)), nI_clamp (by omega), nI_1]
  · refine ⟨by rw [List.length_append]; rfl, by rw [List.length_append, List.length_singleton]; omega, ?_⟩
    intro i c hi
    by_cases hlt : i < L.length
    · rw [List.getElem?_append_left hlt] at hi
      have := hg i c hi
      rw [pk_un (by omega), pk_un (by omega)]
      exact this
    · rw [List.getElem?_append_right (by omega)] at hi
      have hz := lt_of_get hi
      rw [List.length_singleton] at hz
      have hi0 : i = L.length := by omega
      subst hi0
      rw [Nat.sub_self, List.getElem?_cons_zero] at hi
      cases hi
      exact ⟨pk_us, pk_us⟩
theorem cd_set {k n : Nat → Int32} {z : Int32} {L : List Cl} {j : Nat} (h : cd k n z L) (hj : j < L.length) (a b : Int32) : cd (upd k j a) (upd n j b) z (L.set j (a, b)) := by
  obtain ⟨rfl, hl, hg⟩ := h
  refine ⟨by rw [List.length_set], by rw [List.length_set]; exact hl, ?_⟩
  intro i c hi
  by_cases he : i = j
  · subst he
    rw [List.getElem?_set_self hj] at hi
    cases hi
    exact ⟨pk_us, pk_us⟩
  · rw [List.getElem?_set_ne (Ne.symm he)] at hi
    rw [pk_un he, pk_un he]
    exact hg i c hi
theorem p_change {k n : Nat → Int32} {z : Int32} {L : List Cl} {j : Nat} (h : cd k n z L) (hj : j < L.length) (a b : Int32) : f_X0_change k n z (nI j) a b = some (upd k j a, upd n j b) := by
  obtain ⟨rfl, hl, hg⟩ := h
  unfold f_X0_change
  rw [p_holds hj hl]
  rw [Option.bind_some, if_neg one_ne, ixd_of (vp_in_nI (by omega) (by omega)), ixd_of (vp_in_nI (by omega) (by omega)), nI_clamp (by omega)]
theorem p_copyDown {k n : Nat → Int32} {z : Int32} {L : List Cl} {f t : Nat} {c : Cl} (h : cd k n z L) (hf : L[f]? = some c) (ht : t < L.length) : f_X0_copyDown k n z (nI f) (nI t) = some (upd k t c.1, upd n t c.2) := by
  unfold f_X0_copyDown
  rw [p_kindAt h hf]
  show (f_X0_numberAt n z (nI f)).bind _ = _
  rw [p_numberAt h hf]
  show (f_X0_change k n z (nI t) c.1 c.2).bind _ = _
  rw [p_change h ht]
  rfl
theorem p_exchange {k n : Nat → Int32} {z : Int32} {L : List Cl} {i j : Nat} {c d : Cl} (h : cd k n z L) (hi : L[i]? = some c) (hj : L[j]? = some d) : ∃ k' n', f_X0_exchange k n z (nI i) (nI j) = some (k', n') ∧ cd k' n' z ((L.set i d).set j c) := by
  have hli := lt_of_get hi
  have hlj := lt_of_get hj
  have h1 := cd_set h hli d.1 d.2
  have h2 := cd_set h1 (j := j) (by rw [List.length_set]; exact hlj) c.1 c.2
  refine ⟨_, _, ?_, h2⟩
  unfold f_X0_exchange
  rw [p_kindAt h hi]
  show (f_X0_numberAt n z (nI i)).bind _ = _
  rw [p_numberAt h hi]
  show (f_X0_copyDown k n z (nI j) (nI i)).bind _ = _
  rw [p_copyDown h hj hli]
  show (f_X0_change (upd k i d.1) (upd n i d.2) z (nI j) c.1 c.2).bind _ = _
  rw [p_change h1 (by rw [List.length_set]; exact hlj)]
  rfl
theorem p_cutTo {k n : Nat → Int32} {z : Int32} {L : List Cl} {m : Nat} (h : cd k n z L) (hm : m ≤ L.length) : f_X0_cutTo z (nI m) = some (nI m) ∧ cd k n (nI m) (L.take m) := by
  obtain ⟨rfl, hl, hg⟩ := h
  refine ⟨?_, ?_, ?_, ?_⟩
  · unfold f_X0_cutTo
    rw [if_neg (nI_pos (by omega))]
    by_cases he : m < L.length
    · rw [if_neg (nI_ge he (by omega))]
    · rw [if_pos (nI_le (by omega) (by omega)), show m = L.length by omega]
  · rw [List.length_take, Nat.min_eq_left hm]
  · rw [List.length_take]; omega
  · intro i c hi
    rw [List.getElem?_take] at hi
    by_cases hlt : i < m
    · rw [if_pos hlt] at hi; exact hg i c hi
    · rw [if_neg hlt] at hi; cases hi
theorem drop_cons {α : Type} {L : List α} {s : Nat} {c : α} (h : L[s]? = some c) : L.drop s = c :: L.drop (s + 1) := by
  obtain ⟨hlt, rfl⟩ := List.getElem?_eq_some_iff.mp h
  exact List.drop_eq_getElem_cons hlt
/-- a term's cells go behind the lines' -/
theorem p_addTerm_B3 {k n : Nat → Int32} {z : Int32} {L : List Cl} (h : cd k n z L) : ∀ (d fu s : Nat) (K N : Nat → Int32) (Z : Int32) (M : List Cl), d < fu → s + d ≤ L.length → cd K N Z M → M.length + d ≤ 300 → ∃ K' N' Z', f_X1_addTerm_B3 fu k n z K N Z (nI (s + d)) (nI s) = some (K', N', Z') ∧ cd K' N' Z' (M ++ (L.drop s).take d) := by
  have hL := h.2.1
  intro d
  induction d with
  | zero =>
    intro fu s K N Z M hf hs hM hle
    obtain ⟨f, rfl⟩ : ∃ f, fu = f + 1 := ⟨fu - 1, by omega⟩
    refine ⟨K, N, Z, ?_, by simpa using hM⟩
    rw [f_X1_addTerm_B3, if_pos (nI_le (by omega) (by omega))]
  | succ d ih =>
    intro fu s K N Z M hf hs hM hle
    obtain ⟨f, rfl⟩ : ∃ f, fu = f + 1 := ⟨fu - 1, by omega⟩
    have hs0 : s < L.length := by omega
    have hg : L[s]? = some L[s] := List.getElem?_eq_getElem hs0
    obtain ⟨K1, N1, Z1, e1, h1⟩ := p_add (L[s]).1 (L[s]).2 hM (by omega)
    obtain ⟨K2, N2, Z2, e2, h2⟩ := ih f (s + 1) K1 N1 Z1 _ (by omega) (by omega) h1 (by rw [List.length_append, List.length_singleton]; omega)
    refine ⟨K2, N2, Z2, ?_, ?_⟩
    · rw [f_X1_addTerm_B3, if_neg (nI_ge (by omega) (by omega)), p_kindAt h hg]
      show (f_X0_numberAt n z (nI s)).bind _ = _
      rw [p_numberAt h hg]
      show (f_X0_add K N Z (L[s]).1 (L[s]).2).bind _ = _
      rw [e1]
      show f_X1_addTerm_B3 f k n z K1 N1 Z1 (nI (s + (d + 1))) (nI s + 1) = _
      rw [nI_1, show s + (d + 1) = s + 1 + d by omega]
      exact e2
    · rw [drop_cons hg, List.take_succ_cons]
      rw [List.append_assoc] at h2
      exact h2
theorem p_addTerm {k n K N : Nat → Int32} {z Z : Int32} {L M : List Cl} {s e : Nat} (h : cd k n z L) (hM : cd K N Z M) (hse : s ≤ e) (he : e ≤ L.length) (hle : M.length + (e - s) ≤ 300) : ∃ K' N' Z', f_X1_addTerm k n z K N Z (nI s) (nI e) = some (K', N', Z') ∧ cd K' N' Z' (M ++ (L.drop s).take (e - s)) := by
  have hL := h.2.1
  obtain ⟨K', N', Z', e1, h1⟩ := p_addTerm_B3 h (e - s) FU s K N Z M (by unfold FU; omega) (by omega) hM hle
  refine ⟨K', N', Z', ?_, h1⟩
  unfold f_X1_addTerm
  rw [show s + (e - s) = e by omega] at e1
  exact e1
/-- the lines: each the cells of its term, then the one that ends it -/
abbrev Ln : Type := List Cl × Cl
def fl (Ls : List Ln) : List Cl := (Ls.map (fun q => q.1 ++ [q.2])).flatten
def lnR (k n : Nat → Int32) (z : Int32) (ends : Nat → Int32) (lz : Int32) (Ls : List Ln) : Prop := cd k n z (fl Ls) ∧ lz = nI Ls.length ∧ Ls.length ≤ 100 ∧ ∀ j : Nat, j < Ls.length → ends j = nI (fl (Ls.take (j + 1))).length
theorem fl_app (a b : List Ln) : fl (a ++ b) = fl a ++ fl b := by simp [fl]
theorem fl_one (P : List Cl) (c : Cl) : fl [(P, c)] = P ++ [c] := by simp [fl]
/-- a line is ended: its term's cells lie there already -/
theorem p_close {k n : Nat → Int32} {z : Int32} {ends : Nat → Int32} {lz : Int32} {Ls : List Ln} {P : List Cl} (a b : Int32) (hc : cd k n z (fl Ls ++ P)) (hz : lz = nI Ls.length) (hl : Ls.length < 100) (he : ∀ j : Nat, j < Ls.length → ends j = nI (fl (Ls.take (j + 1))).length) (hle : (fl Ls ++ P).length < 300) : ∃ k' n' z' ends' lz', f_X1_close k n z ends lz a b = some (k', n', z', ends', lz') ∧ lnR k' n' z' ends' lz' (Ls ++ [(P, (a, b))]) := by
  obtain ⟨k1, n1, z1, e1, h1⟩ := p_add a b hc hle
  have hfl : fl (Ls ++ [(P, (a, b))]) = fl Ls ++ P ++ [(a, b)] := by rw [fl_app, fl_one, List.append_assoc]
  refine ⟨k1, n1, z1, upd ends Ls.length z1, nI (Ls.length + 1), ?_, ?_, ?_, ?_, ?_⟩
  · unfold f_X1_close
    rw [e1]
    subst hz
    rw [Option.bind_some, if_neg (show ¬ (100 : Int32) ≤ nI Ls.length from nI_ge (a := Ls.length) (b := 100) hl (by omega)), ixd_of (vp_in_nI hl (by omega)), nI_clamp (by omega), nI_1]
  · rw [hfl]; exact h1
  · rw [List.length_append]; rfl
  · rw [List.length_append, List.length_singleton]; omega
  · intro j hj
    rw [List.length_append, List.length_singleton] at hj
    by_cases hlt : j < Ls.length
    · rw [pk_un (by omega), he j hlt, List.take_append_of_le_length (by omega)]
    · have : j = Ls.length := by omega
      subst this
      rw [pk_us, List.take_of_length_le (by rw [List.length_append]; exact Nat.le_refl _), hfl]
      exact h1.1
