/-! PURE PART 2: the pile of terms as a list of lists of cells -/
def off (Ps : List (List Cl)) (j : Nat) : Nat := (Ps.take j).flatten.length
def tmR (k n : Nat → Int32) (z : Int32) (starts : Nat → Int32) (tz : Int32) (Ps : List (List Cl)) : Prop := cd k n z Ps.flatten ∧ tz = nI Ps.length ∧ Ps.length ≤ 20 ∧ ∀ j : Nat, j < Ps.length → starts j = nI (off Ps j)
theorem off_succ {Ps : List (List Cl)} {j : Nat} {P : List Cl} (h : Ps[j]? = some P) : off Ps (j + 1) = off Ps j + P.length := by
  unfold off
  rw [List.take_add_one, h, Option.toList_some, List.flatten_append, List.length_append, List.flatten_cons, List.flatten_nil, List.append_nil]
theorem off_all (Ps : List (List Cl)) : off Ps Ps.length = Ps.flatten.length := by
  unfold off
  rw [List.take_of_length_le (Nat.le_refl _)]
theorem off_zero (Ps : List (List Cl)) : off Ps 0 = 0 := rfl
theorem off_split (Ps : List (List Cl)) (j : Nat) : Ps.flatten = (Ps.take j).flatten ++ (Ps.drop j).flatten := by
  rw [← List.flatten_append, List.take_append_drop]
theorem off_le (Ps : List (List Cl)) (j : Nat) : off Ps j ≤ Ps.flatten.length := by
  rw [off_split Ps j, List.length_append]; exact Nat.le_add_right _ _
theorem drop_off (Ps : List (List Cl)) (j : Nat) : Ps.flatten.drop (off Ps j) = (Ps.drop j).flatten := by
  rw [off_split Ps j]
  unfold off
  rw [List.drop_left]
theorem off_ge {Ps : List (List Cl)} (hne : ∀ P ∈ Ps, P ≠ []) : ∀ j : Nat, j ≤ Ps.length → j ≤ off Ps j := by
  intro j
  induction j with
  | zero => intro _; exact Nat.zero_le _
  | succ j ih =>
    intro hj
    have hg : Ps[j]? = some Ps[j] := List.getElem?_eq_getElem (by omega)
    have h1 := ih (by omega)
    have h2 : 0 < (Ps[j]).length := List.length_pos_iff.mpr (hne _ (List.mem_of_getElem? hg))
    rw [off_succ hg]; omega
theorem p_startOf {z : Int32} {starts : Nat → Int32} {tz : Int32} {N m j x : Nat} (hz : z = nI N) (htz : tz = nI m) (hm : m ≤ 20) (hj : j ≤ m) (hx : (j < m → starts j = nI x) ∧ (j = m → N = x)) : f_X4_startOf z tz starts (nI j) = some (nI x, ()) := by
  subst hz htz
  unfold f_X4_startOf
  rw [if_neg (nI_pos (by omega))]
  by_cases h : j < m
  · rw [if_neg (nI_ge h (by omega)), ixd_of (vp_in_nI (by omega) (by omega)), nI_clamp (by omega), hx.1 h]
  · rw [if_pos (nI_le (by omega) (by omega)), hx.2 (by omega)]
theorem p_endOf {z : Int32} {starts : Nat → Int32} {tz : Int32} {N m j x : Nat} (hz : z = nI N) (htz : tz = nI m) (hm : m ≤ 20) (hj : j < m) (hx : (j + 1 < m → starts (j + 1) = nI x) ∧ (j + 1 = m → N = x)) : f_X4_endOf z tz starts (nI j) = some (nI x, ()) := by
  unfold f_X4_endOf
  rw [nI_1, p_startOf hz htz hm (by omega) hx]
  rfl
/-- the last cell of a term tells what it is -/
def lastK (P : List Cl) : Int32 := (P.getLast?.getD (0, 0)).1
def headC (P : List Cl) : Cl := P.head?.getD (0, 0)
def isS (P : List Cl) : Prop := lastK P = 0 ∨ lastK P = 11
/-- one term is put out, or stays if it is a number or a temporary -/
def poF (a : List Ln × List Cl × Nat) (P : List Cl) : List Ln × List Cl × Nat :=
  if lastK P = 0 ∨ lastK P = 11 then (a.1, a.2.1 ++ [headC P], a.2.2) else (a.1 ++ [(P, (12, nI a.2.2))], a.2.1 ++ [(11, nI a.2.2)], a.2.2 + 1)
def po (Ls : List Ln) (Ps : List (List Cl)) (t : Nat) : List Ln × List Cl × Nat := Ps.foldl poF (Ls, [], t)
theorem po_succ {Ls : List Ln} {Ps : List (List Cl)} {t j : Nat} {P : List Cl} (h : Ps[j]? = some P) : po Ls (Ps.take (j + 1)) t = poF (po Ls (Ps.take j) t) P := by
  unfold po
  rw [List.take_add_one, h, Option.toList_some, List.foldl_append]
  rfl
theorem poF_len (a : List Ln × List Cl × Nat) (P : List Cl) : (poF a P).2.1.length = a.2.1.length + 1 := by
  unfold poF
  split <;> simp
theorem po_len (Ls : List Ln) (t : Nat) : ∀ (Ps : List (List Cl)) (j : Nat), j ≤ Ps.length → (po Ls (Ps.take j) t).2.1.length = j := by
  intro Ps j
  induction j with
  | zero => intro _; rfl
  | succ j ih =>
    intro hj
    have hg : Ps[j]? = some Ps[j] := List.getElem?_eq_getElem (by omega)
    rw [po_succ hg, poF_len, ih (by omega)]
theorem poF_mono (a : List Ln × List Cl × Nat) (P : List Cl) : ∃ x, (poF a P).1 = a.1 ++ x := by
  unfold poF
  split
  · exact ⟨[], by simp⟩
  · exact ⟨_, rfl⟩
theorem po_mono (Ls : List Ln) (t : Nat) (Ps : List (List Cl)) : ∀ (j m : Nat), j + m ≤ Ps.length → ∃ x, (po Ls (Ps.take (j + m)) t).1 = (po Ls (Ps.take j) t).1 ++ x := by
  intro j m
  induction m with
  | zero => intro _; exact ⟨[], by simp⟩
  | succ m ih =>
    intro hj
    obtain ⟨x, hx⟩ := ih (by omega)
    have hg : Ps[j + m]? = some Ps[j + m] := List.getElem?_eq_getElem (by omega)
    obtain ⟨y, hy⟩ := poF_mono (po Ls (Ps.take (j + m)) t) Ps[j + m]
    exact ⟨x ++ y, by rw [show j + (m + 1) = j + m + 1 by omega, po_succ hg, hy, hx, List.append_assoc]⟩
/-- on the way: the first j places are one cell each, the rest lies where it lay -/
def midR (k n : Nat → Int32) (z : Int32) (starts : Nat → Int32) (tz : Int32) (Ps : List (List Cl)) (j : Nat) (Q : List Cl) : Prop :=
  ∃ L : List Cl, cd k n z L ∧ L.length = Ps.flatten.length ∧ Q.length = j ∧ L.take j = Q ∧ L.drop (off Ps j) = (Ps.drop j).flatten ∧ tz = nI Ps.length ∧ Ps.length ≤ 20 ∧ (∀ i : Nat, i < j → starts i = nI i) ∧ ∀ i : Nat, j ≤ i → i < Ps.length → starts i = nI (off Ps i)
theorem take_set_succ {α : Type} {L : List α} {j : Nat} (hj : j < L.length) (c : α) : (L.set j c).take (j + 1) = L.take j ++ [c] := by
  rw [List.set_eq_take_append_cons_drop, if_pos hj]
  have : (L.take j).length = j := by rw [List.length_take]; omega
  rw [List.take_append, this, List.take_of_length_le (by omega)]
  simp
theorem drop_set_lt {α : Type} {L : List α} {j s : Nat} (h : j < s) (c : α) : (L.set j c).drop s = L.drop s := List.drop_set_of_lt h
theorem p_putOut {k n K N : Nat → Int32} {z Z : Int32} {starts ends : Nat → Int32} {tz lz : Int32} {Ps : List (List Cl)} {j t : Nat} {a : List Ln × List Cl × Nat} {P : List Cl}
    (hm : midR k n z starts tz Ps j a.2.1) (hl : lnR K N Z ends lz a.1) (hP : Ps[j]? = some P) (hne : ∀ P ∈ Ps, P ≠ []) (hs : isS P → ∃ c, P = [c]) (ht : t = a.2.2)
    (hc1 : (poF a P).1.length ≤ 100) (hc2 : (fl (poF a P).1).length ≤ 300) :
    ∃ k' n' K' N' Z' ends' lz' starts' t', f_X4_putOut k n z K N Z ends lz tz starts (nI t) (nI j) = some (k', n', K', N', Z', ends', lz', starts', t') ∧ midR k' n' z starts' tz Ps (j + 1) (poF a P).2.1 ∧ lnR K' N' Z' ends' lz' (poF a P).1 ∧ t' = nI (poF a P).2.2 := by
  obtain ⟨L, hcd, hlen, hq, htk, hdr, htz, h20, hs1, hs2⟩ := hm
  obtain ⟨hcl, hlz, hl100, hends⟩ := hl
  have hj := lt_of_get hP
  have hPne := hne P (List.mem_of_getElem? hP)
  have hPl : 0 < P.length := List.length_pos_iff.mpr hPne
  have hoj : j ≤ off Ps j := off_ge hne j (by omega)
  have hos := off_succ hP
  have hole := off_le Ps (j + 1)
  have hL3 := hcd.2.1
  have hz : z = nI Ps.flatten.length := by rw [← hlen]; exact hcd.1
  have hsplit : (Ps.drop j).flatten = P ++ (Ps.drop (j + 1)).flatten := by rw [drop_cons hP, List.flatten_cons]
  have hat : ∀ i : Nat, i < P.length → L[off Ps j + i]? = P[i]? := by
    intro i hi
    have h1 : (L.drop (off Ps j))[i]? = P[i]? := by rw [hdr, hsplit, List.getElem?_append_left hi]
    rw [List.getElem?_drop] at h1
    exact h1
  have hlast : P[P.length - 1]? = some (P.getLast hPne) := by
    rw [← List.getLast?_eq_getElem?, List.getLast?_eq_some_getLast hPne]
  have hlk : lastK P = (P.getLast hPne).1 := by unfold lastK; rw [List.getLast?_eq_some_getLast hPne]; rfl
  have e1 : f_X4_startOf z tz starts (nI j) = some (nI (off Ps j), ()) := p_startOf hz htz h20 (by omega) ⟨fun _ => hs2 j (Nat.le_refl _) hj, fun h => by omega⟩
  have e2 : f_X4_endOf z tz starts (nI j) = some (nI (off Ps (j + 1)), ()) := p_endOf hz htz h20 hj ⟨fun h => hs2 (j + 1) (by omega) h, fun h => by rw [h, off_all]⟩
  have e3 : f_X0_kindAt k z (nI (off Ps (j + 1)) - 1) = some ((P.getLast hPne).1, ()) := by
    rw [show off Ps (j + 1) = (off Ps j + (P.length - 1)) + 1 by omega, nI_pred]
    exact p_kindAt hcd (by rw [hat _ (by omega), hlast])
  have hdr1 : L.drop (off Ps (j + 1)) = (Ps.drop (j + 1)).flatten := by
    rw [hos, ← List.drop_drop, hdr, hsplit, List.drop_left]
  have hst : ∀ i : Nat, i < j + 1 → upd starts j (nI j) i = nI i := by
    intro i hi
    by_cases he : i = j
    · subst he; exact pk_us
    · rw [pk_un he]; exact hs1 i (by omega)
  have hst2 : ∀ i : Nat, j + 1 ≤ i → i < Ps.length → upd starts j (nI j) i = nI (off Ps i) := by
    intro i h1 h2
    rw [pk_un (by omega)]
    exact hs2 i (by omega) h2
  have hjL : j < L.length := by rw [hlen]; omega
  have mid : ∀ c : Cl, midR (upd k j c.1) (upd n j c.2) z (upd starts j (nI j)) tz Ps (j + 1) (a.2.1 ++ [c]) := by
    intro c
    refine ⟨L.set j c, cd_set hcd hjL c.1 c.2, by rw [List.length_set]; exact hlen, by rw [List.length_append, hq]; rfl, ?_, ?_, htz, h20, hst, hst2⟩
    · rw [take_set_succ hjL, htk]
    · rw [drop_set_lt (by omega), hdr1]
  have tail : ∀ {α : Type} (x y : Option α), (if nI j < 0 then x else if (20 : Int32) ≤ nI j then x else ixd (nI j) 20 y) = y := by
    intro α x y
    rw [if_neg (nI_pos (by omega)), if_neg (show ¬ (20 : Int32) ≤ nI j from nI_ge (a := j) (b := 20) (by omega) (by omega)), ixd_of (vp_in_nI (by omega) (by omega))]
  by_cases hS : lastK P = 0 ∨ lastK P = 11
  · obtain ⟨c, rfl⟩ := hs hS
    have hpo : poF a [c] = (a.1, a.2.1 ++ [c], a.2.2) := by unfold poF; rw [if_pos hS]; rfl
    have hc0 : L[off Ps j]? = some c := by have := hat 0 (by simp); simpa using this
    have e4 := p_copyDown hcd hc0 hjL
    rw [hpo]
    refine ⟨upd k j c.1, upd n j c.2, K, N, Z, ends, lz, upd starts j (nI j), nI t, ?_, mid c, ⟨hcl, hlz, hl100, hends⟩, by rw [ht]⟩
    unfold f_X4_putOut
    rw [e1]
    show (f_X4_endOf z tz starts (nI j)).bind _ = _
    rw [e2]
    have e3 : f_X0_kindAt k z (nI (off Ps (j + 1)) - 1) = some (c.1, ()) := e3
    show (f_X0_kindAt k z (nI (off Ps (j + 1)) - 1)).bind _ = _
    rw [e3]
    have hk : c.1 = 0 ∨ c.1 = 11 := by rw [hlk] at hS; exact hS
    rw [Option.bind_some]
    by_cases h0 : c.1 = 0
    · rw [if_pos h0]
      show (f_X0_copyDown k n z (nI (off Ps j)) (nI j)).bind _ = _
      rw [e4]
      rw [Option.bind_some, tail, nI_clamp (by omega)]
    · rw [if_neg h0, if_pos (hk.resolve_left h0)]
      show (f_X0_copyDown k n z (nI (off Ps j)) (nI j)).bind _ = _
      rw [e4]
      rw [Option.bind_some, tail, nI_clamp (by omega)]
  · have hpo : poF a P = (a.1 ++ [(P, (12, nI a.2.2))], a.2.1 ++ [(11, nI a.2.2)], a.2.2 + 1) := by unfold poF; rw [if_neg hS]
    rw [hpo] at hc1 hc2 ⊢
    rw [List.length_append, List.length_singleton] at hc1
    rw [fl_app, fl_one, List.length_append, List.length_append, List.length_singleton] at hc2
    obtain ⟨K1, N1, Z1, e4, h4⟩ := p_addTerm (s := off Ps j) (e := off Ps (j + 1)) hcd hcl (by omega) (by rw [hlen]; exact hole) (by omega)
    have htake : (L.drop (off Ps j)).take (off Ps (j + 1) - off Ps j) = P := by
      rw [hdr, hsplit, show off Ps (j + 1) - off Ps j = P.length by omega, List.take_left]
    rw [htake] at h4
    obtain ⟨K2, N2, Z2, ends2, lz2, e5, h5⟩ := p_close 12 (nI a.2.2) h4 hlz (by omega) hends (by rw [List.length_append]; omega)
    have e6 := p_change hcd hjL 11 (nI t)
    refine ⟨upd k j 11, upd n j (nI t), K2, N2, Z2, ends2, lz2, upd starts j (nI j), nI (t + 1), ?_, ?_, h5, by rw [ht]⟩
    · unfold f_X4_putOut
      rw [e1]
      show (f_X4_endOf z tz starts (nI j)).bind _ = _
      rw [e2]
      show (f_X0_kindAt k z (nI (off Ps (j + 1)) - 1)).bind _ = _
      rw [e3]
      rw [hlk] at hS
      rw [Option.bind_some, if_neg (fun h => hS (Or.inl h)), if_neg (fun h => hS (Or.inr h))]
      show (f_X1_addTerm k n z K N Z (nI (off Ps j)) (nI (off Ps (j + 1)))).bind _ = _
      rw [e4]
      show (f_X1_close K1 N1 Z1 ends lz 12 (nI t)).bind _ = _
      rw [ht, e5]
      show (f_X0_change k n z (nI j) 11 (nI a.2.2)).bind _ = _
      rw [← ht, e6]
      rw [Option.bind_some, tail, nI_clamp (by omega), nI_1]
    · rw [← ht]
      exact mid (11, nI t)
