/-! PURE PART 8: the reference's state against the spec's; it puts out as the spec does -/
def nd (sort what part : Nat → Int32) (T : Nat) (v : Int32) (P : List Cl) : Prop := ∃ p : Nat, p < T ∧ v = nI p ∧ mp sort what part p = P
def lnM (sort what part : Nat → Int32) (T : Nat) (s o v : Int32) (q : Ln) : Prop :=
  (s = 0 ∧ q.2 = (12, o) ∧ nd sort what part T v q.1) ∨ (s = 1 ∧ q.2 = (2, o) ∧ nd sort what part T v q.1) ∨ (s = 2 ∧ q.1 = [] ∧ ∃ n : Int32, q.2 = (3, n) ∧ o = n / 256 ∧ v = (n - n / 256 * 256) - 128) ∨ (s = 3 ∧ q.2 = (6, 0) ∧ nd sort what part T v q.1)
def mdR (sort what part : Nat → Int32) (terms high : Int32) (pile : Nat → Int32) (lines : Int32) (lineSort lineOf lineTerm : Nat → Int32) (temps : Int32) (T : Nat) (S : Sp) : Prop :=
  terms = nI T ∧ wfN sort what part T ∧ high = nI S.2.1.length ∧ S.2.1.length ≤ 20 ∧ (∀ (j : Nat) (P : List Cl), S.2.1[j]? = some P → nd sort what part T (pile j) P) ∧ lines = nI S.1.length ∧ (∀ (j : Nat) (q : Ln), S.1[j]? = some q → lnM sort what part T (lineSort j) (lineOf j) (lineTerm j) q) ∧ temps = nI S.2.2
theorem nd_ext {sort what part sort' what' part' : Nat → Int32} {T T' : Nat} {v : Int32} {P : List Cl} (hT : T ≤ 3000) (hTT : T ≤ T') (h : wfN sort what part T) (h1 : ∀ t, t < T → sort' t = sort t) (h2 : ∀ t, t < T → what' t = what t) (h3 : ∀ i, i < 3 * T → part' i = part i) (g : nd sort what part T v P) : nd sort' what' part' T' v P := by
  obtain ⟨p, hp, he, hm⟩ := g
  exact ⟨p, by omega, he, by rw [mp_ext hT h h1 h2 h3 hp]; exact hm⟩
theorem lnM_ext {sort what part sort' what' part' : Nat → Int32} {T T' : Nat} {s o v : Int32} {q : Ln} (hT : T ≤ 3000) (hTT : T ≤ T') (h : wfN sort what part T) (h1 : ∀ t, t < T → sort' t = sort t) (h2 : ∀ t, t < T → what' t = what t) (h3 : ∀ i, i < 3 * T → part' i = part i) (g : lnM sort what part T s o v q) : lnM sort' what' part' T' s o v q := by
  rcases g with ⟨a, b, c⟩ | ⟨a, b, c⟩ | g | ⟨a, b, c⟩
  · exact Or.inl ⟨a, b, nd_ext hT hTT h h1 h2 h3 c⟩
  · exact Or.inr (Or.inl ⟨a, b, nd_ext hT hTT h h1 h2 h3 c⟩)
  · exact Or.inr (Or.inr (Or.inl g))
  · exact Or.inr (Or.inr (Or.inr ⟨a, b, nd_ext hT hTT h h1 h2 h3 c⟩))
section PModel
variable {sort what part pile lineSort lineOf lineTerm : Nat → Int32} {terms high lines temps : Int32} {T : Nat} {S : Sp}
/-- what holds in the table when a term has been made behind the first T -/
theorem new_same (s w a b c : Int32) : (∀ t, t < T → upd sort T s t = sort t) ∧ (∀ t, t < T → upd what T w t = what t) ∧ (∀ i, i < 3 * T → newP part T a b c i = part i) :=
  ⟨fun t ht => pk_un (by omega), fun t ht => pk_un (by omega), fun i hi => newP_lo hi⟩
theorem wf_new {s : Nat} {w a b c : Int32} (h : wfN sort what part T) (hs : s ≤ 5) (h3 : ar (upd sort T (nI s)) (upd what T w) T ≤ 3) (hp : ∀ i, i < ar (upd sort T (nI s)) (upd what T w) T → ∃ p, p < T ∧ newP part T a b c (3 * T + i) = nI p) : wfN (upd sort T (nI s)) (upd what T w) (newP part T a b c) (T + 1) := by
  obtain ⟨n1, n2, n3⟩ := new_same (sort := sort) (what := what) (part := part) (T := T) (nI s) w a b c
  have h0 := wfN_ext h n1 n2 n3
  intro t ht
  by_cases he : t = T
  · subst he
    exact ⟨h3, ⟨s, hs, pk_us⟩, hp⟩
  · exact h0 t (by omega)
/-- a term is made: all else stays -/
theorem md_new {s : Nat} {w a b c : Int32} (hT : T < 3000) (h : mdR sort what part terms high pile lines lineSort lineOf lineTerm temps T S) (hs : s ≤ 5) (h3 : ar (upd sort T (nI s)) (upd what T w) T ≤ 3) (hp : ∀ i, i < ar (upd sort T (nI s)) (upd what T w) T → ∃ p, p < T ∧ newP part T a b c (3 * T + i) = nI p) :
    mdR (upd sort T (nI s)) (upd what T w) (newP part T a b c) (nI (T + 1)) high pile lines lineSort lineOf lineTerm temps (T + 1) S := by
  obtain ⟨h1, h2, h4, h5, h6, h7, h8, h9⟩ := h
  obtain ⟨n1, n2, n3⟩ := new_same (sort := sort) (what := what) (part := part) (T := T) (nI s) w a b c
  exact ⟨rfl, wf_new h2 hs h3 hp, h4, h5, fun j P hj => nd_ext (by omega) (by omega) h2 n1 n2 n3 (h6 j P hj), h7, fun j q hj => lnM_ext (by omega) (by omega) h2 n1 n2 n3 (h8 j q hj), h9⟩
/-- .. and its cells -/
theorem mp_new {s : Nat} {w a b c : Int32} (hT : T < 3000) (h : wfN sort what part T) (hs : s ≤ 5) (h3 : ar (upd sort T (nI s)) (upd what T w) T ≤ 3) (hp : ∀ i, i < ar (upd sort T (nI s)) (upd what T w) T → ∃ p, p < T ∧ newP part T a b c (3 * T + i) = nI p) :
    mp (upd sort T (nI s)) (upd what T w) (newP part T a b c) T = ((List.range (ar (upd sort T (nI s)) (upd what T w) T)).map (fun i => mp sort what part (newP part T a b c (3 * T + i)).toNatClampNeg)).flatten ++ [(kc (nI s), w)] := by
  obtain ⟨n1, n2, n3⟩ := new_same (sort := sort) (what := what) (part := part) (T := T) (nI s) w a b c
  rw [mp_eq (T := T + 1) (by omega) (wf_new h hs h3 hp) (by omega), pk_us, pk_us]
  congr 2
  refine map_range_congr (fun i hi => ?_)
  obtain ⟨p, hpT, hpe⟩ := hp i hi
  rw [hpe, nI_clamp (by omega)]
  exact mp_ext (by omega) h n1 n2 n3 hpT
theorem m_lineOut {lo ls lt : Nat → Int32} {L : Nat} (hL : L < 2200) (s o v : Int32) : f_X6_lineOut lo ls lt (nI L) s o v = some (upd lo L o, upd ls L s, upd lt L v, nI (L + 1)) := by
  unfold f_X6_lineOut
  rw [ixd_of (vp_in_nI hL (by omega)), ixd_of (vp_in_nI hL (by omega)), ixd_of (vp_in_nI hL (by omega)), nI_clamp (by omega), nI_1]
theorem md_line {s o v : Int32} {q : Ln} (h : mdR sort what part terms high pile lines lineSort lineOf lineTerm temps T S) (hq : lnM sort what part T s o v q) : mdR sort what part terms high pile (nI (S.1.length + 1)) (upd lineSort S.1.length s) (upd lineOf S.1.length o) (upd lineTerm S.1.length v) temps T (S.1 ++ [q], S.2) := by
  obtain ⟨h1, h2, h4, h5, h6, h7, h8, h9⟩ := h
  refine ⟨h1, h2, h4, h5, h6, by rw [List.length_append]; rfl, fun j q' hj => ?_, h9⟩
  by_cases hlt : j < S.1.length
  · rw [List.getElem?_append_left hlt] at hj
    rw [pk_un (by omega), pk_un (by omega), pk_un (by omega)]
    exact h8 j q' hj
  · rw [List.getElem?_append_right (by omega)] at hj
    have hz := lt_of_get hj
    rw [List.length_singleton] at hz
    have hj0 : j = S.1.length := by omega
    subst hj0
    rw [Nat.sub_self, List.getElem?_cons_zero] at hj
    cases hj
    rw [pk_us, pk_us, pk_us]
    exact hq
theorem md_set {v : Int32} {j : Nat} {P : List Cl} (h : mdR sort what part terms high pile lines lineSort lineOf lineTerm temps T S) (hj : j < S.2.1.length) (hq : nd sort what part T v P) : mdR sort what part terms high (upd pile j v) lines lineSort lineOf lineTerm temps T (S.1, S.2.1.set j P, S.2.2) := by
  obtain ⟨h1, h2, h4, h5, h6, h7, h8, h9⟩ := h
  refine ⟨h1, h2, by show high = nI (S.2.1.set j P).length; rw [List.length_set]; exact h4, by show (S.2.1.set j P).length ≤ 20; rw [List.length_set]; exact h5, fun i P' hi => ?_, h7, h8, h9⟩
  by_cases he : i = j
  · subst he
    have hi : (S.2.1.set i P)[i]? = some P' := hi
    rw [List.getElem?_set_self hj] at hi
    cases hi
    rw [pk_us]; exact hq
  · have hi : (S.2.1.set j P)[i]? = some P' := hi
    rw [List.getElem?_set_ne (Ne.symm he)] at hi
    rw [pk_un he]; exact h6 i P' hi
theorem md_temps {t : Nat} (h : mdR sort what part terms high pile lines lineSort lineOf lineTerm temps T S) : mdR sort what part terms high pile lines lineSort lineOf lineTerm (nI t) T (S.1, S.2.1, t) := by
  obtain ⟨h1, h2, h4, h5, h6, h7, h8, h9⟩ := h
  exact ⟨h1, h2, h4, h5, h6, h7, h8, rfl⟩
/-- the pile with the first j places put out -/
def poP (S : Sp) (j : Nat) : Sp := ((po S.1 (S.2.1.take j) S.2.2).1, one1 (po S.1 (S.2.1.take j) S.2.2).2.1 ++ S.2.1.drop j, (po S.1 (S.2.1.take j) S.2.2).2.2)
theorem poP_len (S : Sp) {j : Nat} (hj : j ≤ S.2.1.length) : (poP S j).2.1.length = S.2.1.length := by
  show (one1 _ ++ S.2.1.drop j).length = _
  rw [List.length_append, one1_len, po_len _ _ _ _ hj, List.length_drop]; omega
theorem poP_get (S : Sp) {j : Nat} (hj : j < S.2.1.length) : (poP S j).2.1[j]? = S.2.1[j]? := by
  show (one1 _ ++ S.2.1.drop j)[j]? = _
  have hl : (one1 (po S.1 (S.2.1.take j) S.2.2).2.1).length = j := by rw [one1_len, po_len _ _ _ _ (by omega)]
  rw [List.getElem?_append_right (by omega), hl, Nat.sub_self, List.getElem?_drop, Nat.add_zero]
theorem poP_succ (S : Sp) {j : Nat} {P : List Cl} (hP : S.2.1[j]? = some P) (hok : okP P) :
    ((lastK P = 0 ∨ lastK P = 11) → poP S (j + 1) = poP S j) ∧ (¬ (lastK P = 0 ∨ lastK P = 11) → poP S (j + 1) = ((poP S j).1 ++ [(P, (12, nI (poP S j).2.2))], (poP S j).2.1.set j [(11, nI (poP S j).2.2)], (poP S j).2.2 + 1)) := by
  have hj := lt_of_get hP
  have hps := po_succ (Ls := S.1) (t := S.2.2) hP
  have hl : (one1 (po S.1 (S.2.1.take j) S.2.2).2.1).length = j := by rw [one1_len, po_len _ _ _ _ (by omega)]
  have hdc := drop_cons hP
  constructor
  · intro hS
    obtain ⟨c, rfl⟩ := hok.2 hS
    unfold poP
    rw [hps]
    have hpo : poF (po S.1 (S.2.1.take j) S.2.2) [c] = ((po S.1 (S.2.1.take j) S.2.2).1, (po S.1 (S.2.1.take j) S.2.2).2.1 ++ [c], (po S.1 (S.2.1.take j) S.2.2).2.2) := by unfold poF; rw [if_pos hS]; rfl
    rw [hpo, hdc]
    show (_, one1 ((po S.1 (S.2.1.take j) S.2.2).2.1 ++ [c]) ++ _, _) = _
    rw [one1_app, List.append_assoc]
    rfl
  · intro hS
    unfold poP
    rw [hps]
    have hpo : poF (po S.1 (S.2.1.take j) S.2.2) P = ((po S.1 (S.2.1.take j) S.2.2).1 ++ [(P, (12, nI (po S.1 (S.2.1.take j) S.2.2).2.2))], (po S.1 (S.2.1.take j) S.2.2).2.1 ++ [(11, nI (po S.1 (S.2.1.take j) S.2.2).2.2)], (po S.1 (S.2.1.take j) S.2.2).2.2 + 1) := by unfold poF; rw [if_neg hS]
    rw [hpo, hdc]
    show (_, one1 ((po S.1 (S.2.1.take j) S.2.2).2.1 ++ [(11, nI (po S.1 (S.2.1.take j) S.2.2).2.2)]) ++ _, _) = (_, (one1 (po S.1 (S.2.1.take j) S.2.2).2.1 ++ (P :: S.2.1.drop (j + 1))).set j [(11, nI (po S.1 (S.2.1.take j) S.2.2).2.2)], _)
    rw [one1_app, List.append_assoc, List.set_append_right _ _ (by omega), hl, Nat.sub_self]
    rfl
end PModel
