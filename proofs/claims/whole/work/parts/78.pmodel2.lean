/-! PURE PART 9: the reference puts out as the spec does -/
theorem poP_mono (S : Sp) {j p : Nat} (hjp : j ≤ p) (hp : p ≤ S.2.1.length) : (poP S j).1.length ≤ (poP S p).1.length := by
  obtain ⟨x, hx⟩ := po_mono S.1 S.2.2 S.2.1 j (p - j) (by omega)
  rw [show j + (p - j) = p by omega] at hx
  show (po S.1 (S.2.1.take j) S.2.2).1.length ≤ (po S.1 (S.2.1.take p) S.2.2).1.length
  rw [hx, List.length_append]; exact Nat.le_add_right _ _
theorem ar_leaf {sort what : Nat → Int32} {T s : Nat} {w : Int32} (hs : s ≤ 2) : ar (upd sort T (nI s)) (upd what T w) T = 0 := by
  refine ar0 ?_
  rw [pk_us]
  have : s = 0 ∨ s = 1 ∨ s = 2 := by omega
  rcases this with rfl | rfl | rfl <;> decide
theorem nd_leaf {sort what part : Nat → Int32} {T s : Nat} {w a b c : Int32} (hT : T < 3000) (h : wfN sort what part T) (hs : s ≤ 2) : nd (upd sort T (nI s)) (upd what T w) (newP part T a b c) (T + 1) (nI T) [(kc (nI s), w)] := by
  have h0 := ar_leaf (sort := sort) (what := what) (T := T) (w := w) hs
  refine ⟨T, by omega, rfl, ?_⟩
  rw [mp_new hT h (by omega) (by omega) (fun i hi => by omega), h0]
  rfl
theorem m_putB2 {S : Sp} {p : Nat} (hp : p ≤ S.2.1.length) (h20 : S.2.1.length ≤ 20) (hok : ∀ P ∈ S.2.1, okP P) (hcap : (poP S p).1.length ≤ 100) : ∀ (d fu j T : Nat) (sort what part pile lineSort lineOf lineTerm : Nat → Int32) (terms high lines temps : Int32), d < fu → j + d = p → T + d < 3000 → mdR sort what part terms high pile lines lineSort lineOf lineTerm temps T (poP S j) →
    ∃ sort' what' part' pile' lineSort' lineOf' lineTerm' terms' lines' temps' T', f_X6_putOut_B2 fu lineOf lineSort lineTerm lines part pile sort temps terms what (nI p) (nI j) = some (lineOf', lineSort', lineTerm', lines', part', pile', sort', temps', terms', what') ∧ mdR sort' what' part' terms' high pile' lines' lineSort' lineOf' lineTerm' temps' T' (poP S p) ∧ T' ≤ T + d := by
  intro d
  induction d with
  | zero =>
    intro fu j T sort what part pile lineSort lineOf lineTerm terms high lines temps hf hj hT h
    obtain ⟨f, rfl⟩ : ∃ f, fu = f + 1 := ⟨fu - 1, by omega⟩
    have hjp : j = p := by omega
    subst hjp
    refine ⟨sort, what, part, pile, lineSort, lineOf, lineTerm, terms, lines, temps, T, ?_, h, by omega⟩
    rw [f_X6_putOut_B2, if_pos (nI_le (Nat.le_refl _) (by omega))]
  | succ d ih =>
    intro fu j T sort what part pile lineSort lineOf lineTerm terms high lines temps hf hj hT h
    obtain ⟨f, rfl⟩ : ∃ f, fu = f + 1 := ⟨fu - 1, by omega⟩
    have hjl : j < S.2.1.length := by omega
    have hg : S.2.1[j]? = some S.2.1[j] := List.getElem?_eq_getElem hjl
    generalize S.2.1[j] = P at hg
    have hokP := hok P (List.mem_of_getElem? hg)
    obtain ⟨s1, s2⟩ := poP_succ S hg hokP
    have hh := h
    obtain ⟨h1, h2, h4, h5, h6, h7, h8, h9⟩ := h
    obtain ⟨q, hq, hqe, hqm⟩ := h6 j P (by rw [poP_get S hjl]; exact hg)
    obtain ⟨-, ⟨s, hs5, hse⟩, -⟩ := h2 q hq
    have hlk : lastK P = kc (nI s) := by rw [← hqm, (mp_last (by omega) h2 hq).1, hse]
    have hk := kc_s hs5
    have hix : ∀ {α : Type} (x : Option α), ixd (nI j) 24 x = x := fun x => ixd_of (vp_in_nI (by omega) (by omega))
    have hix2 : ∀ {α : Type} (x : Option α), ixd (nI q) 3000 x = x := fun x => ixd_of (vp_in_nI (by omega) (by omega))
    have hcl : (nI j).toNatClampNeg = j := nI_clamp (by omega)
    have hcq : (nI q).toNatClampNeg = q := nI_clamp (by omega)
    by_cases hS : lastK P = 0 ∨ lastK P = 11
    · have hso : sort q = 0 ∨ sort q = 2 := by
        rw [hse]; rw [hlk] at hS
        exact hS.imp hk.1.mp hk.2.mp
      rw [← s1 hS] at hh
      obtain ⟨a1, a2, a3, a4, a5, a6, a7, a8, a9, a10, a11, e, g1, g2⟩ := ih f (j + 1) T sort what part pile lineSort lineOf lineTerm terms high lines temps (by omega) (by omega) (by omega) hh
      refine ⟨a1, a2, a3, a4, a5, a6, a7, a8, a9, a10, a11, ?_, g1, by omega⟩
      rw [f_X6_putOut_B2, if_neg (nI_ge (by omega) (by omega)), hix, hcl, hqe, hix2, hcq]
      by_cases h0 : sort q = 0
      · rw [if_pos h0, nI_1]; exact e
      · rw [if_neg h0, hix, hix2, if_pos (hso.resolve_left h0), nI_1]; exact e
    · have hn0 : ¬ sort q = 0 := by rw [hse]; exact fun z => hS (Or.inl (by rw [hlk]; exact hk.1.mpr z))
      have hn2 : ¬ sort q = 2 := by rw [hse]; exact fun z => hS (Or.inr (by rw [hlk]; exact hk.2.mpr z))
      have hm1 := poP_mono S (j := j) (p := p) (by omega) hp
      have l1 := md_line hh (s := 0) (o := temps) (v := pile j) (q := (P, (12, nI (poP S j).2.2))) (Or.inl ⟨rfl, by rw [h9], ⟨q, hq, hqe, hqm⟩⟩)
      have l2 := md_new (s := 2) (w := temps) (a := -1) (b := -1) (c := -1) (by omega) l1 (by omega) (by rw [ar_leaf (by omega)]; omega) (fun i hi => by rw [ar_leaf (by omega)] at hi; omega)
      have l3 := md_set (j := j) (v := nI T) (P := [(11, nI (poP S j).2.2)]) l2 (by show j < (poP S j).2.1.length; rw [poP_len S (by omega)]; exact hjl) (by
        have := nd_leaf (sort := sort) (what := what) (part := part) (T := T) (s := 2) (w := temps) (a := -1) (b := -1) (c := -1) (by omega) h2 (by omega)
        rw [h9] at this ⊢
        exact this)
      have l4 := md_temps (t := (poP S j).2.2 + 1) l3
      have l5 : mdR (upd sort T (nI 2)) (upd what T temps) (newP part T (-1) (-1) (-1)) (nI (T + 1)) high (upd pile j (nI T)) (nI ((poP S j).1.length + 1)) (upd lineSort (poP S j).1.length 0) (upd lineOf (poP S j).1.length temps) (upd lineTerm (poP S j).1.length (pile j)) (nI ((poP S j).2.2 + 1)) (T + 1) (poP S (j + 1)) := by
        rw [s2 hS]; exact l4
      obtain ⟨a1, a2, a3, a4, a5, a6, a7, a8, a9, a10, a11, e, g1, g2⟩ := ih f (j + 1) (T + 1) _ _ _ _ _ _ _ _ _ _ _ (by omega) (by omega) (by omega) l5
      refine ⟨a1, a2, a3, a4, a5, a6, a7, a8, a9, a10, a11, ?_, g1, by omega⟩
      rw [f_X6_putOut_B2, if_neg (nI_ge (by omega) (by omega)), hix, hcl, hqe, hix2, hcq, if_neg hn0, hix, hix2, if_neg hn2, hix, h7, m_lineOut (by omega), Option.bind_some, h1, m_made (by omega), Option.bind_some, hix]
      show f_X6_putOut_B2 f (upd lineOf (poP S j).1.length temps) (upd lineSort (poP S j).1.length 0) (upd lineTerm (poP S j).1.length (nI q)) (nI ((poP S j).1.length + 1)) (newP part T (-1) (-1) (-1)) (upd pile j (nI T)) (upd sort T 2) (temps + 1) (nI (T + 1)) (upd what T temps) (nI p) (nI j + 1) = _
      rw [hqe] at e
      rw [nI_1, show temps + 1 = nI ((poP S j).2.2 + 1) by rw [h9, nI_1]]
      exact e
theorem m_putOut {S : Sp} {p T : Nat} {sort what part pile lineSort lineOf lineTerm : Nat → Int32} {terms high lines temps : Int32} (hp : p ≤ S.2.1.length) (hok : ∀ P ∈ S.2.1, okP P) (hcap : (poP S p).1.length ≤ 100) (hT : T + 20 < 3000) (h : mdR sort what part terms high pile lines lineSort lineOf lineTerm temps T S) :
    ∃ sort' what' part' pile' lineSort' lineOf' lineTerm' terms' lines' temps' T', f_X6_putOut lineOf lineSort lineTerm lines part pile sort temps terms what (nI p) = some (lineOf', lineSort', lineTerm', lines', part', pile', sort', temps', terms', what') ∧ mdR sort' what' part' terms' high pile' lines' lineSort' lineOf' lineTerm' temps' T' (poP S p) ∧ T' ≤ T + 20 := by
  have h20 := h.2.2.2.1
  have h0 : poP S 0 = S := rfl
  rw [← h0] at h
  obtain ⟨a1, a2, a3, a4, a5, a6, a7, a8, a9, a10, a11, e, g1, g2⟩ := m_putB2 hp h20 hok hcap p FU 0 T sort what part pile lineSort lineOf lineTerm terms high lines temps (by unfold FU; omega) (by omega) (by omega) h
  refine ⟨a1, a2, a3, a4, a5, a6, a7, a8, a9, a10, a11, ?_, g1, by omega⟩
  unfold f_X6_putOut
  rw [nI_0] at e
  exact e
