/-! PURE PART 3: the pile of terms: the gap is closed, all below is put out, a term is put, a line is ended, the pile is turned -/
theorem p_moveB41 {k n : Nat → Int32} {z z' : Int32} {gap m : Nat} (hm : m ≤ 20) (hcut : f_X0_cutTo z (z - nI gap) = some z') : ∀ (d fu p : Nat) (starts : Nat → Int32), d < fu → p + d = m → ∃ st', f_X4_moveDown_B41 fu k n z (nI m) starts (nI gap) (nI p) = some (k, n, z', st') ∧ (∀ i : Nat, i < p → st' i = starts i) ∧ ∀ i : Nat, p ≤ i → i < m → st' i = starts i - nI gap := by
  intro d
  induction d with
  | zero =>
    intro fu p starts hf hp
    obtain ⟨f, rfl⟩ : ∃ f, fu = f + 1 := ⟨fu - 1, by omega⟩
    refine ⟨starts, ?_, fun _ _ => rfl, fun i h1 h2 => by omega⟩
    rw [f_X4_moveDown_B41, if_pos (nI_le (by omega) (by omega)), hcut]
    rfl
  | succ d ih =>
    intro fu p starts hf hp
    obtain ⟨f, rfl⟩ : ∃ f, fu = f + 1 := ⟨fu - 1, by omega⟩
    obtain ⟨st', e, h1, h2⟩ := ih f (p + 1) (upd starts p (starts p - nI gap)) (by omega) (by omega)
    refine ⟨st', ?_, ?_, ?_⟩
    · rw [f_X4_moveDown_B41, if_neg (nI_ge (by omega) (by omega)), if_neg (show ¬ (20 : Int32) ≤ nI p from nI_ge (a := p) (b := 20) (by omega) (by omega)), ixd_of (vp_in_nI (by omega) (by omega)), ixd_of (vp_in_nI (by omega) (by omega)), nI_clamp (by omega), nI_1]
      exact e
    · intro i hi
      rw [h1 i (by omega), pk_un (by omega)]
    · intro i hi1 hi2
      by_cases he : i = p
      · subst he
        rw [h1 i (by omega), pk_us]
      · rw [h2 i (by omega) hi2, pk_un he]
theorem p_moveB7 {z : Int32} {tz : Int32} {starts : Nat → Int32} {R : Option ((Nat → Int32) × (Nat → Int32) × Int32 × (Nat → Int32))} {gap p : Nat} {T : List Cl} : ∀ (d fu at' : Nat) (k n : Nat → Int32) (L X : List Cl), d < fu → cd k n z L → at' + d = L.length → gap ≤ at' → L.take (at' - gap) = X → L.drop at' = T.drop (T.length - d) → d ≤ T.length → ∃ (k' n' : Nat → Int32) (L' : List Cl), f_X4_moveDown_B7 fu k n z tz starts (nI p) (nI gap) (nI at') = f_X4_moveDown_B41 FU k' n' z tz starts (nI gap) (nI p) ∧ cd k' n' z L' ∧ L'.length = L.length ∧ L'.take (L.length - gap) = X ++ T.drop (T.length - d) := by
  intro d
  induction d with
  | zero =>
    intro fu at' k n L X hf hcd hat hg hX hT hd
    obtain ⟨f, rfl⟩ : ∃ f, fu = f + 1 := ⟨fu - 1, by omega⟩
    refine ⟨k, n, L, ?_, hcd, rfl, ?_⟩
    · have h3 := hcd.2.1
      rw [f_X4_moveDown_B7, if_pos (by rw [hcd.1]; exact nI_le (by omega) (by omega))]
    · rw [show L.length - gap = at' - gap by omega, hX, Nat.sub_zero, List.drop_length, List.append_nil]
  | succ d ih =>
    intro fu at' k n L X hf hcd hat hg hX hT hd
    obtain ⟨f, rfl⟩ : ∃ f, fu = f + 1 := ⟨fu - 1, by omega⟩
    have h3 := hcd.2.1
    have hlt : at' < L.length := by omega
    have hga : L[at']? = some L[at'] := List.getElem?_eq_getElem hlt
    have hgj : at' - gap < L.length := by omega
    have hTd : T.drop (T.length - (d + 1)) = L[at'] :: T.drop (T.length - d) := by
      rw [← hT, drop_cons hga]
      congr 1
      have h4 : L.drop (at' + 1) = (L.drop at').drop 1 := by rw [List.drop_drop]
      rw [h4, hT, List.drop_drop, show T.length - (d + 1) + 1 = T.length - d by omega]
    have hcd2 := cd_set hcd hgj (L[at']).1 (L[at']).2
    obtain ⟨k', n', L', e, g1, g2, g3⟩ := ih f (at' + 1) _ _ (L.set (at' - gap) L[at']) (X ++ [L[at']]) (by omega) hcd2 (by rw [List.length_set]; omega) (by omega)
      (by rw [show at' + 1 - gap = (at' - gap) + 1 by omega, take_set_succ hgj, hX])
      (by
        rw [drop_set_lt (by omega)]
        have h4 : L.drop (at' + 1) = (L.drop at').drop 1 := by rw [List.drop_drop]
        rw [h4, hT, List.drop_drop, show T.length - (d + 1) + 1 = T.length - d by omega]) (by omega)
    rw [List.length_set] at g2 g3
    refine ⟨k', n', L', ?_, g1, g2, ?_⟩
    · rw [f_X4_moveDown_B7, if_neg (by rw [hcd.1]; exact nI_ge hlt (by omega)), pk_sub hg, p_copyDown hcd hga hgj]
      show f_X4_moveDown_B7 f _ _ z tz starts (nI p) (nI gap) (nI at' + 1) = _
      rw [nI_1]
      exact e
    · rw [g3, hTd, List.append_assoc]
      rfl
/-- what is left when the first p places have been put out -/
def one1 (Q : List Cl) : List (List Cl) := Q.map (fun c => [c])
theorem one1_flat (Q : List Cl) : (one1 Q).flatten = Q := by
  induction Q with
  | nil => rfl
  | cons c Q ih => show [c] ++ (one1 Q).flatten = _; rw [ih]; rfl
theorem one1_len (Q : List Cl) : (one1 Q).length = Q.length := List.length_map ..
theorem off_one1 (Q : List Cl) (R : List (List Cl)) (i : Nat) (h : i ≤ Q.length) : off (one1 Q ++ R) i = i := by
  unfold off
  rw [List.take_append_of_le_length (by rw [one1_len]; exact h)]
  unfold one1
  rw [← List.map_take]
  show (one1 (Q.take i)).flatten.length = i
  rw [one1_flat, List.length_take]; omega
theorem off_one1' (Ps : List (List Cl)) (Q : List Cl) (p i : Nat) (hQ : Q.length = p) (h : p ≤ i) : off (one1 Q ++ Ps.drop p) i + off Ps p = p + off Ps i := by
  unfold off
  rw [List.take_append, one1_len, hQ, List.take_of_length_le (by rw [one1_len]; omega), List.flatten_append, List.length_append, one1_flat, hQ]
  have h1 : Ps.take i = Ps.take p ++ (Ps.drop p).take (i - p) := by
    rw [List.take_drop, show p + (i - p) = i by omega]
    have h2 := (List.take_append_drop p (Ps.take i)).symm
    rw [List.take_take, Nat.min_eq_left h] at h2
    exact h2
  rw [h1, List.flatten_append, List.length_append]
  omega
theorem p_moveDown {k n : Nat → Int32} {z : Int32} {starts : Nat → Int32} {tz : Int32} {Ps : List (List Cl)} {p : Nat} {Q : List Cl} (hm : midR k n z starts tz Ps p Q) (hp : p ≤ Ps.length) (hne : ∀ P ∈ Ps, P ≠ []) :
    ∃ k' n' z' starts', f_X4_moveDown k n z tz starts (nI (off Ps p)) (nI p) = some (k', n', z', starts') ∧ tmR k' n' z' starts' tz (one1 Q ++ Ps.drop p) := by
  obtain ⟨L, hcd, hlen, hq, htk, hdr, htz, h20, hs1, hs2⟩ := hm
  have h3 := hcd.2.1
  have hge := off_ge hne p hp
  have hle := off_le Ps p
  have hTl : ((Ps.drop p).flatten).length = L.length - off Ps p := by rw [← hdr, List.length_drop]
  obtain ⟨k', n', L', e, g1, g2, g3⟩ := p_moveB7 (z := z) (tz := tz) (starts := starts) (R := none) (gap := off Ps p - p) (p := p) (T := (Ps.drop p).flatten) (L.length - off Ps p) FU (off Ps p) k n L Q (by unfold FU; omega) hcd (by omega) (by omega)
    (by rw [show off Ps p - (off Ps p - p) = p by omega]; exact htk) (by rw [hTl, Nat.sub_self, List.drop_zero]; exact hdr) (by omega)
  rw [hTl, Nat.sub_self, List.drop_zero] at g3
  obtain ⟨c1, c2⟩ := p_cutTo g1 (m := L.length - (off Ps p - p)) (by omega)
  have hz : z = nI L.length := hcd.1
  have hcut : f_X0_cutTo z (z - nI (off Ps p - p)) = some (nI (L.length - (off Ps p - p))) := by
    rw [hz, pk_sub (by omega), ← hz]; exact c1
  obtain ⟨st', e2, s1, s2⟩ := p_moveB41 (k := k') (n := n') (m := Ps.length) h20 hcut (Ps.length - p) FU p starts (by unfold FU; omega) (by omega)
  refine ⟨k', n', nI (L.length - (off Ps p - p)), st', ?_, ?_, ?_, ?_, ?_⟩
  · unfold f_X4_moveDown
    rw [pk_sub hge, e, htz]
    exact e2
  · rw [g3] at c2
    rw [List.flatten_append, one1_flat]
    exact c2
  · rw [htz, List.length_append, one1_len, hq, List.length_drop]
    congr 1; omega
  · rw [List.length_append, one1_len, hq, List.length_drop]; omega
  · intro i hi
    rw [List.length_append, one1_len, hq, List.length_drop] at hi
    by_cases h : i < p
    · rw [s1 i h, hs1 i h, off_one1 _ _ _ (by omega)]
    · have hoi : off Ps p ≤ off Ps i := by
        unfold off
        have h1 : Ps.take i = Ps.take p ++ (Ps.drop p).take (i - p) := by
          have h2 := (List.take_append_drop p (Ps.take i)).symm
          rw [List.take_take, Nat.min_eq_left (by omega)] at h2
          rw [List.take_drop, show p + (i - p) = i by omega]
          exact h2
        rw [h1, List.flatten_append, List.length_append]; exact Nat.le_add_right _ _
      have ho := off_one1' Ps Q p i hq (by omega)
      rw [s2 i (by omega) (by omega), hs2 i (by omega) (by omega), pk_sub (by omega)]
      congr 1; omega
/-- what the spec asks of the pile's terms: none is empty, a number or a temporary is one cell -/
def okP (P : List Cl) : Prop := P ≠ [] ∧ (isS P → ∃ c, P = [c])
theorem p_putB8 {z : Int32} {tz : Int32} {Ps : List (List Cl)} {p t0 : Nat} {Ls : List Ln} (hp : p ≤ Ps.length) (hok : ∀ P ∈ Ps, okP P) (hc1 : (po Ls (Ps.take p) t0).1.length ≤ 100) (hc2 : (fl (po Ls (Ps.take p) t0).1).length ≤ 300) :
    ∀ (d fu j : Nat) (k n K N : Nat → Int32) (Z : Int32) (starts ends : Nat → Int32) (lz t : Int32), d < fu → j + d = p → midR k n z starts tz Ps j (po Ls (Ps.take j) t0).2.1 → lnR K N Z ends lz (po Ls (Ps.take j) t0).1 → t = nI (po Ls (Ps.take j) t0).2.2 →
    ∃ k' n' z' K' N' Z' ends' lz' starts' t', f_X4_putOutBelow_B8 fu k n z K N Z ends lz tz starts t (nI p) (nI (off Ps p)) (nI j) = some (k', n', z', K', N', Z', ends', lz', starts', t') ∧ tmR k' n' z' starts' tz (one1 (po Ls (Ps.take p) t0).2.1 ++ Ps.drop p) ∧ lnR K' N' Z' ends' lz' (po Ls (Ps.take p) t0).1 ∧ t' = nI (po Ls (Ps.take p) t0).2.2 := by
  have hne : ∀ P ∈ Ps, P ≠ [] := fun P h => (hok P h).1
  intro d
  induction d with
  | zero =>
    intro fu j k n K N Z starts ends lz t hf hj hm hl ht
    obtain ⟨f, rfl⟩ : ∃ f, fu = f + 1 := ⟨fu - 1, by omega⟩
    have hjp : j = p := by omega
    subst hjp
    have h20 : Ps.length ≤ 20 := by obtain ⟨L, _, _, _, _, _, _, h, _⟩ := hm; exact h
    obtain ⟨k', n', z', st', e, g⟩ := p_moveDown hm hp hne
    refine ⟨k', n', z', K, N, Z, ends, lz, st', t, ?_, g, hl, ht⟩
    rw [f_X4_putOutBelow_B8, if_pos (nI_le (Nat.le_refl _) (by omega)), e]
    rfl
  | succ d ih =>
    intro fu j k n K N Z starts ends lz t hf hj hm hl ht
    obtain ⟨f, rfl⟩ : ∃ f, fu = f + 1 := ⟨fu - 1, by omega⟩
    have h20 : Ps.length ≤ 20 := by obtain ⟨L, _, _, _, _, _, _, h, _⟩ := hm; exact h
    have hg : Ps[j]? = some Ps[j] := List.getElem?_eq_getElem (by omega)
    have hps := po_succ (Ls := Ls) (t := t0) hg
    obtain ⟨x, hx⟩ := po_mono Ls t0 (Ps.take p) (j + 1) d (by rw [List.length_take]; omega)
    rw [List.take_take, List.take_take, show min (j + 1 + d) p = p by omega, show min (j + 1) p = j + 1 by omega] at hx
    rw [hx] at hc1 hc2
    rw [List.length_append] at hc1
    rw [fl_app, List.length_append] at hc2
    obtain ⟨k1, n1, K1, N1, Z1, ends1, lz1, st1, t1, e1, m1, l1, q1⟩ := p_putOut (t := (po Ls (Ps.take j) t0).2.2) hm hl hg hne (hok _ (List.mem_of_getElem? hg)).2 rfl (by rw [← hps]; omega) (by rw [← hps]; omega)
    rw [← hps] at m1 l1 q1
    obtain ⟨k', n', z', K', N', Z', ends', lz', st', t', e2, g1, g2, g3⟩ := ih f (j + 1) k1 n1 K1 N1 Z1 st1 ends1 lz1 t1 (by omega) (by omega) m1 l1 q1
    refine ⟨k', n', z', K', N', Z', ends', lz', st', t', ?_, g1, g2, g3⟩
    rw [f_X4_putOutBelow_B8, if_neg (nI_ge (by omega) (by omega)), ht, e1]
    show f_X4_putOutBelow_B8 f k1 n1 z K1 N1 Z1 ends1 lz1 tz st1 t1 (nI p) (nI (off Ps p)) (nI j + 1) = _
    rw [nI_1]
    exact e2
theorem p_putOutBelow {k n K N : Nat → Int32} {z Z : Int32} {starts ends : Nat → Int32} {tz lz : Int32} {Ps : List (List Cl)} {p t : Nat} {Ls : List Ln} (hT : tmR k n z starts tz Ps) (hl : lnR K N Z ends lz Ls) (hp : p ≤ Ps.length) (hok : ∀ P ∈ Ps, okP P) (hc1 : (po Ls (Ps.take p) t).1.length ≤ 100) (hc2 : (fl (po Ls (Ps.take p) t).1).length ≤ 300) :
    ∃ k' n' z' K' N' Z' ends' lz' starts' t', f_X4_putOutBelow k n z K N Z ends lz tz starts (nI t) (nI p) = some (k', n', z', K', N', Z', ends', lz', starts', t') ∧ tmR k' n' z' starts' tz (one1 (po Ls (Ps.take p) t).2.1 ++ Ps.drop p) ∧ lnR K' N' Z' ends' lz' (po Ls (Ps.take p) t).1 ∧ t' = nI (po Ls (Ps.take p) t).2.2 := by
  obtain ⟨hcd, htz, h20, hs⟩ := hT
  have hm : midR k n z starts tz Ps 0 [] := ⟨Ps.flatten, hcd, rfl, rfl, rfl, by rw [off_zero, List.drop_zero, List.drop_zero], htz, h20, fun i h => by omega, fun i _ h => hs i h⟩
  obtain ⟨k', n', z', K', N', Z', ends', lz', st', t', e, g⟩ := p_putB8 hp hok hc1 hc2 p FU 0 k n K N Z starts ends lz (nI t) (by unfold FU; omega) (by omega) hm hl rfl
  refine ⟨k', n', z', K', N', Z', ends', lz', st', t', ?_, g⟩
  unfold f_X4_putOutBelow
  rw [p_startOf (x := off Ps p) hcd.1 htz h20 hp ⟨fun h => hs p h, fun h => by rw [h, off_all]⟩, Option.bind_some]
  rw [nI_0] at e
  exact e
