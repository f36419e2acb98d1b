/-! PURE PART 7: the reference's table of terms, read as postfix cells -/
def kc (s : Int32) : Int32 := if s = 0 then 0 else if s = 1 then 1 else if s = 2 then 11 else if s = 3 then 4 else if s = 4 then 5 else 10
def ar (sort what : Nat → Int32) (t : Nat) : Nat := if sort t = 3 then 2 else if sort t = 4 then 1 else if sort t = 5 then (what t).toNatClampNeg else 0
/-- the cells of term t, with fuel -/
def mpN (sort what part : Nat → Int32) : Nat → Nat → List Cl
  | 0, _ => []
  | f + 1, t => ((List.range (ar sort what t)).map (fun i => mpN sort what part f (part (3 * t + i)).toNatClampNeg)).flatten ++ [(kc (sort t), what t)]
def mp (sort what part : Nat → Int32) (t : Nat) : List Cl := mpN sort what part (t + 1) t
/-- the table's first T terms are well made: parts come ahead of what takes them -/
def wfN (sort what part : Nat → Int32) (T : Nat) : Prop := ∀ t : Nat, t < T → ar sort what t ≤ 3 ∧ (∃ s : Nat, s ≤ 5 ∧ sort t = nI s) ∧ ∀ i : Nat, i < ar sort what t → ∃ p : Nat, p < t ∧ part (3 * t + i) = nI p
theorem map_range_congr {α : Type} {f g : Nat → α} {n : Nat} (h : ∀ i, i < n → f i = g i) : (List.range n).map f = (List.range n).map g := List.map_congr_left (fun i hi => h i (List.mem_range.mp hi))
theorem mpN_st {sort what part : Nat → Int32} {T : Nat} (hT : T ≤ 3000) (h : wfN sort what part T) : ∀ (f g t : Nat), t < T → t < f → t < g → mpN sort what part f t = mpN sort what part g t := by
  intro f
  induction f with
  | zero => intro g t _ h1; omega
  | succ f ih =>
    intro g t ht h1 h2
    obtain ⟨g, rfl⟩ : ∃ g', g = g' + 1 := ⟨g - 1, by omega⟩
    obtain ⟨-, -, hp⟩ := h t ht
    rw [mpN, mpN]
    congr 2
    refine map_range_congr (fun i hi => ?_)
    obtain ⟨p, hpt, hpe⟩ := hp i hi
    rw [hpe, nI_clamp (by omega)]
    exact ih g p (by omega) (by omega) (by omega)
theorem mp_eq {sort what part : Nat → Int32} {T t : Nat} (hT : T ≤ 3000) (h : wfN sort what part T) (ht : t < T) : mp sort what part t = ((List.range (ar sort what t)).map (fun i => mp sort what part (part (3 * t + i)).toNatClampNeg)).flatten ++ [(kc (sort t), what t)] := by
  obtain ⟨-, -, hp⟩ := h t ht
  unfold mp
  rw [mpN]
  congr 2
  refine map_range_congr (fun i hi => ?_)
  obtain ⟨p, hpt, hpe⟩ := hp i hi
  rw [hpe, nI_clamp (by omega)]
  exact mpN_st hT h t (p + 1) p (by omega) hpt (by omega)
/-- a longer table has the same terms -/
theorem mpN_ext {sort what part sort' what' part' : Nat → Int32} {T : Nat} (hT : T ≤ 3000) (h : wfN sort what part T) (h1 : ∀ t, t < T → sort' t = sort t) (h2 : ∀ t, t < T → what' t = what t) (h3 : ∀ i, i < 3 * T → part' i = part i) : ∀ (f t : Nat), t < T → mpN sort' what' part' f t = mpN sort what part f t := by
  intro f
  induction f with
  | zero => intro t _; rfl
  | succ f ih =>
    intro t ht
    obtain ⟨h0, -, hp⟩ := h t ht
    have ha : ar sort' what' t = ar sort what t := by unfold ar; rw [h1 t ht, h2 t ht]
    rw [mpN, mpN, ha, h1 t ht, h2 t ht]
    congr 2
    refine map_range_congr (fun i hi => ?_)
    obtain ⟨p, hpt, hpe⟩ := hp i hi
    rw [h3 (3 * t + i) (by omega), hpe, nI_clamp (by omega)]
    exact ih p (by omega)
theorem mp_ext {sort what part sort' what' part' : Nat → Int32} {T t : Nat} (hT : T ≤ 3000) (h : wfN sort what part T) (h1 : ∀ t, t < T → sort' t = sort t) (h2 : ∀ t, t < T → what' t = what t) (h3 : ∀ i, i < 3 * T → part' i = part i) (ht : t < T) : mp sort' what' part' t = mp sort what part t := mpN_ext hT h h1 h2 h3 (t + 1) t ht
theorem wfN_ext {sort what part sort' what' part' : Nat → Int32} {T : Nat} (h : wfN sort what part T) (h1 : ∀ t, t < T → sort' t = sort t) (h2 : ∀ t, t < T → what' t = what t) (h3 : ∀ i, i < 3 * T → part' i = part i) : wfN sort' what' part' T := by
  intro t ht
  obtain ⟨g1, g2, g3⟩ := h t ht
  have ha : ar sort' what' t = ar sort what t := by unfold ar; rw [h1 t ht, h2 t ht]
  rw [ha]
  refine ⟨g1, by rw [h1 t ht]; exact g2, fun i hi => ?_⟩
  obtain ⟨p, hp, he⟩ := g3 i hi
  exact ⟨p, hp, by rw [h3 (3 * t + i) (by omega)]; exact he⟩
theorem mp_last {sort what part : Nat → Int32} {T t : Nat} (hT : T ≤ 3000) (h : wfN sort what part T) (ht : t < T) : lastK (mp sort what part t) = kc (sort t) ∧ mp sort what part t ≠ [] := by
  rw [mp_eq hT h ht]
  refine ⟨?_, by simp⟩
  unfold lastK
  rw [List.getLast?_concat]
  rfl
theorem kc_s {s : Nat} (hs : s ≤ 5) : (kc (nI s) = 0 ↔ nI s = 0) ∧ (kc (nI s) = 11 ↔ nI s = 2) := by
  have : ∀ s : Fin 6, (kc (nI s.val) = 0 ↔ nI s.val = 0) ∧ (kc (nI s.val) = 11 ↔ nI s.val = 2) := by decide
  exact this ⟨s, by omega⟩
theorem ar0 {sort what : Nat → Int32} {t : Nat} (h : sort t = 0 ∨ sort t = 1 ∨ sort t = 2) : ar sort what t = 0 := by
  unfold ar
  rcases h with h | h | h <;> rw [h, if_neg (by decide), if_neg (by decide), if_neg (by decide)]
/-- a number or a temporary is one cell -/
theorem mp_okP {sort what part : Nat → Int32} {T t : Nat} (hT : T ≤ 3000) (h : wfN sort what part T) (ht : t < T) : okP (mp sort what part t) := by
  obtain ⟨h1, h2⟩ := mp_last hT h ht
  refine ⟨h2, fun hs => ?_⟩
  obtain ⟨-, ⟨s, hs5, he⟩, -⟩ := h t ht
  have hk := kc_s hs5
  unfold isS at hs
  rw [h1, he] at hs
  have hz : sort t = 0 ∨ sort t = 1 ∨ sort t = 2 := by
    rw [he]
    rcases hs with hs | hs
    · exact Or.inl (hk.1.mp hs)
    · exact Or.inr (Or.inr (hk.2.mp hs))
  rw [mp_eq hT h ht, ar0 hz]
  exact ⟨_, rfl⟩
/-- a term is made -/
def newP (part : Nat → Int32) (T : Nat) (a b c : Int32) : Nat → Int32 := upd (upd (upd part (3 * T) a) (3 * T + 1) b) (3 * T + 2) c
theorem m_made {part sort what : Nat → Int32} {T : Nat} (hT : T < 3000) (s w a b c : Int32) : f_X6_made part sort (nI T) what s w a b c = some (nI T, (newP part T a b c, upd sort T s, nI (T + 1), upd what T w)) := by
  unfold f_X6_made
  have e3 : (3 : Int32) * nI T = nI (3 * T) := pk_mul 3 T
  have e4 : nI (3 * T) + 1 = nI (3 * T + 1) := nI_1 _
  have e5 : nI (3 * T) + 2 = nI (3 * T + 2) := nI_add (3 * T) 2
  rw [e3, e4, e5, ixd_of (vp_in_nI hT (by omega)), ixd_of (vp_in_nI hT (by omega)), ixd_of (vp_in_nI (by omega) (by omega)), ixd_of (vp_in_nI (by omega) (by omega)), ixd_of (vp_in_nI (by omega) (by omega)), nI_clamp (by omega), nI_clamp (by omega), nI_clamp (by omega), nI_clamp (by omega), nI_1, nI_pred]
  rfl
theorem newP_lo {part : Nat → Int32} {T : Nat} {a b c : Int32} {i : Nat} (h : i < 3 * T) : newP part T a b c i = part i := by
  unfold newP
  rw [pk_un (by omega), pk_un (by omega), pk_un (by omega)]
theorem newP_0 {part : Nat → Int32} {T : Nat} {a b c : Int32} : newP part T a b c (3 * T + 0) = a := by
  unfold newP
  rw [pk_un (by omega), pk_un (by omega), Nat.add_zero, pk_us]
theorem newP_1 {part : Nat → Int32} {T : Nat} {a b c : Int32} : newP part T a b c (3 * T + 1) = b := by
  unfold newP
  rw [pk_un (by omega), pk_us]
theorem newP_2 {part : Nat → Int32} {T : Nat} {a b c : Int32} : newP part T a b c (3 * T + 2) = c := pk_us
