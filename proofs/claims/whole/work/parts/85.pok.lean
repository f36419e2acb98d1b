/-! PURE PART 16: which cells lines and terms have; heights of a pile that works them -/
def numR (n : Int32) : Prop := (∃ m : Nat, m < 128 ∧ n = nI m) ∨ ∃ m : Nat, 1 ≤ m ∧ m ≤ 128 ∧ n = -nI m
def okC (c : Cl) : Prop := (c.1 = 0 ∧ numR c.2) ∨ (c.1 = 1 ∧ ∃ v : Nat, v < 10 ∧ c.2 = nI v) ∨ (c.1 = 4 ∧ ∃ o : Nat, o < 8 ∧ c.2 = nI o) ∨ (c.1 = 5 ∧ c.2 = 0) ∨ (c.1 = 10 ∧ ∃ x : Nat, x ≤ 3 ∧ c.2 = nI x) ∨ (c.1 = 11 ∧ ∃ j : Nat, j < 100 ∧ c.2 = nI j)
def okE (c : Cl) : Prop := (c.1 = 12 ∧ ∃ j : Nat, j < 100 ∧ c.2 = nI j) ∨ (c.1 = 2 ∧ ∃ v : Nat, v < 10 ∧ c.2 = nI v) ∨ (c.1 = 3 ∧ ∃ g : Nat, g < 2560 ∧ c.2 = nI g) ∨ (c.1 = 6 ∧ c.2 = 0)
theorem numR_of {n : Int32} (h : rng 0 n) : numR n := by
  obtain ⟨h1, h2⟩ := h
  by_cases h0 : n < 0
  · right
    have e1 : ¬ n.toInt < -128 := fun z => h1 (Int32.lt_iff_toInt_lt.mpr z)
    have e0 : n.toInt < 0 := Int32.lt_iff_toInt_lt.mp h0
    refine ⟨(-n.toInt).toNat, by omega, by omega, ?_⟩
    apply Int32.toInt_inj.mp
    rw [Int32.toInt_neg, nI_toInt (by omega)]
    rw [Int.toNat_of_nonneg (by omega), Int.neg_neg, Int.bmod_eq_of_le (by omega) (by omega)]
  · left
    obtain ⟨j, hj, e⟩ := nI_of2 (M := 127) (n := 127) rfl h0 (Int32.not_lt.mp h2)
    exact ⟨j, by omega, e⟩
theorem rng_le {κ M : Nat} {n : Int32} (h : rng κ n) (hv : vL κ = 0) (hM : vM κ = nI M) (hM2 : M < 2 ^ 31) : ∃ j : Nat, j ≤ M ∧ n = nI j := by
  obtain ⟨h1, h2⟩ := h
  rw [hv] at h1
  rw [hM] at h2
  exact nI_of2 (M := nI M) (nI_toInt hM2) h1 (Int32.not_lt.mp h2)
theorem okC_of {κ : Nat} {n : Int32} (hk : κ = 0 ∨ κ = 1 ∨ κ = 4 ∨ κ = 5 ∨ κ = 10) (h : rng κ n) : okC (nI κ, n) := by
  rcases hk with rfl | rfl | rfl | rfl | rfl
  · exact Or.inl ⟨rfl, numR_of h⟩
  · obtain ⟨j, hj, e⟩ := rng_le (M := 9) h rfl rfl (by omega)
    exact Or.inr (Or.inl ⟨rfl, j, by omega, e⟩)
  · obtain ⟨j, hj, e⟩ := rng_le (M := 7) h rfl rfl (by omega)
    exact Or.inr (Or.inr (Or.inl ⟨rfl, j, by omega, e⟩))
  · exact Or.inr (Or.inr (Or.inr (Or.inl ⟨rfl, (rng_okN (by omega) h).2 (by omega) (by omega)⟩)))
  · obtain ⟨j, hj, e⟩ := rng_le (M := 3) h rfl rfl (by omega)
    exact Or.inr (Or.inr (Or.inr (Or.inr (Or.inl ⟨rfl, j, by omega, e⟩))))
theorem okE_of {κ : Nat} {n : Int32} (hk : κ = 2 ∨ κ = 3 ∨ κ = 6) (h : rng κ n) : okE (nI κ, n) := by
  rcases hk with rfl | rfl | rfl
  · obtain ⟨j, hj, e⟩ := rng_le (M := 9) h rfl rfl (by omega)
    exact Or.inr (Or.inl ⟨rfl, j, by omega, e⟩)
  · obtain ⟨j, hj, e⟩ := rng_le (M := 2559) h rfl rfl (by omega)
    exact Or.inr (Or.inr (Or.inl ⟨rfl, j, by omega, e⟩))
  · exact Or.inr (Or.inr (Or.inr ⟨rfl, (rng_okN (by omega) h).2 (by omega) (by omega)⟩))
def hs1 (c : Cl) (h : Nat) : Option Nat :=
  if c.1 = 4 then (if 2 ≤ h then some (h - 1) else none) else if c.1 = 5 then (if 1 ≤ h then some h else none)
  else if c.1 = 10 then (if c.2.toNatClampNeg ≤ h ∧ h - c.2.toNatClampNeg < 20 then some (h - c.2.toNatClampNeg + 1) else none)
  else if h < 20 then some (h + 1) else none
def hs : List Cl → Nat → Option Nat
  | [], h => some h
  | c :: r, h => (hs1 c h).bind (hs r)
theorem hs_app (a b : List Cl) : ∀ h : Nat, hs (a ++ b) h = (hs a h).bind (hs b) := by
  induction a with
  | nil => intro h; rfl
  | cons c r ih =>
    intro h
    show (hs1 c h).bind (hs (r ++ b)) = ((hs1 c h).bind (hs r)).bind (hs b)
    cases hs1 c h with
    | none => rfl
    | some x => exact ih x
theorem hs_one (c : Cl) (h : Nat) : hs [c] h = hs1 c h := by
  show (hs1 c h).bind (hs []) = _
  cases hs1 c h with
  | none => rfl
  | some x => rfl
theorem hs_leaf {c : Cl} {h : Nat} (hc : c.1 = 0 ∨ c.1 = 1 ∨ c.1 = 11) (hh : h < 20) : hs [c] h = some (h + 1) := by
  rw [hs_one]
  unfold hs1
  rcases hc with e | e | e <;> rw [e, if_neg (by decide), if_neg (by decide), if_neg (by decide), if_pos hh]
/-- a row of terms, each at its place -/
theorem hs_flat : ∀ (Ps : List (List Cl)) (k : Nat), (∀ (i : Nat) (P : List Cl), Ps[i]? = some P → hs P (k + i) = some (k + i + 1)) → hs Ps.flatten k = some (k + Ps.length) := by
  intro Ps
  induction Ps with
  | nil => intro k _; rfl
  | cons P r ih =>
    intro k h
    rw [List.flatten_cons, hs_app, show hs P k = some (k + 1) from h 0 P rfl, Option.bind_some, ih (k + 1) (fun i Q hQ => by have := h (i + 1) Q hQ; rw [show k + (i + 1) = k + 1 + i by omega] at this; exact this), List.length_cons, show k + 1 + r.length = k + (r.length + 1) by omega]
def lnK (n : Nat) (q : Ln) : Prop := (∀ c ∈ q.1, okC c) ∧ okE q.2 ∧ q.1.length ≤ n ∧ (q.2.1 = 3 ∧ q.1 = [] ∨ ∃ k : Nat, hs q.1 k = some (k + 1))
def okS (S : Sp) (n : Nat) : Prop := (∀ P ∈ S.2.1, ∀ c ∈ P, okC c) ∧ (∀ q ∈ S.1, lnK n q) ∧ ∀ (k : Nat) (P : List Cl), S.2.1[k]? = some P → hs P k = some (k + 1)
theorem lnK_up {n : Nat} {q : Ln} (h : lnK n q) : lnK (n + 1) q := ⟨h.1, h.2.1, by have := h.2.2.1; omega, h.2.2.2⟩
theorem po_ok (n : Nat) : ∀ (Ps : List (List Cl)) (a : List Ln × List Cl × Nat), (∀ P ∈ Ps, okP P ∧ (∀ c ∈ P, okC c) ∧ P.length ≤ n ∧ ∃ k : Nat, hs P k = some (k + 1)) → (∀ q ∈ a.1, lnK n q) → (∀ c ∈ a.2.1, okC c ∧ (c.1 = 0 ∨ c.1 = 11)) → (Ps.foldl poF a).2.2 ≤ 100 →
    (∀ q ∈ (Ps.foldl poF a).1, lnK n q) ∧ ∀ c ∈ (Ps.foldl poF a).2.1, okC c ∧ (c.1 = 0 ∨ c.1 = 11) := by
  intro Ps
  induction Ps with
  | nil => intro a _ h1 h2 _; exact ⟨h1, h2⟩
  | cons P Ps ih =>
    intro a hok h1 h2 h100
    obtain ⟨o1, o2, o3, o4⟩ := hok P List.mem_cons_self
    have hok' := fun P' h => hok P' (List.mem_cons_of_mem P h)
    have hmono : ∀ (Ps : List (List Cl)) (a : List Ln × List Cl × Nat), a.2.2 ≤ (Ps.foldl poF a).2.2 := by
      intro Ps
      induction Ps with
      | nil => intro a; exact Nat.le_refl _
      | cons P Ps ih =>
        intro a
        refine Nat.le_trans ?_ (ih (poF a P))
        unfold poF
        split
        · exact Nat.le_refl _
        · exact Nat.le_succ _
    show (∀ q ∈ (Ps.foldl poF (poF a P)).1, lnK n q) ∧ ∀ c ∈ (Ps.foldl poF (poF a P)).2.1, _
    by_cases hS : lastK P = 0 ∨ lastK P = 11
    · obtain ⟨c, rfl⟩ := o1.2 hS
      have hpo : poF a [c] = (a.1, a.2.1 ++ [c], a.2.2) := by unfold poF; rw [if_pos hS]; rfl
      have h100' : (Ps.foldl poF (poF a [c])).2.2 ≤ 100 := h100
      rw [hpo] at h100' ⊢
      refine ih _ hok' h1 ?_ h100'
      intro d hd
      rcases List.mem_append.mp hd with hd | hd
      · exact h2 d hd
      · rw [List.mem_singleton.mp hd]; exact ⟨o2 c List.mem_cons_self, hS⟩
    · have hpo : poF a P = (a.1 ++ [(P, (12, nI a.2.2))], a.2.1 ++ [(11, nI a.2.2)], a.2.2 + 1) := by unfold poF; rw [if_neg hS]
      have h100' : (Ps.foldl poF (poF a P)).2.2 ≤ 100 := h100
      rw [hpo] at h100' ⊢
      have hlt : a.2.2 + 1 ≤ 100 := Nat.le_trans (hmono Ps (a.1 ++ [(P, (12, nI a.2.2))], a.2.1 ++ [(11, nI a.2.2)], a.2.2 + 1)) h100'
      refine ih _ hok' ?_ ?_ h100'
      · intro q hq
        rcases List.mem_append.mp hq with hq | hq
        · exact h1 q hq
        · rw [List.mem_singleton.mp hq]
          exact ⟨o2, Or.inl ⟨rfl, a.2.2, by omega, rfl⟩, o3, Or.inr o4⟩
      · intro d hd
        rcases List.mem_append.mp hd with hd | hd
        · exact h2 d hd
        · rw [List.mem_singleton.mp hd]
          exact ⟨Or.inr (Or.inr (Or.inr (Or.inr (Or.inr ⟨rfl, a.2.2, by omega, rfl⟩)))), Or.inr rfl⟩
theorem len_le_flat {Ps : List (List Cl)} {P : List Cl} (h : P ∈ Ps) : P.length ≤ Ps.flatten.length := by
  obtain ⟨a, b, rfl⟩ := List.append_of_mem h
  rw [List.flatten_append, List.flatten_cons, List.length_append, List.length_append]
  omega
theorem one1_hs {Q : List Cl} (hQ : ∀ c ∈ Q, okC c ∧ (c.1 = 0 ∨ c.1 = 11)) (hl : Q.length ≤ 20) : ∀ (k : Nat) (P : List Cl), (one1 Q)[k]? = some P → hs P k = some (k + 1) := by
  intro k P hk
  have hlt := lt_of_get hk
  rw [one1_len] at hlt
  have hg : Q[k]? = some Q[k] := List.getElem?_eq_getElem hlt
  rw [one1_get hg] at hk
  cases hk
  exact hs_leaf (by rcases (hQ _ (List.getElem_mem hlt)).2 with e | e <;> simp [e]) (by omega)
theorem one1_okC {Q : List Cl} (hQ : ∀ c ∈ Q, okC c ∧ (c.1 = 0 ∨ c.1 = 11)) : ∀ P ∈ one1 Q, ∀ c ∈ P, okC c := by
  intro P hP c hc
  obtain ⟨d, hd, rfl⟩ := List.mem_map.mp hP
  rw [List.mem_singleton.mp hc]
  exact (hQ d hd).1
