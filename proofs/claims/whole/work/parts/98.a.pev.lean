/-! PURE PART 29: what running cells does, for both sides -/
abbrev St : Type := (Nat → Int64) × (Nat → Int64) × List Int64 × Nat
def opV (o : Nat) (x y : Int64) : Int64 := if o = 0 then x + y else if o = 1 then x - y else if o = 2 then x * y else if o = 3 then x &&& y else if o = 4 then x ||| y else if o = 5 then x ^^^ y else if o = 6 then x / y else x - x / y * y
def clV (n : Nat) (x y z : Int64) : Int64 := ((31 * (nI n).toInt64 + x) + 3 * y) + 9 * z
/-- one cell is run: whether it goes well, and the state behind it -/
def evC (c : Cl) (s : St) : Bool × St :=
  if c.1 = 0 then (true, (s.1, s.2.1, c.2.toInt64 :: s.2.2.1, s.2.2.2))
  else if c.1 = 1 then (true, (s.1, s.2.1, s.1 c.2.toNatClampNeg :: s.2.2.1, s.2.2.2))
  else if c.1 = 2 then match s.2.2.1 with
    | v :: r => (true, (vp_updL s.1 c.2.toNatClampNeg v, s.2.1, r, s.2.2.2))
    | [] => (false, s)
  else if c.1 = 3 then (true, (vp_updL s.1 (c.2 / 256).toNatClampNeg (s.1 (c.2 / 256).toNatClampNeg + (c.2 - c.2 / 256 * 256 - 128).toInt64), s.2.1, s.2.2.1, s.2.2.2))
  else if c.1 = 4 then match s.2.2.1 with
    | y :: x :: r => if 6 ≤ c.2.toNatClampNeg ∧ y = 0 then (false, (s.1, s.2.1, [], s.2.2.2)) else (true, (s.1, s.2.1, opV c.2.toNatClampNeg x y :: r, s.2.2.2))
    | _ => (false, s)
  else if c.1 = 5 then match s.2.2.1 with
    | v :: r => (true, (s.1, s.2.1, -v :: r, s.2.2.2))
    | [] => (false, s)
  else if c.1 = 6 then match s.2.2.1 with
    | _ :: r => (true, (s.1, s.2.1, r, s.2.2.2))
    | [] => (false, s)
  else if c.1 = 7 then match s.2.2.1 with
    | v :: r => (true, (s.1, s.2.1, v :: v :: r, s.2.2.2))
    | [] => (false, s)
  else if c.1 = 8 then match s.2.2.1 with
    | y :: x :: r => (true, (s.1, s.2.1, x :: y :: r, s.2.2.2))
    | _ => (false, s)
  else if c.1 = 9 then match s.2.2.1 with
    | y :: x :: r => (true, (s.1, s.2.1, y :: x :: y :: r, s.2.2.2))
    | _ => (false, s)
  else if c.1 = 10 then (if c.2 = 0 then (true, (s.1, s.2.1, clV (s.2.2.2 + 1) 0 0 0 :: s.2.2.1, s.2.2.2 + 1))
    else if c.2 = 1 then match s.2.2.1 with
      | x :: r => (true, (s.1, s.2.1, clV (s.2.2.2 + 1) x 0 0 :: r, s.2.2.2 + 1))
      | _ => (false, s)
    else if c.2 = 2 then match s.2.2.1 with
      | y :: x :: r => (true, (s.1, s.2.1, clV (s.2.2.2 + 1) x y 0 :: r, s.2.2.2 + 1))
      | _ => (false, s)
    else match s.2.2.1 with
      | z :: y :: x :: r => (true, (s.1, s.2.1, clV (s.2.2.2 + 1) x y z :: r, s.2.2.2 + 1))
      | _ => (false, s))
  else if c.1 = 11 then (true, (s.1, s.2.1, s.2.1 c.2.toNatClampNeg :: s.2.2.1, s.2.2.2))
  else match s.2.2.1 with
    | v :: r => (true, (s.1, vp_updL s.2.1 c.2.toNatClampNeg v, r, s.2.2.2))
    | [] => (false, s)
def evL : List Cl → St → Bool × St
  | [], s => (true, s)
  | c :: r, s => if (evC c s).1 = true then evL r (evC c s).2 else (false, (evC c s).2)
theorem evL_app (a b : List Cl) : ∀ s : St, evL (a ++ b) s = if (evL a s).1 = true then evL b (evL a s).2 else evL a s := by
  induction a with
  | nil => intro s; rfl
  | cons c r ih =>
    intro s
    show (if (evC c s).1 = true then evL (r ++ b) (evC c s).2 else (false, (evC c s).2)) = if (if (evC c s).1 = true then evL r (evC c s).2 else (false, (evC c s).2)).1 = true then evL b (if (evC c s).1 = true then evL r (evC c s).2 else (false, (evC c s).2)).2 else (if (evC c s).1 = true then evL r (evC c s).2 else (false, (evC c s).2))
    by_cases h : (evC c s).1 = true
    · rw [if_pos h, if_pos h]; exact ih _
    · rw [if_neg h, if_neg h, if_neg (show ¬ (false, (evC c s).2).1 = true from Bool.false_ne_true)]
theorem evL_one (c : Cl) (s : St) : evL [c] s = evC c s := by
  show (if (evC c s).1 = true then evL [] (evC c s).2 else (false, (evC c s).2)) = _
  by_cases h : (evC c s).1 = true
  · rw [if_pos h]
    show (true, (evC c s).2) = _
    rw [← h]
  · rw [if_neg h]
    have : (evC c s).1 = false := by cases hb : (evC c s).1 with
      | true => exact absurd hb h
      | false => rfl
    rw [← this]
/-- how many values a cell takes and puts, which all cells a run may have -/
def tkC (c : Cl) : Nat := if c.1 = 10 then c.2.toNatClampNeg else ([0, 0, 1, 0, 2, 1, 1, 1, 2, 2, 0, 0, 1] : List Nat).getD c.1.toNatClampNeg 0
def ptC (c : Cl) : Nat := ([1, 1, 0, 0, 1, 1, 0, 2, 2, 3, 1, 1, 0] : List Nat).getD c.1.toNatClampNeg 0
def okK (c : Cl) : Prop := okC c ∨ okE c ∨ c.1 = 7 ∨ c.1 = 8 ∨ c.1 = 9
def hA (c : Cl) (h : Nat) : Option Nat := if tkC c ≤ h ∧ h - tkC c + ptC c ≤ 20 then some (h - tkC c + ptC c) else none
def hAL : List Cl → Nat → Option Nat
  | [], h => some h
  | c :: r, h => (hA c h).bind (hAL r)
theorem hAL_app (a b : List Cl) : ∀ h : Nat, hAL (a ++ b) h = (hAL a h).bind (hAL b) := by
  induction a with
  | nil => intro h; rfl
  | cons c r ih =>
    intro h
    show (hA c h).bind (hAL (r ++ b)) = ((hA c h).bind (hAL r)).bind (hAL b)
    cases hA c h with
    | none => rfl
    | some x => exact ih x
theorem hA_of {c : Cl} {h : Nat} (h1 : tkC c ≤ h) (h2 : h - tkC c + ptC c ≤ 20) : hA c h = some (h - tkC c + ptC c) := if_pos ⟨h1, h2⟩
theorem hs_hA {c : Cl} {h h' : Nat} (hc : okC c) (hh : h ≤ 20) (e : hs1 c h = some h') : hA c h = some h' ∧ h' ≤ 20 := by
  obtain ⟨k, w⟩ := c
  rcases hc with ⟨hk, -⟩ | ⟨hk, -⟩ | ⟨hk, -⟩ | ⟨hk, -⟩ | ⟨hk, x, hx, hw⟩ | ⟨hk, -⟩
  all_goals
    have hk : k = _ := hk
    subst hk
  · unfold hs1 at e
    rw [if_neg (show ¬ (0 : Int32) = 4 by decide), if_neg (show ¬ (0 : Int32) = 5 by decide), if_neg (show ¬ (0 : Int32) = 10 by decide)] at e
    by_cases hlt : h < 20
    · rw [if_pos hlt] at e; cases e
      exact ⟨hA_of (Nat.zero_le h) hlt, hlt⟩
    · rw [if_neg hlt] at e; cases e
  · unfold hs1 at e
    rw [if_neg (show ¬ (1 : Int32) = 4 by decide), if_neg (show ¬ (1 : Int32) = 5 by decide), if_neg (show ¬ (1 : Int32) = 10 by decide)] at e
    by_cases hlt : h < 20
    · rw [if_pos hlt] at e; cases e
      exact ⟨hA_of (Nat.zero_le h) hlt, hlt⟩
    · rw [if_neg hlt] at e; cases e
  · rw [hs1_4] at e
    by_cases hlt : 2 ≤ h
    · rw [if_pos hlt] at e; cases e
      refine ⟨?_, by omega⟩
      have := hA_of (c := (4, w)) (h := h) hlt (by show h - 2 + 1 ≤ 20; omega)
      rw [this]
      show some (h - 2 + 1) = _
      rw [show h - 2 + 1 = h - 1 by omega]
    · rw [if_neg hlt] at e; cases e
  · rw [hs1_5] at e
    by_cases hlt : 1 ≤ h
    · rw [if_pos hlt] at e; cases e
      refine ⟨?_, hh⟩
      have := hA_of (c := (5, w)) (h := h) hlt (by show h - 1 + 1 ≤ 20; omega)
      rw [this]
      show some (h - 1 + 1) = _
      rw [show h - 1 + 1 = h by omega]
    · rw [if_neg hlt] at e; cases e
  · rw [hs1_10] at e
    by_cases hlt : w.toNatClampNeg ≤ h ∧ h - w.toNatClampNeg < 20
    · rw [if_pos hlt] at e; cases e
      exact ⟨hA_of (c := (10, w)) hlt.1 hlt.2, hlt.2⟩
    · rw [if_neg hlt] at e; cases e
  · unfold hs1 at e
    rw [if_neg (show ¬ (11 : Int32) = 4 by decide), if_neg (show ¬ (11 : Int32) = 5 by decide), if_neg (show ¬ (11 : Int32) = 10 by decide)] at e
    by_cases hlt : h < 20
    · rw [if_pos hlt] at e; cases e
      exact ⟨hA_of (Nat.zero_le h) hlt, hlt⟩
    · rw [if_neg hlt] at e; cases e
theorem hs_hAL : ∀ (P : List Cl) (h h' : Nat), (∀ c ∈ P, okC c) → h ≤ 20 → hs P h = some h' → hAL P h = some h' ∧ h' ≤ 20 := by
  intro P
  induction P with
  | nil => intro h h' _ hh e; cases e; exact ⟨rfl, hh⟩
  | cons c r ih =>
    intro h h' hc hh e
    have e' : (hs1 c h).bind (hs r) = some h' := e
    cases e1 : hs1 c h with
    | none => rw [e1] at e'; cases e'
    | some x =>
      rw [e1, Option.bind_some] at e'
      obtain ⟨g1, g2⟩ := hs_hA (hc c List.mem_cons_self) hh e1
      obtain ⟨g3, g4⟩ := ih x h' (fun d hd => hc d (List.mem_cons_of_mem _ hd)) g2 e'
      refine ⟨?_, g4⟩
      show (hA c h).bind (hAL r) = _
      rw [g1, Option.bind_some, g3]
/-- a row of values holds the pile, its top first in the list -/
def pl (p : Nat → Int64) : List Int64 → Prop
  | [] => True
  | v :: r => p r.length = v ∧ pl p r
theorem pl_upd {p : Nat → Int64} {x : Int64} : ∀ (l : List Int64) (k : Nat), l.length ≤ k → pl p l → pl (vp_updL p k x) l := by
  intro l
  induction l with
  | nil => intro k _ _; trivial
  | cons v r ih =>
    intro k hk h
    rw [List.length_cons] at hk
    exact ⟨by rw [pk_uLn (by omega)]; exact h.1, ih k (by omega) h.2⟩
theorem pl_push {p : Nat → Int64} {x : Int64} {l : List Int64} (h : pl p l) : pl (vp_updL p l.length x) (x :: l) := ⟨pk_uLs, pl_upd l l.length (Nat.le_refl _) h⟩
theorem pl_get {p q : Nat → Int64} : ∀ (l : List Int64), pl p l → pl q l → ∀ k : Nat, k < l.length → p k = q k := by
  intro l
  induction l with
  | nil => intro _ _ k hk; exact absurd hk (Nat.not_lt_zero k)
  | cons v r ih =>
    intro h1 h2 k hk
    rw [List.length_cons] at hk
    by_cases he : k = r.length
    · subst he; rw [h1.1, h2.1]
    · exact ih h1.2 h2.2 k (by omega)
/-- the state of a machine, without its pile; with it -/
def mB (vars temps : Nat → Int64) (calls : Int32) (s : St) : Prop := (∀ v : Nat, v < 10 → vars v = s.1 v) ∧ (∀ j : Nat, j < 100 → temps j = s.2.1 j) ∧ calls = nI s.2.2.2
def mS (vars temps : Nat → Int64) (calls : Int32) (pile : Nat → Int64) (size : Int32) (s : St) : Prop := mB vars temps calls s ∧ size = nI s.2.2.1.length ∧ pl pile s.2.2.1
