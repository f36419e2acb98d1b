/-! PURE PART 36: the reference runs its acts -/
def raB {R : Type} (k : Int32 → Int32 → (Nat → Int64) → Int32 → (Nat → Int64) → Option R) (done fails : Int32) (now : Nat → Int64) (vm : Int32) (values : Nat → Int64) (kd nb l1 : Int32) (tp sc : Int64) : Option R :=
  if kd = 0 then (f_X6_put vm values nb.toInt64).bind fun q => k done fails now q.1 q.2
  else if kd = 1 then ixd nb 10 ((f_X6_put vm values (now nb.toNatClampNeg)).bind fun q => k done fails now q.1 q.2)
  else if kd = 2 then ixd nb 10 (k done fails (vp_updL now nb.toNatClampNeg tp) (vm - 1) values)
  else if kd = 3 then ixd (nb / 256) 10 (ixd (nb / 256) 10 (k done fails (vp_updL now (nb / 256).toNatClampNeg (now (nb / 256).toNatClampNeg + (nb - nb / 256 * 256 - 128).toInt64)) vm values))
  else if kd = 4 then (f_X6_reckoned fails nb sc tp).bind fun q => ixd (vm - 1 - 1) 400 (k done q.2 now (vm - 1) (vp_updL values (vm - 1 - 1).toNatClampNeg q.1))
  else if kd = 5 then ixd (vm - 1) 400 (k done fails now vm (vp_updL values (vm - 1).toNatClampNeg (-tp)))
  else if kd = 6 then k done fails now (vm - 1) values
  else if kd = 7 then (f_X6_put vm values tp).bind fun q => k done fails now q.1 q.2
  else if kd = 8 then ixd (vm - 2) 400 (ixd (vm - 1) 400 (ixd l1 100 (if kd = 9 then (f_X6_put vm (vp_updL (vp_updL values (vm - 2).toNatClampNeg tp) (vm - 1).toNatClampNeg sc) tp).bind fun q => k done fails now q.1 q.2 else k done fails now vm (vp_updL (vp_updL values (vm - 2).toNatClampNeg tp) (vm - 1).toNatClampNeg sc))))
  else if kd = 9 then ixd (vm - 2) 400 (ixd (vm - 1) 400 (ixd l1 100 (if kd = 9 then (f_X6_put vm (vp_updL (vp_updL values (vm - 2).toNatClampNeg tp) (vm - 1).toNatClampNeg sc) tp).bind fun q => k done fails now q.1 q.2 else k done fails now vm (vp_updL (vp_updL values (vm - 2).toNatClampNeg tp) (vm - 1).toNatClampNeg sc))))
  else (f_X6_call done vm values nb).bind fun q => k q.1 fails now q.2.1 q.2.2
section PRunA
variable {kind number : Nat → Int32} {now values : Nat → Int64} {done vm : Int32} {N i : Nat} {l : List Int64}
theorem ra_open (hN : N ≤ 100) (hi : i < N) (hl : l.length < 390) (hvm : vm = nI l.length) (hp : pl values l) :
    ∃ tp sc : Int64, (∀ f : Nat, f_X6_runActs_B7 (f + 1) (nI N) done 0 kind now number vm values (nI i) = raB (fun d fa nw m vs => f_X6_runActs_B7 f (nI N) d fa kind nw number m vs (nI (i + 1))) done 0 now vm values (kind i) (number i) (nI i) tp sc) ∧ (∀ v r, l = v :: r → tp = v) ∧ (∀ y x r, l = y :: x :: r → sc = x) := by
  have hiv : vp_in (nI i) 100 := vp_in_nI (by omega) (by omega)
  have hlt : ¬ nI N ≤ nI i := nI_ge hi (by omega)
  have h1i : nI i + 1 = nI (i + 1) := nI_1 i
  match l, hl, hvm, hp with
  | [], _, hvm, _ =>
    refine ⟨0, 0, fun f => ?_, (fun v r z => by cases z), (fun y x r z => by cases z)⟩
    have hvm : vm = nI 0 := hvm
    rw [f_X6_runActs_B7, if_neg hlt, if_pos rfl, ixd_of hiv, if_pos (by rw [hvm]; decide), if_pos (by rw [hvm]; decide), ixd_of hiv, nI_clamp (n := i) (by omega), h1i]
    rfl
  | [v], _, hvm, hp =>
    refine ⟨v, 0, fun f => ?_, (fun v' r z => by cases z; rfl), (fun y x r z => by cases z)⟩
    have hvm : vm = nI 1 := hvm
    have hv0 : values (vm - 1).toNatClampNeg = v := by rw [hvm]; exact hp.1
    rw [f_X6_runActs_B7, if_neg hlt, if_pos rfl, ixd_of hiv, if_neg (by rw [hvm]; decide), ixd_of (by rw [hvm]; unfold vp_in; decide), if_pos (by rw [hvm]; decide), ixd_of hiv, nI_clamp (n := i) (by omega), h1i, hv0]
    rfl
  | y :: x :: r, hl, hvm, hp =>
    refine ⟨y, x, fun f => ?_, (fun v' r z => by cases z; rfl), (fun y x r z => by cases z; rfl)⟩
    have hvm : vm = nI (r.length + 1 + 1) := hvm
    have hl : r.length + 1 + 1 < 390 := hl
    have e1 : vm - 1 = nI (r.length + 1) := by rw [hvm, nI_pred]
    have e2 : vm - 2 = nI r.length := by rw [hvm]; exact nI_subk r.length 2
    have hv0 : values (vm - 1).toNatClampNeg = y := by rw [e1, nI_clamp (by omega)]; exact hp.1
    have hv1 : values (vm - 2).toNatClampNeg = x := by rw [e2, nI_clamp (by omega)]; exact hp.2.1
    rw [f_X6_runActs_B7, if_neg hlt, if_pos rfl, ixd_of hiv, if_neg (by rw [hvm]; exact nI_nle (by omega) (by omega)), ixd_of (by rw [e1]; exact vp_in_nI (by omega) (by omega)), if_neg (by rw [hvm]; exact nI_ge (a := 1) (by omega) (by omega)), ixd_of (by rw [e2]; exact vp_in_nI (by omega) (by omega)), ixd_of hiv, nI_clamp (n := i) (by omega), h1i, hv0, hv1]
    rfl
/-- an act has gone well in the reference, or has failed -/
def raR (temps : Nat → Int64) (f0 : Nat → Option (Int32 × Int32 × (Nat → Int64) × Int32 × (Nat → Int64))) (f1 : Int32 → Int32 → (Nat → Int64) → Int32 → (Nat → Int64) → Nat → Option (Int32 × Int32 × (Nat → Int64) × Int32 × (Nat → Int64))) (q : Bool × St) : Prop := ∃ done' fails' now' vm' values', (∀ f : Nat, f0 f = f1 done' fails' now' vm' values' f) ∧ ((q.1 = true ∧ fails' = 0 ∧ mS now' temps done' values' vm' q.2) ∨ (q.1 = false ∧ fails' = 1 ∧ mB now' temps done' q.2 ∧ q.2.2.2.1 = []))
theorem m_act1 {temps : Nat → Int64} {c : Cl} {s : St} {h' : Nat} (hN : N ≤ 100) (hi : i < N) (hki : kind i = c.1) (hni : number i = c.2) (hk : okK c) (h11 : ¬ c.1 = 11) (h12 : ¬ c.1 = 12) (hl : s.2.2.1.length ≤ 20) (e : hA c s.2.2.1.length = some h') (hm : mS now temps done values vm s) :
    raR temps (fun f => f_X6_runActs_B7 (f + 1) (nI N) done 0 kind now number vm values (nI i)) (fun d fa nw m vs f => f_X6_runActs_B7 f (nI N) d fa kind nw number m vs (nI (i + 1))) (evC c s) := by
  obtain ⟨V, Tm, l, n⟩ := s
  obtain ⟨k, w⟩ := c
  obtain ⟨g1, g2, rfl⟩ := hA_inv e
  have h1 : tkC (k, w) ≤ l.length := g1
  have h2 : l.length - tkC (k, w) + ptC (k, w) ≤ 20 := g2
  have hl : l.length ≤ 20 := hl
  have hki : kind i = k := hki
  have hni : number i = w := hni
  obtain ⟨⟨m1, m2, m3⟩, hvm, m4⟩ := hm
  have hvm : vm = nI l.length := hvm
  have m4 : pl values l := m4
  have m3 : done = nI n := m3
  have m1 : ∀ v : Nat, v < 10 → now v = V v := m1
  obtain ⟨tp, sc, op, hp1, hp2⟩ := ra_open (kind := kind) (number := number) (now := now) (done := done) hN hi (by omega) hvm m4
  have hiv : vp_in (nI i) 100 := vp_in_nI (by omega) (by omega)
  rw [hki, hni] at op
  unfold raR
  rcases hk with (⟨hk, -⟩ | ⟨hk, a, ha, hw⟩ | ⟨hk, o, ho, hw⟩ | ⟨hk, -⟩ | ⟨hk, a, ha, hw⟩ | ⟨hk, a, ha, hw⟩) | (⟨hk, a, ha, hw⟩ | ⟨hk, a, ha, hw⟩ | ⟨hk, a, ha, hw⟩ | ⟨hk, -⟩) | hk | hk | hk
  all_goals
    have hk : k = _ := hk
    subst hk
  · have h2 : l.length - 0 + 1 ≤ 20 := h2
    refine ⟨nI n, 0, now, nI (l.length + 1), vp_updL values l.length w.toInt64, fun f => ?_, .inl ⟨rfl, rfl, ⟨m1, m2, rfl⟩, rfl, pl_push m4⟩⟩
    dsimp only
    rw [op]
    unfold raB
    rw [if_pos rfl, hvm, m_put _ (by omega), Option.bind_some, m3]
  · have h2 : l.length - 0 + 1 ≤ 20 := h2
    have hw : w = nI a := hw
    refine ⟨nI n, 0, now, nI (l.length + 1), vp_updL values l.length (V a), fun f => ?_, .inl ⟨rfl, rfl, ⟨m1, m2, rfl⟩, rfl, ?_⟩⟩
    · dsimp only
      rw [op]
      unfold raB
      rw [if_neg (by decide), if_pos rfl, hw, ixd_of (vp_in_nI ha (by omega)), nI_clamp (by omega), hvm, m_put _ (by omega), Option.bind_some, m3, m1 a ha]
    · show pl _ (V w.toNatClampNeg :: l)
      rw [hw, nI_clamp (by omega)]
      exact pl_push m4
  · obtain ⟨y, x, r, rfl⟩ := ln2 h1
    have hw : w = nI o := hw
    rw [hp1 y _ rfl, hp2 y x r rfl] at op
    have hl : r.length + 1 + 1 ≤ 20 := hl
    have e1 : vm - 1 = nI (r.length + 1) := by rw [hvm]; exact nI_pred (r.length + 1)
    have e2 : nI (r.length + 1) - 1 = nI r.length := nI_pred r.length
    have ev : evC (4, w) (V, Tm, y :: x :: r, n) = if 6 ≤ o ∧ y = 0 then (false, (V, Tm, [], n)) else (true, (V, Tm, opV o x y :: r, n)) := by rw [evC_4, hw, nI_clamp (by omega)]
    have rk := m_reckoned ho x y
    rw [ev]
    by_cases hf : 6 ≤ o ∧ y = 0
    · rw [if_pos hf] at rk ⊢
      refine ⟨nI n, 1, now, nI (r.length + 1), vp_updL values r.length 0, fun f => ?_, .inr ⟨rfl, rfl, ⟨m1, m2, rfl⟩, rfl⟩⟩
      dsimp only
      rw [op]
      unfold raB
      rw [if_neg (by decide), if_neg (by decide), if_neg (by decide), if_neg (by decide), if_pos rfl, hw, rk, Option.bind_some, e1, e2, ixd_of (vp_in_nI (by omega) (by omega)), nI_clamp (by omega), m3]
    · rw [if_neg hf] at rk ⊢
      refine ⟨nI n, 0, now, nI (r.length + 1), vp_updL values r.length (opV o x y), fun f => ?_, .inl ⟨rfl, rfl, ⟨m1, m2, rfl⟩, rfl, pl_push m4.2.2⟩⟩
      dsimp only
      rw [op]
      unfold raB
      rw [if_neg (by decide), if_neg (by decide), if_neg (by decide), if_neg (by decide), if_pos rfl, hw, rk, Option.bind_some, e1, e2, ixd_of (vp_in_nI (by omega) (by omega)), nI_clamp (by omega), m3]
  · obtain ⟨v, r, rfl⟩ := ln1 h1
    rw [hp1 v _ rfl] at op
    have hl : r.length + 1 ≤ 20 := hl
    have e1 : vm - 1 = nI r.length := by rw [hvm]; exact nI_pred r.length
    refine ⟨nI n, 0, now, nI (r.length + 1), vp_updL values r.length (-v), fun f => ?_, .inl ⟨rfl, rfl, ⟨m1, m2, rfl⟩, rfl, pl_push m4.2⟩⟩
    dsimp only
    rw [op]
    unfold raB
    rw [if_neg (by decide), if_neg (by decide), if_neg (by decide), if_neg (by decide), if_neg (by decide), if_pos rfl, e1, ixd_of (vp_in_nI (by omega) (by omega)), nI_clamp (by omega), m3, hvm]
    rfl
  · have hw : w = nI a := hw
    subst hw
    have ht2 : tkC (10, nI a) = a := by show (nI a).toNatClampNeg = a; exact nI_clamp (by omega)
    rw [ht2] at h1
    obtain ⟨v', l', q1, q2, q3⟩ := m_call (V := V) (Tm := Tm) (n := n) ha h1 (by omega) m4
    rw [q3]
    refine ⟨nI (n + 1), 0, now, nI l'.length, v', fun f => ?_, .inl ⟨rfl, rfl, ⟨m1, m2, rfl⟩, rfl, q2⟩⟩
    dsimp only
    rw [op]
    unfold raB
    rw [if_neg (by decide), if_neg (by decide), if_neg (by decide), if_neg (by decide), if_neg (by decide), if_neg (by decide), if_neg (by decide), if_neg (by decide), if_neg (by decide), if_neg (by decide), hvm, m3, q1, Option.bind_some]
  · exact absurd rfl h11
  · exact absurd rfl h12
  · obtain ⟨v, r, rfl⟩ := ln1 h1
    rw [hp1 v _ rfl] at op
    have hw : w = nI a := hw
    have e1 : vm - 1 = nI r.length := by rw [hvm]; exact nI_pred r.length
    refine ⟨nI n, 0, vp_updL now a v, nI r.length, values, fun f => ?_, .inl ⟨rfl, rfl, ⟨?_, m2, rfl⟩, rfl, m4.2⟩⟩
    · dsimp only
      rw [op]
      unfold raB
      rw [if_neg (by decide), if_neg (by decide), if_pos rfl, hw, ixd_of (vp_in_nI ha (by omega)), nI_clamp (by omega), e1, m3]
    · show ∀ u : Nat, u < 10 → vp_updL now a v u = vp_updL V w.toNatClampNeg v u
      rw [hw, nI_clamp (by omega)]
      exact upL_eq m1
  · have hw : w = nI a := hw
    have n2 := (gr_num ha).2
    have e3 : w / 256 = nI (a / 256) := by rw [hw, n2]
    refine ⟨nI n, 0, vp_updL now (a / 256) (now (a / 256) + (w - w / 256 * 256 - 128).toInt64), vm, values, fun f => ?_, .inl ⟨rfl, rfl, ⟨?_, m2, rfl⟩, hvm, m4⟩⟩
    · dsimp only
      rw [op]
      unfold raB
      rw [if_neg (by decide), if_neg (by decide), if_neg (by decide), if_pos rfl, e3, ixd_of (vp_in_nI (by omega) (by omega)), ixd_of (vp_in_nI (by omega) (by omega)), nI_clamp (by omega), m3]
    · rw [evC_3]
      dsimp only
      rw [e3, nI_clamp (by omega), m1 (a / 256) (by omega)]
      exact upL_eq m1
  · obtain ⟨v, r, rfl⟩ := ln1 h1
    have e1 : vm - 1 = nI r.length := by rw [hvm]; exact nI_pred r.length
    refine ⟨nI n, 0, now, nI r.length, values, fun f => ?_, .inl ⟨rfl, rfl, ⟨m1, m2, rfl⟩, rfl, m4.2⟩⟩
    dsimp only
    rw [op]
    unfold raB
    rw [if_neg (by decide), if_neg (by decide), if_neg (by decide), if_neg (by decide), if_neg (by decide), if_neg (by decide), if_pos rfl, e1, m3]
  · obtain ⟨v, r, rfl⟩ := ln1 h1
    rw [hp1 v _ rfl] at op
    have hl : r.length + 1 ≤ 20 := hl
    refine ⟨nI n, 0, now, nI (r.length + 1 + 1), vp_updL values (v :: r).length v, fun f => ?_, .inl ⟨rfl, rfl, ⟨m1, m2, rfl⟩, rfl, pl_push m4⟩⟩
    dsimp only
    rw [op]
    unfold raB
    rw [if_neg (by decide), if_neg (by decide), if_neg (by decide), if_neg (by decide), if_neg (by decide), if_neg (by decide), if_neg (by decide), if_pos rfl, hvm, m_put _ (by rw [List.length_cons]; omega), Option.bind_some, m3]
    rfl
  · obtain ⟨y, x, r, rfl⟩ := ln2 h1
    rw [hp1 y _ rfl, hp2 y x r rfl] at op
    have hl : r.length + 1 + 1 ≤ 20 := hl
    have e1 : vm - 1 = nI (r.length + 1) := by rw [hvm]; exact nI_pred (r.length + 1)
    have e2 : vm - 2 = nI r.length := by rw [hvm]; exact nI_subk r.length 2
    have p1 := pl_push (x := y) m4.2.2
    have p2 := pl_push (x := x) p1
    refine ⟨nI n, 0, now, nI (r.length + 1 + 1), vp_updL (vp_updL values r.length y) (r.length + 1) x, fun f => ?_, .inl ⟨rfl, rfl, ⟨m1, m2, rfl⟩, rfl, p2⟩⟩
    dsimp only
    rw [op]
    unfold raB
    rw [if_neg (by decide), if_neg (by decide), if_neg (by decide), if_neg (by decide), if_neg (by decide), if_neg (by decide), if_neg (by decide), if_neg (by decide), if_pos rfl, if_neg (by decide), e1, e2, ixd_of (vp_in_nI (by omega) (by omega)), ixd_of (vp_in_nI (by omega) (by omega)), ixd_of hiv, nI_clamp (n := r.length) (by omega), nI_clamp (n := r.length + 1) (by omega), m3, hvm]
    rfl
  · obtain ⟨y, x, r, rfl⟩ := ln2 h1
    rw [hp1 y _ rfl, hp2 y x r rfl] at op
    have hl : r.length + 1 + 1 ≤ 20 := hl
    have e1 : vm - 1 = nI (r.length + 1) := by rw [hvm]; exact nI_pred (r.length + 1)
    have e2 : vm - 2 = nI r.length := by rw [hvm]; exact nI_subk r.length 2
    have p1 := pl_push (x := y) m4.2.2
    have p2 := pl_push (x := x) p1
    have p3 := pl_push (x := y) p2
    have pu : f_X6_put vm (vp_updL (vp_updL values r.length y) (r.length + 1) x) y = some (nI (r.length + 1 + 1 + 1), vp_updL (vp_updL (vp_updL values r.length y) (r.length + 1) x) (r.length + 1 + 1) y) := by
      rw [hvm]
      exact m_put (l := y :: x :: r) y (by rw [List.length_cons, List.length_cons]; omega)
    refine ⟨nI n, 0, now, nI (r.length + 1 + 1 + 1), vp_updL (vp_updL (vp_updL values r.length y) (r.length + 1) x) (r.length + 1 + 1) y, fun f => ?_, .inl ⟨rfl, rfl, ⟨m1, m2, rfl⟩, rfl, p3⟩⟩
    dsimp only
    rw [op]
    unfold raB
    rw [if_neg (by decide), if_neg (by decide), if_neg (by decide), if_neg (by decide), if_neg (by decide), if_neg (by decide), if_neg (by decide), if_neg (by decide), if_neg (by decide), if_pos rfl, if_pos rfl, e1, e2, ixd_of (vp_in_nI (by omega) (by omega)), ixd_of (vp_in_nI (by omega) (by omega)), ixd_of hiv, nI_clamp (n := r.length) (by omega), nI_clamp (n := r.length + 1) (by omega), m3, pu, Option.bind_some]
/-- all acts -/
theorem m_acts {temps : Nat → Int64} {A : List Cl} (hA100 : A.length ≤ 100) (hg : ∀ (j : Nat) (c : Cl), A[j]? = some c → kind j = c.1 ∧ number j = c.2) (hk : ∀ c ∈ A, okK c ∧ ¬ c.1 = 11 ∧ ¬ c.1 = 12) :
    ∀ (R D : List Cl), A = D ++ R → ∀ (s : St) (h' : Nat) (now values : Nat → Int64) (done vm : Int32) (f : Nat), s.2.2.1.length ≤ 20 → hAL R s.2.2.1.length = some h' → mS now temps done values vm s → R.length < f →
    ∃ done' fails' now' vm' values', f_X6_runActs_B7 f (nI A.length) done 0 kind now number vm values (nI D.length) = some (done', fails', now', vm', values') ∧ (((evL R s).1 = true ∧ fails' = 0 ∧ mS now' temps done' values' vm' (evL R s).2 ∧ (evL R s).2.2.2.1.length = h') ∨ ((evL R s).1 = false ∧ fails' = 1 ∧ mB now' temps done' (evL R s).2 ∧ (evL R s).2.2.2.1 = [])) := by
  intro R
  induction R with
  | nil =>
    intro D hD s h' now values done vm f hl hh hm hf
    obtain ⟨f, rfl⟩ : ∃ g, f = g + 1 := ⟨f - 1, by omega⟩
    rw [List.append_nil] at hD
    subst hD
    refine ⟨done, 0, now, vm, values, ?_, .inl ⟨rfl, rfl, hm, ?_⟩⟩
    · rw [f_X6_runActs_B7, if_pos (Int32.le_refl _)]
    · cases hh; rfl
  | cons c R ih =>
    intro D hD s h' now values done vm f hl hh hm hf
    rw [List.length_cons] at hf
    obtain ⟨f, rfl⟩ : ∃ g, f = g + 1 := ⟨f - 1, by omega⟩
    have hlen : D.length < A.length := by rw [hD]; simp only [List.length_append, List.length_cons]; omega
    have hget : A[D.length]? = some c := by rw [hD, List.getElem?_append_right (Nat.le_refl _), Nat.sub_self]; rfl
    have hcm : c ∈ A := by rw [hD]; exact List.mem_append_right _ List.mem_cons_self
    obtain ⟨hk1, hk2, hk3⟩ := hk c hcm
    have hh : (hA c s.2.2.1.length).bind (hAL R) = some h' := hh
    cases e1 : hA c s.2.2.1.length with
    | none => rw [e1] at hh; cases hh
    | some h1 =>
      rw [e1, Option.bind_some] at hh
      obtain ⟨d', f', n', vm', v', w1, w2⟩ := m_act1 (kind := kind) (number := number) hA100 hlen (hg _ c hget).1 (hg _ c hget).2 hk1 hk2 hk3 hl e1 hm
      dsimp only at w1
      rw [w1, show evL (c :: R) s = if (evC c s).1 = true then evL R (evC c s).2 else (false, (evC c s).2) from rfl]
      rcases w2 with ⟨t1, rfl, m1⟩ | ⟨t1, rfl, m1, m2⟩
      · rw [if_pos t1]
        have hl1 := evC_len hk1 e1 t1
        have h20 := hA_inv e1
        have := ih (D ++ [c]) (by rw [hD, List.append_assoc]; rfl) (evC c s).2 h' n' v' d' vm' f (by omega) (by rw [hl1]; exact hh) m1 (by omega)
        rw [List.length_append] at this
        exact this
      · rw [if_neg (by rw [t1]; exact Bool.false_ne_true)]
        obtain ⟨f, rfl⟩ : ∃ g, f = g + 1 := ⟨f - 1, by omega⟩
        refine ⟨d', 1, n', vm', v', ?_, .inr ⟨rfl, rfl, m1, m2⟩⟩
        rw [f_X6_runActs_B7]
        by_cases hz : nI A.length ≤ nI (D.length + 1)
        · rw [if_pos hz]
        · rw [if_neg hz, if_neg one_ne]
end PRunA
