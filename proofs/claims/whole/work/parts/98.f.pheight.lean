/-! PURE PART 34: a term that fits at some height fits at each lower one -/
section PHeight
variable {sort what part : Nat → Int32} {T : Nat}
theorem hs1_node {s a : Nat} {w : Int32} {so : Int32} (hs : s ≤ 5) (hso : so = nI s) (ha : a = if so = 3 then 2 else if so = 4 then 1 else if so = 5 then w.toNatClampNeg else 0) {k x : Nat} (e : hs1 (kc so, w) (k + a) = some x) : x = k + 1 ∧ ∀ j : Nat, j ≤ k → hs1 (kc so, w) (j + a) = some (j + 1) := by
  subst hso
  match s, hs with
  | 0, _ =>
    have ha : a = 0 := ha
    subst ha
    have g : ∀ h : Nat, hs1 (kc (nI 0), w) h = if h < 20 then some (h + 1) else none := fun h => rfl
    rw [g] at e
    by_cases hk : k + 0 < 20
    · rw [if_pos hk] at e; cases e
      exact ⟨rfl, fun j hj => by rw [g, if_pos (by omega)]⟩
    · rw [if_neg hk] at e; cases e
  | 1, _ =>
    have ha : a = 0 := ha
    subst ha
    have g : ∀ h : Nat, hs1 (kc (nI 1), w) h = if h < 20 then some (h + 1) else none := fun h => rfl
    rw [g] at e
    by_cases hk : k + 0 < 20
    · rw [if_pos hk] at e; cases e
      exact ⟨rfl, fun j hj => by rw [g, if_pos (by omega)]⟩
    · rw [if_neg hk] at e; cases e
  | 2, _ =>
    have ha : a = 0 := ha
    subst ha
    have g : ∀ h : Nat, hs1 (kc (nI 2), w) h = if h < 20 then some (h + 1) else none := fun h => rfl
    rw [g] at e
    by_cases hk : k + 0 < 20
    · rw [if_pos hk] at e; cases e
      exact ⟨rfl, fun j hj => by rw [g, if_pos (by omega)]⟩
    · rw [if_neg hk] at e; cases e
  | 3, _ =>
    have ha : a = 2 := ha
    subst ha
    have g : ∀ h : Nat, hs1 (kc (nI 3), w) h = if 2 ≤ h then some (h - 1) else none := fun h => hs1_4 w h
    rw [g, if_pos (by omega)] at e
    cases e
    exact ⟨by omega, fun j hj => by rw [g, if_pos (by omega)]; rfl⟩
  | 4, _ =>
    have ha : a = 1 := ha
    subst ha
    have g : ∀ h : Nat, hs1 (kc (nI 4), w) h = if 1 ≤ h then some h else none := fun h => hs1_5 w h
    rw [g, if_pos (by omega)] at e
    cases e
    exact ⟨rfl, fun j hj => by rw [g, if_pos (by omega)]⟩
  | 5, _ =>
    have ha : a = w.toNatClampNeg := ha
    subst ha
    have g : ∀ h : Nat, hs1 (kc (nI 5), w) h = if w.toNatClampNeg ≤ h ∧ h - w.toNatClampNeg < 20 then some (h - w.toNatClampNeg + 1) else none := fun h => hs1_10 w h
    rw [g] at e
    by_cases hk : w.toNatClampNeg ≤ k + w.toNatClampNeg ∧ k + w.toNatClampNeg - w.toNatClampNeg < 20
    · rw [if_pos hk] at e; cases e
      exact ⟨by omega, fun j hj => by rw [g, if_pos (by omega), show j + w.toNatClampNeg - w.toNatClampNeg = j by omega]⟩
    · rw [if_neg hk] at e; cases e
def nH (sort what part : Nat → Int32) (t : Nat) : Prop := ∀ k x : Nat, hs (mp sort what part t) k = some x → x = k + 1 ∧ ∀ j : Nat, j ≤ k → hs (mp sort what part t) j = some (j + 1)
theorem h_rest (hT : T ≤ 3000) (hw : wfN sort what part T) {t : Nat} (ht : t < T) (ih : ∀ p : Nat, p < t → nH sort what part p) : ∀ (d i : Nat), i + d = ar sort what t → ∀ k x : Nat, hs (rst sort what part t i d) (k + i) = some x → x = k + 1 ∧ ∀ j : Nat, j ≤ k → hs (rst sort what part t i d) (j + i) = some (j + 1) := by
  obtain ⟨h3, ⟨so, hso, eso⟩, hpt⟩ := hw t ht
  intro d
  induction d with
  | zero =>
    intro i hi k x e
    have hr : rst sort what part t i 0 = [(kc (sort t), what t)] := rfl
    rw [hr, hs_one] at e
    have := hs1_node (a := i) hso eso (by rw [show i = ar sort what t by omega]; rfl) e
    exact ⟨this.1, fun j hj => by rw [hr, hs_one]; exact this.2 j hj⟩
  | succ d ihd =>
    intro i hi k x e
    rw [rst_succ, hs_app] at e
    obtain ⟨p, hp, ep⟩ := hpt i (by omega)
    have hpc : (part (3 * t + i)).toNatClampNeg = p := by rw [ep, nI_clamp (by omega)]
    rw [hpc] at e
    cases e1 : hs (mp sort what part p) (k + i) with
    | none => rw [e1] at e; cases e
    | some y =>
      rw [e1, Option.bind_some] at e
      obtain ⟨rfl, g2⟩ := ih p hp (k + i) y e1
      rw [Nat.add_assoc] at e
      obtain ⟨q1, q2⟩ := ihd (i + 1) (by omega) k x e
      refine ⟨q1, fun j hj => ?_⟩
      rw [rst_succ, hs_app, hpc, g2 (j + i) (by omega), Option.bind_some, Nat.add_assoc]
      exact q2 j hj
theorem h_node (hT : T ≤ 3000) (hw : wfN sort what part T) : ∀ (f t : Nat), t < f → t < T → nH sort what part t := by
  intro f
  induction f with
  | zero => intro t h; exact absurd h (Nat.not_lt_zero t)
  | succ f ih =>
    intro t hf ht k x e
    rw [mp_rst hT hw ht] at e ⊢
    exact h_rest hT hw ht (fun p hp => ih p (by omega) (by omega)) (ar sort what t) 0 (by omega) k x e
end PHeight
/-- a line as it is run -/
def LH (q : Ln) : Prop := (∀ c ∈ q.1, okC c) ∧ okE q.2 ∧ q.1.length ≤ 100 ∧ ((q.2.1 = 3 ∧ q.1 = []) ∨ (¬ q.2.1 = 3 ∧ hAL q.1 0 = some 1))
theorem LH_of {sort what part pile lineSort lineOf lineTerm : Nat → Int32} {terms high lines temps : Int32} {T n : Nat} {S : Sp} (hT : T ≤ 3000) (h : mdR sort what part terms high pile lines lineSort lineOf lineTerm temps T S) (ho : okS S n) (hn : n ≤ 100) : ∀ q ∈ S.1, LH q := by
  intro q hq
  obtain ⟨k1, k2, k3, k4⟩ := ho.2.1 q hq
  obtain ⟨i, hi, hget⟩ := List.mem_iff_getElem.mp hq
  have hl := h.2.2.2.2.2.2.1 i q (by rw [List.getElem?_eq_getElem hi, hget])
  refine ⟨k1, k2, by omega, ?_⟩
  have go : ∀ v : Int32, ¬ q.2.1 = 3 → nd sort what part T v q.1 → (q.2.1 = 3 ∧ q.1 = []) ∨ (¬ q.2.1 = 3 ∧ hAL q.1 0 = some 1) := by
    intro v hv hnd
    obtain ⟨p, hp, -, hmp⟩ := hnd
    rcases k4 with ⟨k5, -⟩ | ⟨k, hk⟩
    · exact absurd k5 hv
    · rw [← hmp] at hk
      have := (h_node hT h.2.1 (p + 1) p (by omega) hp k (k + 1) hk).2 0 (by omega)
      rw [hmp] at this
      exact .inr ⟨hv, (hs_hAL q.1 0 1 k1 (by omega) this).1⟩
  rcases hl with ⟨-, e, c⟩ | ⟨-, e, c⟩ | ⟨-, e, n', e2, -⟩ | ⟨-, e, c⟩
  · exact go _ (by rw [e]; show ¬ (12 : Int32) = 3; decide) c
  · exact go _ (by rw [e]; show ¬ (2 : Int32) = 3; decide) c
  · exact .inl ⟨by rw [e2], e⟩
  · exact go _ (by rw [e]; show ¬ (6 : Int32) = 3; decide) c
theorem LH_hAL {q : Ln} (h : LH q) : hAL (q.1 ++ [q.2]) 0 = some 0 := by
  obtain ⟨k1, k2, k3, k4⟩ := h
  rw [hAL_app]
  obtain ⟨L, k, w⟩ := q
  rcases k4 with ⟨e1, e2⟩ | ⟨e1, e2⟩
  · have e1 : k = 3 := e1
    have e2 : L = [] := e2
    subst e1 e2
    rfl
  · have e2 : hAL L 0 = some 1 := e2
    show (hAL L 0).bind _ = _
    rw [e2, Option.bind_some]
    rcases k2 with ⟨hk, -⟩ | ⟨hk, -⟩ | ⟨hk, -⟩ | ⟨hk, -⟩
    all_goals
      have hk : k = _ := hk
      subst hk
    · rfl
    · rfl
    · exact absurd rfl e1
    · rfl
theorem fl_hAL : ∀ (Ls : List Ln), (∀ q ∈ Ls, LH q) → hAL (fl Ls) 0 = some 0 ∧ ∀ c ∈ fl Ls, okK c := by
  intro Ls
  induction Ls with
  | nil => intro _; exact ⟨rfl, fun c hc => absurd hc List.not_mem_nil⟩
  | cons q R ih =>
    intro h
    obtain ⟨g1, g2⟩ := ih (fun r hr => h r (List.mem_cons_of_mem _ hr))
    have hq := h q List.mem_cons_self
    have e : fl (q :: R) = (q.1 ++ [q.2]) ++ fl R := rfl
    refine ⟨by rw [e, hAL_app, LH_hAL hq, Option.bind_some, g1], ?_⟩
    intro c hc
    rw [e] at hc
    rcases List.mem_append.mp hc with hc | hc
    · rcases List.mem_append.mp hc with hc | hc
      · exact .inl (hq.1 c hc)
      · rw [List.mem_singleton.mp hc]; exact .inr (.inl hq.2.1)
    · exact g2 c hc
theorem pile_hAL {S : Sp} {n : Nat} (ho : okS S n) (hl : S.2.1.length ≤ 20) : hAL S.2.1.flatten 0 = some S.2.1.length ∧ ∀ c ∈ S.2.1.flatten, okC c := by
  have hc : ∀ c ∈ S.2.1.flatten, okC c := by
    intro c hc
    obtain ⟨P, hP, hcP⟩ := List.mem_flatten.mp hc
    exact ho.1 P hP c hcP
  have := hs_flat S.2.1 0 (fun i P hP => by rw [Nat.zero_add]; exact ho.2.2 i P hP)
  rw [Nat.zero_add] at this
  exact ⟨(hs_hAL _ 0 _ hc (by omega) this).1, hc⟩
