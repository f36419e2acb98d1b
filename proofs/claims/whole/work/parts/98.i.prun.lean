/-! PURE PART 37: a run, the reference's frame of it -/
section PRun
variable {acts done fails high lines thrown vm : Int32} {calls hasRun kind leftMany lineOf lineSort lineTerm number opn part pile sort stage what : Nat → Int32} {first leftValue now temporary values vrb : Nat → Int64}
theorem r_29 {l1 : Int32} : ∀ (d j : Nat) (now : Nat → Int64) (f : Nat), j + d = 10 → d < f → (∀ v : Nat, v < j → now v = first v) → ∃ now', (∀ v : Nat, v < 10 → now' v = first v) ∧ f_X6_run_B29 f acts calls done fails first hasRun high kind leftMany leftValue lineOf lineSort lineTerm lines now number opn part pile sort stage temporary thrown vm values vrb what l1 (nI j) = f_X6_run_B29 1 acts calls done fails first hasRun high kind leftMany leftValue lineOf lineSort lineTerm lines now' number opn part pile sort stage temporary thrown vm values vrb what l1 (nI 10) := by
  intro d
  induction d with
  | zero =>
    intro j now f hj hf hv
    obtain ⟨f, rfl⟩ : ∃ g, f = g + 1 := ⟨f - 1, by omega⟩
    have : j = 10 := by omega
    subst this
    refine ⟨now, hv, ?_⟩
    rw [f_X6_run_B29, if_pos (show (10 : Int32) ≤ nI 10 by decide), f_X6_run_B29, if_pos (show (10 : Int32) ≤ nI 10 by decide)]
  | succ d ih =>
    intro j now f hj hf hv
    obtain ⟨f, rfl⟩ : ∃ g, f = g + 1 := ⟨f - 1, by omega⟩
    obtain ⟨now', h1, h2⟩ := ih (j + 1) (vp_updL now j (first j)) f (by omega) (by omega) (by
      intro v hv'
      by_cases he : v = j
      · subst he; rw [pk_uLs]
      · rw [pk_uLn he]; exact hv v (by omega))
    refine ⟨now', h1, ?_⟩
    rw [← h2, f_X6_run_B29, if_neg (show ¬ (10 : Int32) ≤ nI j from nI_ge (a := j) (b := 10) (by omega) (by omega)), ixd_of (vp_in_nI (by omega) (by omega)), ixd_of (vp_in_nI (by omega) (by omega)), nI_clamp (by omega), nI_1]
theorem r_97 {a : Nat} (ha : a ≤ 1) : ∀ (d j : Nat) (vrb : Nat → Int64) (f : Nat), j + d = 10 → d < f → (∀ v : Nat, v < j → vrb (10 * a + v) = now v) → ∃ vrb', (∀ v : Nat, v < 10 → vrb' (10 * a + v) = now v) ∧ (∀ i : Nat, (i < 10 * a ∨ 10 * a + 10 ≤ i) → vrb' i = vrb i) ∧ f_X6_run_B97 f acts calls done fails first hasRun high kind leftMany leftValue lineOf lineSort lineTerm lines now number opn part pile sort stage temporary thrown vm values vrb what (nI a) (nI j) = f_X6_run_B97 1 acts calls done fails first hasRun high kind leftMany leftValue lineOf lineSort lineTerm lines now number opn part pile sort stage temporary thrown vm values vrb' what (nI a) (nI 10) := by
  intro d
  induction d with
  | zero =>
    intro j vrb f hj hf hv
    obtain ⟨f, rfl⟩ : ∃ g, f = g + 1 := ⟨f - 1, by omega⟩
    have : j = 10 := by omega
    subst this
    refine ⟨vrb, hv, fun i _ => rfl, ?_⟩
    rw [f_X6_run_B97, if_pos (show (10 : Int32) ≤ nI 10 by decide), f_X6_run_B97, if_pos (show (10 : Int32) ≤ nI 10 by decide)]
  | succ d ih =>
    intro j vrb f hj hf hv
    obtain ⟨f, rfl⟩ : ∃ g, f = g + 1 := ⟨f - 1, by omega⟩
    obtain ⟨vrb', h1, h1b, h2⟩ := ih (j + 1) (vp_updL vrb (10 * a + j) (now j)) f (by omega) (by omega) (by
      intro v hv'
      by_cases he : v = j
      · subst he; rw [pk_uLs]
      · rw [pk_uLn (by omega)]; exact hv v (by omega))
    refine ⟨vrb', h1, fun i hi => by rw [h1b i hi, pk_uLn (by omega)], ?_⟩
    have e3 : (10 : Int32) * nI a + nI j = nI (10 * a + j) := by rw [show (10 : Int32) * nI a = nI (10 * a) from pk_mul 10 a, nI_add]
    rw [← h2, f_X6_run_B97, if_neg (show ¬ (10 : Int32) ≤ nI j from nI_ge (a := j) (b := 10) (by omega) (by omega)), ixd_of (vp_in_nI (by omega) (by omega)), e3, ixd_of (vp_in_nI (by omega) (by omega)), nI_clamp (n := 10 * a + j) (by omega), nI_clamp (n := j) (by omega), nI_1]
theorem r_149 {a L : Nat} (ha : a ≤ 1) (hL : L ≤ 20) (hm : leftMany a = nI L) : ∀ (d j : Nat) (leftValue : Nat → Int64) (f : Nat), j + d = L → d < f → (∀ v : Nat, v < j → leftValue (24 * a + v) = values v) → ∃ leftValue', (∀ v : Nat, v < L → leftValue' (24 * a + v) = values v) ∧ (∀ i : Nat, (i < 24 * a ∨ 24 * a + 24 ≤ i) → leftValue' i = leftValue i) ∧ f_X6_run_B149 f acts calls done fails first hasRun high kind leftMany leftValue lineOf lineSort lineTerm lines now number opn part pile sort stage temporary thrown vm values vrb what (nI a) (nI j) = if fails = 0 then some (0, (calls, done, fails, hasRun, leftMany, leftValue', now, opn, stage, temporary, thrown, vm, values, vrb)) else some (done + 1, (calls, done, fails, hasRun, leftMany, leftValue', now, opn, stage, temporary, thrown, vm, values, vrb)) := by
  intro d
  induction d with
  | zero =>
    intro j leftValue f hj hf hv
    obtain ⟨f, rfl⟩ : ∃ g, f = g + 1 := ⟨f - 1, by omega⟩
    have : j = L := by omega
    subst this
    refine ⟨leftValue, hv, fun i _ => rfl, ?_⟩
    rw [f_X6_run_B149, ixd_of (vp_in_nI (by omega) (by omega)), nI_clamp (n := a) (by omega), if_pos (by rw [hm]; exact Int32.le_refl _)]
  | succ d ih =>
    intro j leftValue f hj hf hv
    obtain ⟨f, rfl⟩ : ∃ g, f = g + 1 := ⟨f - 1, by omega⟩
    obtain ⟨lv', h1, h1b, h2⟩ := ih (j + 1) (vp_updL leftValue (24 * a + j) (values j)) f (by omega) (by omega) (by
      intro v hv'
      by_cases he : v = j
      · subst he; rw [pk_uLs]
      · rw [pk_uLn (by omega)]; exact hv v (by omega))
    refine ⟨lv', h1, fun i hi => by rw [h1b i hi, pk_uLn (by omega)], ?_⟩
    have e3 : (24 : Int32) * nI a + nI j = nI (24 * a + j) := by rw [show (24 : Int32) * nI a = nI (24 * a) from pk_mul 24 a, nI_add]
    rw [← h2, f_X6_run_B149, ixd_of (vp_in_nI (by omega) (by omega)), nI_clamp (n := a) (by omega), if_neg (by rw [hm]; exact nI_ge (by omega) (by omega)), ixd_of (vp_in_nI (by omega) (by omega)), e3, ixd_of (vp_in_nI (by omega) (by omega)), nI_clamp (n := 24 * a + j) (by omega), nI_clamp (n := j) (by omega), nI_1]
/-- behind the machine's work -/
theorem r_tail {a L : Nat} (ha : a ≤ 1) (hL : L ≤ 20) (hf : (fails = 0 ∧ vm = nI L) ∨ (fails = 1 ∧ L = 0)) : ∃ leftValue' vrb', f_X6_run_B97 FU acts calls done fails first hasRun high kind leftMany leftValue lineOf lineSort lineTerm lines now number opn part pile sort stage temporary thrown vm values vrb what (nI a) 0 = some (if fails = 0 then 0 else done + 1, (calls, done, fails, hasRun, upd leftMany a (nI L), leftValue', now, opn, stage, temporary, thrown, vm, values, vrb')) ∧ (∀ v : Nat, v < L → leftValue' (24 * a + v) = values v) ∧ (∀ i : Nat, (i < 24 * a ∨ 24 * a + 24 ≤ i) → leftValue' i = leftValue i) ∧ (∀ v : Nat, v < 10 → vrb' (10 * a + v) = now v) ∧ (∀ i : Nat, (i < 10 * a ∨ 10 * a + 10 ≤ i) → vrb' i = vrb i) := by
  obtain ⟨vrb', p1, p2, p3⟩ := r_97 (acts := acts) (calls := calls) (done := done) (fails := fails) (first := first) (hasRun := hasRun) (high := high) (kind := kind) (leftMany := leftMany) (leftValue := leftValue) (lineOf := lineOf) (lineSort := lineSort) (lineTerm := lineTerm) (lines := lines) (now := now) (number := number) (opn := opn) (part := part) (pile := pile) (sort := sort) (stage := stage) (temporary := temporary) (thrown := thrown) (vm := vm) (values := values) (what := what) ha 10 0 vrb FU (by omega) (by rw [FU_4]; omega) (fun v hv => absurd hv (Nat.not_lt_zero v))
  obtain ⟨lv', q1, q2, q3⟩ := r_149 (acts := acts) (calls := calls) (done := done) (fails := fails) (first := first) (hasRun := hasRun) (high := high) (kind := kind) (leftMany := upd leftMany a (nI L)) (lineOf := lineOf) (lineSort := lineSort) (lineTerm := lineTerm) (lines := lines) (now := now) (number := number) (opn := opn) (part := part) (pile := pile) (sort := sort) (stage := stage) (temporary := temporary) (thrown := thrown) (vm := vm) (values := values) (vrb := vrb') (what := what) ha hL pk_us L 0 leftValue FU (by omega) (by rw [FU_4]; omega) (fun v hv => absurd hv (Nat.not_lt_zero v))
  refine ⟨lv', vrb', ?_, q1, q2, p1, p2⟩
  rw [nI_0] at p3 q3
  rw [p3, f_X6_run_B97, if_pos (by decide), ixd_of (vp_in_nI (by omega) (by omega)), ixd_of (vp_in_nI (by omega) (by omega)), nI_clamp (by omega)]
  rcases hf with ⟨rfl, rfl⟩ | ⟨rfl, rfl⟩
  · rw [if_pos rfl, q3, if_pos rfl, if_pos rfl]
  · rw [nI_0] at q3 ⊢
    rw [if_neg one_ne, q3, if_neg one_ne, if_neg one_ne]
end PRun
