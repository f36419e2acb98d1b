/-! PURE PART 39: give, value, left, count and a run of no side: both sides -/
section PAsk
variable {ak an : Nat → Int32} {az : Int32} {ac ah as_ : Int32} {ap at_ av given : Nat → Int64} {Lk Lnn : Nat → Int32} {Lz lc lh ls : Int32} {lp lt lv : Nat → Int64} {Tk Tn : Nat → Int32} {Tz : Int32}
variable {acts done fails high lines thrown vm : Int32} {calls hasRun kind leftMany lineOf lineSort lineTerm number opn part pile sort stage what : Nat → Int32} {first leftValue now temporary values vrb : Nat → Int64}
theorem isV_cases (a : Int32) : (∃ j : Nat, j < 10 ∧ a = nI j ∧ f_X5_isVariable a = some (1, ())) ∨ (f_X5_isVariable a = some (0, ()) ∧ (a < 0 ∨ (¬ a < 0 ∧ ¬ a ≤ 9))) := by
  by_cases h0 : a < 0
  · refine .inr ⟨?_, .inl h0⟩
    unfold f_X5_isVariable
    rw [if_pos h0]
  · obtain ⟨j, hj, rfl⟩ := nI_of h0
    by_cases h10 : j < 10
    · exact .inl ⟨j, h10, rfl, p_isVar h10⟩
    · refine .inr ⟨?_, .inr ⟨h0, ?_⟩⟩
      · unfold f_X5_isVariable
        rw [if_neg h0, if_pos (show (10 : Int32) ≤ nI j from nI_le (a := 10) (by omega) hj)]
      · exact nI_ge (a := 9) (by omega) hj
theorem give_both (a : Int32) (x : Int64) (hg : ∀ v : Nat, v < 10 → given v = first v) : ∃ r given' first', f_X5_give given a x = some (r, given') ∧ f_X6_give first thrown a x = some (r, (first', 0)) ∧ ∀ v : Nat, v < 10 → given' v = first' v := by
  rcases isV_cases a with ⟨j, hj, rfl, e⟩ | ⟨e, h⟩
  · refine ⟨1, vp_updL given j x, vp_updL first j x, ?_, ?_, upL_eq hg⟩
    · unfold f_X5_give
      rw [e, Option.bind_some, if_neg one_ne, ixd_of (vp_in_nI hj (by omega)), nI_clamp (by omega)]
    · unfold f_X6_give
      rw [if_neg (nI_pos (by omega)), if_pos (show nI j ≤ 9 from nI_le (b := 9) (by omega) (by omega)), ixd_of (vp_in_nI hj (by omega)), nI_clamp (by omega)]
  · refine ⟨0, given, first, ?_, ?_, hg⟩
    · unfold f_X5_give
      rw [e, Option.bind_some, if_pos rfl]
    · unfold f_X6_give
      rcases h with h | ⟨h1, h2⟩
      · rw [if_pos h]
      · rw [if_neg h1, if_neg h2]
theorem isS_cases (a : Int32) : (a = 0 ∧ f_X5_isSide a = some (1, ())) ∨ (a = 1 ∧ f_X5_isSide a = some (1, ())) ∨ (f_X5_isSide a = some (0, ()) ∧ ¬ a = 0 ∧ ¬ a = 1 ∧ (a < 0 ∨ (¬ a < 0 ∧ 1 < a ∧ ¬ a ≤ 1))) := by
  by_cases h0 : a = 0
  · subst h0; exact .inl ⟨rfl, rfl⟩
  · by_cases h1 : a = 1
    · subst h1; exact .inr (.inl ⟨rfl, rfl⟩)
    · refine .inr (.inr ⟨?_, h0, h1, ?_⟩)
      · unfold f_X5_isSide; rw [if_neg h0, if_neg h1]
      · by_cases hn : a < 0
        · exact .inl hn
        · obtain ⟨j, hj, rfl⟩ := nI_of hn
          have j0 : j ≠ 0 := fun z => h0 (by rw [z]; rfl)
          have j1 : j ≠ 1 := fun z => h1 (by rw [z]; rfl)
          exact .inr ⟨hn, nI_lt (a := 1) (by omega) hj, nI_ge (a := 1) (by omega) hj⟩
theorem run_bad {a : Int32} (h : ¬ a = 0 ∧ ¬ a = 1) : f_X5_run ak an az ac ah ap as_ at_ av given Lk Lnn Lz lc lh lp ls lt lv Tk Tn Tz a = some (.inl 1) ∧ f_X6_run acts calls done fails first hasRun high kind leftMany leftValue lineOf lineSort lineTerm lines now number opn part pile sort stage temporary thrown vm values vrb what a = some (0, (calls, done, fails, hasRun, leftMany, leftValue, now, opn, stage, temporary, 1, vm, values, vrb)) := by
  rcases isS_cases a with ⟨e, -⟩ | ⟨e, -⟩ | ⟨e, -, -, g⟩
  · exact absurd e h.1
  · exact absurd e h.2
  · constructor
    · unfold f_X5_run
      rw [e, Option.bind_some, if_pos rfl]
    · unfold f_X6_run
      rcases g with g | ⟨g1, -, g2⟩
      · rw [if_pos g, if_neg (by decide)]
      · rw [if_neg g1, if_neg g2, if_neg (by decide)]
theorem value_both (a b : Int32) (hg : ∀ v : Nat, v < 10 → given v = first v) (hm : mR ac ah as_ av ap lc lh ls lv lp lt calls hasRun leftMany vrb leftValue temporary) : (f_X5_value ah av given lh lv a b = some (.inl 1) ∧ f_X6_value first hasRun thrown vrb a b = some (0, 1)) ∨ ∃ x, f_X5_value ah av given lh lv a b = some (.inr (x, ())) ∧ f_X6_value first hasRun thrown vrb a b = some (x, 0) := by
  have bad : ∀ (e : f_X5_isSide a = some (1, ())), f_X5_isVariable b = some (0, ()) → f_X5_value ah av given lh lv a b = some (.inl 1) := by
    intro e e2
    unfold f_X5_value
    rw [e, Option.bind_some, if_neg one_ne, e2, Option.bind_some, if_pos rfl]
  rcases isS_cases a with ⟨rfl, e⟩ | ⟨rfl, e⟩ | ⟨e, n0, n1, g⟩
  · rcases isV_cases b with ⟨j, hj, rfl, e2⟩ | ⟨e2, h⟩
    · obtain ⟨-, m2, -, m4, m5⟩ := hm.1
      have c1 : f_X5_value ah av given lh lv 0 (nI j) = if ah = 0 then some (.inr (given j, ())) else some (.inr (av j, ())) := by
        unfold f_X5_value
        rw [e, Option.bind_some, if_neg one_ne, e2, Option.bind_some, if_neg one_ne, if_pos rfl, ixd_of (vp_in_nI hj (by omega)), ixd_of (vp_in_nI hj (by omega)), nI_clamp (by omega)]
      have c2 : f_X6_value first hasRun thrown vrb 0 (nI j) = if hasRun 0 = 0 then some (first j, 0) else some (vrb (10 * 0 + j), 0) := by
        unfold f_X6_value
        have e3 : (10 : Int32) * 0 + nI j = nI (10 * 0 + j) := by rw [show (10 : Int32) * 0 = nI (10 * 0) from rfl, nI_add]
        rw [if_neg (by decide), if_neg (by decide), if_neg (nI_pos (by omega)), if_pos (show nI j ≤ 9 from nI_le (b := 9) (by omega) (by omega)), if_pos (by decide), ixd_of (by unfold vp_in; decide), ixd_of (vp_in_nI hj (by omega)), e3, ixd_of (vp_in_nI (by omega) (by omega)), nI_clamp (n := 10 * 0 + j) (by omega), nI_clamp (n := j) (by omega)]
        rfl
      refine .inr ?_
      rw [c1, c2, ← m2]
      rcases m4 with h | h
      · rw [if_pos h, if_pos h, hg j hj]
        exact ⟨_, rfl, rfl⟩
      · rw [if_neg (by rw [h]; decide), if_neg (by rw [h]; decide), m5 h j hj]
        exact ⟨_, rfl, rfl⟩
    · refine .inl ⟨bad e e2, ?_⟩
      unfold f_X6_value
      rcases h with h | ⟨h1, h2⟩
      · rw [if_neg (by decide), if_neg (by decide), if_pos h, if_neg (by decide)]
      · rw [if_neg (by decide), if_neg (by decide), if_neg h1, if_neg h2, if_neg (by decide)]
  · rcases isV_cases b with ⟨j, hj, rfl, e2⟩ | ⟨e2, h⟩
    · obtain ⟨-, m2, -, m4, m5⟩ := hm.2.1
      have c1 : f_X5_value ah av given lh lv 1 (nI j) = if lh = 0 then some (.inr (given j, ())) else some (.inr (lv j, ())) := by
        unfold f_X5_value
        rw [e, Option.bind_some, if_neg one_ne, e2, Option.bind_some, if_neg one_ne, if_neg one_ne, ixd_of (vp_in_nI hj (by omega)), ixd_of (vp_in_nI hj (by omega)), nI_clamp (by omega)]
      have c2 : f_X6_value first hasRun thrown vrb 1 (nI j) = if hasRun 1 = 0 then some (first j, 0) else some (vrb (10 * 1 + j), 0) := by
        unfold f_X6_value
        have e3 : (10 : Int32) * 1 + nI j = nI (10 * 1 + j) := by rw [show (10 : Int32) * 1 = nI (10 * 1) from rfl, nI_add]
        rw [if_neg (by decide), if_neg (by decide), if_neg (nI_pos (by omega)), if_pos (show nI j ≤ 9 from nI_le (b := 9) (by omega) (by omega)), if_pos (by decide), ixd_of (by unfold vp_in; decide), ixd_of (vp_in_nI hj (by omega)), e3, ixd_of (vp_in_nI (by omega) (by omega)), nI_clamp (n := 10 * 1 + j) (by omega), nI_clamp (n := j) (by omega)]
        rfl
      refine .inr ?_
      rw [c1, c2, ← m2]
      rcases m4 with h | h
      · rw [if_pos h, if_pos h, hg j hj]
        exact ⟨_, rfl, rfl⟩
      · rw [if_neg (by rw [h]; decide), if_neg (by rw [h]; decide), m5 h j hj]
        exact ⟨_, rfl, rfl⟩
    · refine .inl ⟨bad e e2, ?_⟩
      unfold f_X6_value
      rcases h with h | ⟨h1, h2⟩
      · rw [if_neg (by decide), if_neg (by decide), if_pos h, if_neg (by decide)]
      · rw [if_neg (by decide), if_neg (by decide), if_neg h1, if_neg h2, if_neg (by decide)]
  · refine .inl ⟨?_, ?_⟩
    · unfold f_X5_value
      rw [e, Option.bind_some, if_pos rfl]
    · unfold f_X6_value
      rcases g with g | ⟨g1, g2, -⟩
      · rw [if_pos g, if_neg (by decide)]
      · rw [if_neg g1, if_pos g2, if_neg (by decide)]
theorem left_both (a b : Int32) (hm : mR ac ah as_ av ap lc lh ls lv lp lt calls hasRun leftMany vrb leftValue temporary) : (f_X5_left ap as_ lp ls a b = some (.inl 1) ∧ f_X6_left leftMany leftValue thrown a b = some (0, 1)) ∨ ∃ x, f_X5_left ap as_ lp ls a b = some (.inr (x, ())) ∧ f_X6_left leftMany leftValue thrown a b = some (x, 0) := by
  rcases isS_cases a with ⟨rfl, e⟩ | ⟨rfl, e⟩ | ⟨e, n0, n1, g⟩
  · obtain ⟨-, -, ⟨L, l1, l2, l3, l4⟩, -, -⟩ := hm.1
    by_cases h0 : b < 0
    · refine .inl ⟨?_, ?_⟩
      · unfold f_X5_left
        rw [e, Option.bind_some, if_neg one_ne, if_pos rfl, if_pos h0]
      · unfold f_X6_left
        rw [if_neg (by decide), if_neg (by decide), if_pos h0, if_neg (by decide)]
    · obtain ⟨j, hj, rfl⟩ := nI_of h0
      have e3 : (24 : Int32) * 0 + nI j = nI (24 * 0 + j) := by rw [show (24 : Int32) * 0 = nI (24 * 0) from rfl, nI_add]
      have l3' : leftMany (0 : Int32).toNatClampNeg = nI L := l3
      by_cases hL : j < L
      · refine .inr ⟨ap j, ?_, ?_⟩
        · unfold f_X5_left
          rw [e, Option.bind_some, if_neg one_ne, if_pos rfl, if_neg h0, l2, if_pos (nI_lt hL (by omega)), ixd_of (vp_in_nI (by omega) (by omega)), nI_clamp hj]
        · unfold f_X6_left
          rw [if_neg (by decide), if_neg (by decide), if_neg h0, if_neg (by decide), if_pos (by decide), ixd_of (by unfold vp_in; decide), l3', if_pos (nI_lt hL (by omega)), if_pos (by decide), e3, ixd_of (vp_in_nI (by omega) (by omega)), nI_clamp (n := 24 * 0 + j) (by omega), l4 j hL]
      · refine .inl ⟨?_, ?_⟩
        · unfold f_X5_left
          rw [e, Option.bind_some, if_neg one_ne, if_pos rfl, if_neg h0, l2, if_neg (nI_nlt (by omega) hj)]
        · unfold f_X6_left
          rw [if_neg (by decide), if_neg (by decide), if_neg h0, if_neg (by decide), if_pos (by decide), ixd_of (by unfold vp_in; decide), l3', if_neg (nI_nlt (by omega) hj), if_neg (by decide)]
  · obtain ⟨-, -, ⟨L, l1, l2, l3, l4⟩, -, -⟩ := hm.2.1
    by_cases h0 : b < 0
    · refine .inl ⟨?_, ?_⟩
      · unfold f_X5_left
        rw [e, Option.bind_some, if_neg one_ne, if_neg one_ne, if_pos h0]
      · unfold f_X6_left
        rw [if_neg (by decide), if_neg (by decide), if_pos h0, if_neg (by decide)]
    · obtain ⟨j, hj, rfl⟩ := nI_of h0
      have e3 : j < L → (24 : Int32) * 1 + nI j = nI (24 * 1 + j) := fun _ => by rw [show (24 : Int32) * 1 = nI (24 * 1) from rfl, nI_add]
      have l3' : leftMany (1 : Int32).toNatClampNeg = nI L := l3
      by_cases hL : j < L
      · refine .inr ⟨lp j, ?_, ?_⟩
        · unfold f_X5_left
          rw [e, Option.bind_some, if_neg one_ne, if_neg one_ne, if_neg h0, l2, if_pos (nI_lt hL (by omega)), ixd_of (vp_in_nI (by omega) (by omega)), nI_clamp hj]
        · unfold f_X6_left
          rw [if_neg (by decide), if_neg (by decide), if_neg h0, if_neg (by decide), if_pos (by decide), ixd_of (by unfold vp_in; decide), l3', if_pos (nI_lt hL (by omega)), if_pos (by decide), e3 hL, ixd_of (vp_in_nI (by omega) (by omega)), nI_clamp (n := 24 * 1 + j) (by omega), l4 j hL]
      · refine .inl ⟨?_, ?_⟩
        · unfold f_X5_left
          rw [e, Option.bind_some, if_neg one_ne, if_neg one_ne, if_neg h0, l2, if_neg (nI_nlt (by omega) hj)]
        · unfold f_X6_left
          rw [if_neg (by decide), if_neg (by decide), if_neg h0, if_neg (by decide), if_pos (by decide), ixd_of (by unfold vp_in; decide), l3', if_neg (nI_nlt (by omega) hj), if_neg (by decide)]
  · refine .inl ⟨?_, ?_⟩
    · unfold f_X5_left
      rw [e, Option.bind_some, if_pos rfl]
    · unfold f_X6_left
      rcases g with g | ⟨g1, g2, -⟩
      · rw [if_pos g, if_neg (by decide)]
      · rw [if_neg g1, if_pos g2, if_neg (by decide)]
theorem count_both {lz tz t temps : Int32} (a : Int32) (h1 : az = acts) (h2 : lz = lines) (h3 : t = temps) (h4 : tz = high) (hm : mR ac ah as_ av ap lc lh ls lv lp lt calls hasRun leftMany vrb leftValue temporary) : ∃ x, f_X5_count az ac lz lc tz t a = some (x, ()) ∧ f_X6_count acts calls high lines temps thrown a = some (x, 0) := by
  unfold f_X5_count f_X6_count
  have c0 : ac = calls (0 : Int32).toNatClampNeg := hm.1.1
  have c1 : lc = calls (1 : Int32).toNatClampNeg := hm.2.1.1
  rw [ixd_of (by unfold vp_in; decide), ixd_of (by unfold vp_in; decide), h1, h2, h3, h4, ← c0, ← c1]
  by_cases e0 : a = 0
  · rw [if_pos e0, if_pos e0]; exact ⟨_, rfl, rfl⟩
  · rw [if_neg e0, if_neg e0]
    by_cases e1 : a = 1
    · rw [if_pos e1, if_pos e1]; exact ⟨_, rfl, rfl⟩
    · rw [if_neg e1, if_neg e1]
      by_cases e2 : a = 2
      · rw [if_pos e2, if_pos e2]; exact ⟨_, rfl, rfl⟩
      · rw [if_neg e2, if_neg e2]
        by_cases e3 : a = 3
        · rw [if_pos e3, if_pos e3]; exact ⟨_, rfl, rfl⟩
        · rw [if_neg e3, if_neg e3]
          by_cases e4 : a = 4
          · rw [if_pos e4, if_pos e4]; exact ⟨_, rfl, rfl⟩
          · rw [if_neg e4, if_neg e4]
            by_cases e5 : a = 5
            · rw [if_pos e5, if_pos e5]; exact ⟨_, rfl, rfl⟩
            · rw [if_neg e5, if_neg e5]; exact ⟨_, rfl, rfl⟩
end PAsk
