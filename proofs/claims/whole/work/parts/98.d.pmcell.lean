/-! PURE PART 32: the reference runs one cell -/
theorem dv_m1 (x : Int64) : x / (-1) = -x := by
  apply Int64.toInt_inj.mp
  rw [Int64.toInt_div, show (-1 : Int64).toInt = -1 from rfl, Int64.toInt_neg, Int.tdiv_neg, Int.tdiv_one]
theorem rm_m1 (x : Int64) : x - x / (-1) * (-1) = 0 := by
  rw [dv_m1, Int64.neg_mul_neg, Int64.mul_one, Int64.sub_self]
theorem m_reckoned {o : Nat} (ho : o < 8) (x y : Int64) : f_X6_reckoned 0 (nI o) x y = if 6 ≤ o ∧ y = 0 then some (0, 1) else some (opV o x y, 0) := by
  by_cases h6 : o < 6
  · rw [if_neg (show ¬ (6 ≤ o ∧ y = 0) by omega)]
    match o, h6 with
    | 0, _ => rfl
    | 1, _ => rfl
    | 2, _ => rfl
    | 3, _ => rfl
    | 4, _ => rfl
    | 5, _ => rfl
  · by_cases hy : y = 0
    · rw [if_pos ⟨by omega, hy⟩]
      unfold f_X6_reckoned
      rw [if_neg (show ¬ nI o ≤ 5 from nI_ge (a := 5) (b := o) (by omega) (by omega)), if_pos ((lgc y 0).mpr hy)]
    · rw [if_neg (show ¬ (6 ≤ o ∧ y = 0) from fun z => hy z.2)]
      unfold f_X6_reckoned f_X6_reckoned_B19
      have h5 : ¬ nI o ≤ 5 := nI_ge (a := 5) (b := o) (by omega) (by omega)
      rw [if_neg h5, if_neg (fun z => hy ((lgc y 0).mp z)), if_neg h5]
      have h67 : o = 6 ∨ o = 7 := by omega
      by_cases h1 : y = -1
      · rw [if_pos ((lgc y (-1)).mpr h1), h1]
        rcases h67 with rfl | rfl
        · rw [if_pos (by decide)]
          show _ = some (x / (-1), (0 : Int32))
          rw [dv_m1]
        · rw [if_neg (by decide)]
          show _ = some (x - x / (-1) * (-1), (0 : Int32))
          rw [rm_m1]
      · rw [if_neg (fun z => h1 ((lgc y (-1)).mp z))]
        unfold f_X6_reckoned_B46 nzl
        rcases h67 with rfl | rfl
        · rw [if_neg (by decide), if_neg (by decide), if_neg (by decide), if_neg (by decide), if_neg (by decide), if_neg (by decide), if_pos (by decide), if_neg hy]
          rfl
        · rw [if_neg (by decide), if_neg (by decide), if_neg (by decide), if_neg (by decide), if_neg (by decide), if_neg (by decide), if_neg (by decide), if_neg hy]
          rfl
theorem m_put {p : Nat → Int64} {l : List Int64} (x : Int64) (h : l.length < 400) : f_X6_put (nI l.length) p x = some (nI (l.length + 1), vp_updL p l.length x) := by
  unfold f_X6_put
  rw [ixd_of (vp_in_nI h (by omega)), nI_clamp (by omega), nI_1]
theorem nI_subk (a k : Nat) : nI (a + k) - nI k = nI a := by rw [← nI_add, Int32.add_sub_cancel]
theorem cB_end {values : Nat → Int64} {r : List Int64} {d k : Int32} {a b : Int64} (fu : Nat) (h : r.length < 400) : f_X6_call_B36 (fu + 1) d (nI r.length) values k a b k = some (d, nI (r.length + 1), vp_updL values r.length a) := by
  rw [f_X6_call_B36, if_pos (Int32.le_refl k), m_put _ h, Option.bind_some]
theorem cB_go {values : Nat → Int64} {m i : Nat} {d : Int32} {k : Nat} {a b : Int64} (fu : Nat) (hi : i < k) (hk : k ≤ 3) (h : m + i < 400) : f_X6_call_B36 (fu + 1) d (nI m) values (nI k) a b (nI i) = f_X6_call_B36 fu d (nI m) values (nI k) (a + b * values (m + i)) (b * 3) (nI (i + 1)) := by
  rw [f_X6_call_B36, if_neg (nI_ge hi (by omega)), nI_add, ixd_of (vp_in_nI h (by omega)), nI_clamp (by omega), nI_1]
theorem m_call {values V Tm : Nat → Int64} {l : List Int64} {n k : Nat} (hk : k ≤ 3) (hkl : k ≤ l.length) (hl : l.length < 390) (hp : pl values l) : ∃ values' l', f_X6_call (nI n) (nI l.length) values (nI k) = some (nI (n + 1), nI l'.length, values') ∧ pl values' l' ∧ evC (10, nI k) (V, Tm, l, n) = (true, (V, Tm, l', n + 1)) := by
  match k, hk, hkl with
  | 0, _, _ =>
    refine ⟨vp_updL values l.length (clV (n + 1) 0 0 0), clV (n + 1) 0 0 0 :: l, ?_, pl_push hp, rfl⟩
    unfold f_X6_call
    rw [nI_1, show nI l.length - nI 0 = nI l.length from nI_subk l.length 0, FU_4]
    show f_X6_call_B36 _ _ _ _ (nI 0) _ _ (nI 0) = _
    rw [cB_end (4995 + 4) (by omega)]
    unfold clV
    rw [Int64.mul_zero, Int64.mul_zero, Int64.add_zero, Int64.add_zero, Int64.add_zero]
    rfl
  | 1, _, h1 =>
    obtain ⟨x, r, rfl⟩ := ln1 h1
    rw [List.length_cons] at hl
    refine ⟨vp_updL values r.length (clV (n + 1) x 0 0), clV (n + 1) x 0 0 :: r, ?_, pl_push hp.2, rfl⟩
    unfold f_X6_call
    rw [nI_1, show nI (x :: r).length - nI 1 = nI r.length from nI_subk r.length 1, FU_4]
    show f_X6_call_B36 (4998 + 1 + 1) _ _ _ (nI 1) _ _ (nI 0) = _
    have hx0 : values (r.length + 0) = x := hp.1
    rw [cB_go _ (by omega) (by omega) (by omega), cB_end _ (by omega), Int64.one_mul, hx0]
    unfold clV
    rw [Int64.mul_zero, Int64.mul_zero, Int64.add_zero, Int64.add_zero]
    rfl
  | 2, _, h1 =>
    obtain ⟨y, x, r, rfl⟩ := ln2 h1
    rw [List.length_cons, List.length_cons] at hl
    have hx0 : values (r.length + 0) = x := hp.2.1
    have hy : values (r.length + (0 + 1)) = y := hp.1
    refine ⟨vp_updL values r.length (clV (n + 1) x y 0), clV (n + 1) x y 0 :: r, ?_, pl_push hp.2.2, rfl⟩
    unfold f_X6_call
    rw [nI_1, show nI (y :: x :: r).length - nI 2 = nI r.length from nI_subk r.length 2, FU_4]
    show f_X6_call_B36 (4997 + 1 + 1 + 1) _ _ _ (nI 2) _ _ (nI 0) = _
    rw [cB_go _ (by omega) (by omega) (by omega), cB_go _ (by omega) (by omega) (by omega), cB_end _ (by omega), Int64.one_mul, hx0, hy, show (1 : Int64) * 3 = 3 from rfl]
    unfold clV
    rw [Int64.mul_zero, Int64.add_zero]
    rfl
  | 3, _, h1 =>
    obtain ⟨z, y, x, r, rfl⟩ := ln3 h1
    rw [List.length_cons, List.length_cons, List.length_cons] at hl
    have hz : values (r.length + (0 + 1 + 1)) = z := hp.1
    have hy : values (r.length + (0 + 1)) = y := hp.2.1
    have hx0 : values (r.length + 0) = x := hp.2.2.1
    refine ⟨vp_updL values r.length (clV (n + 1) x y z), clV (n + 1) x y z :: r, ?_, pl_push hp.2.2.2, rfl⟩
    unfold f_X6_call
    rw [nI_1, show nI (z :: y :: x :: r).length - nI 3 = nI r.length from nI_subk r.length 3, FU_4]
    show f_X6_call_B36 (4996 + 1 + 1 + 1 + 1) _ _ _ (nI 3) _ _ (nI 0) = _
    rw [cB_go _ (by omega) (by omega) (by omega), cB_go _ (by omega) (by omega) (by omega), cB_go _ (by omega) (by omega) (by omega), cB_end _ (by omega), Int64.one_mul, hx0, hy, hz, show (1 : Int64) * 3 = 3 from rfl, show (3 : Int64) * 3 = 9 from rfl]
    rfl
/-- what the reference's running of a cell comes to -/
def wdR (now temporary : Nat → Int64) (r : Option (Int32 × Int32 × Int32 × (Nat → Int64))) (q : Bool × St) : Prop := ∃ done' fails' vm' values', r = some (done', fails', vm', values') ∧ ((q.1 = true ∧ fails' = 0 ∧ mS now temporary done' values' vm' q.2) ∨ (q.1 = false ∧ fails' = 1 ∧ mB now temporary done' q.2 ∧ q.2.2.2.1 = []))
theorem m_worked {now temporary values : Nat → Int64} {done vm : Int32} {c : Cl} {s : St} {so : Nat} {w : Int32} (hso : so ≤ 5) (hcc : c = (kc (nI so), w)) (hc : okC c) (hk : tkC c ≤ s.2.2.1.length) (hl : s.2.2.1.length < 390) (hm : mS now temporary done values vm s) : wdR now temporary (f_X6_worked done 0 now temporary vm values (nI so) w) (evC c s) := by
  obtain ⟨V, Tm, l, n⟩ := s
  subst hcc
  have hl : l.length < 390 := hl
  have hk : tkC (kc (nI so), w) ≤ l.length := hk
  obtain ⟨⟨m1, m2, m3⟩, hvm, m4⟩ := hm
  have hvm : vm = nI l.length := hvm
  have m4 : pl values l := m4
  have m3 : done = nI n := m3
  subst hvm m3
  match so, hso with
  | 0, _ =>
    refine ⟨nI n, 0, nI (l.length + 1), vp_updL values l.length w.toInt64, ?_, .inl ⟨rfl, rfl, ⟨m1, m2, rfl⟩, rfl, pl_push m4⟩⟩
    unfold f_X6_worked
    rw [if_pos (by decide), m_put _ (by omega), Option.bind_some]
  | 1, _ =>
    rcases hc with ⟨hk', -⟩ | ⟨-, a, ha, hw⟩ | ⟨hk', -⟩ | ⟨hk', -⟩ | ⟨hk', -⟩ | ⟨hk', -⟩
    · exact absurd (show kc (nI 1) = _ from hk') (by decide)
    · have hw : w = nI a := hw
      have hv : now a = V a := m1 a ha
      refine ⟨nI n, 0, nI (l.length + 1), vp_updL values l.length (V a), ?_, .inl ⟨rfl, rfl, ⟨m1, m2, rfl⟩, rfl, ?_⟩⟩
      · unfold f_X6_worked
        rw [if_neg (by decide), if_pos (by decide), hw, ixd_of (vp_in_nI ha (by omega)), nI_clamp (by omega), m_put _ (by omega), Option.bind_some, hv]
      · show pl _ (V w.toNatClampNeg :: l)
        rw [hw, nI_clamp (by omega)]
        exact pl_push m4
    · exact absurd (show kc (nI 1) = _ from hk') (by decide)
    · exact absurd (show kc (nI 1) = _ from hk') (by decide)
    · exact absurd (show kc (nI 1) = _ from hk') (by decide)
    · exact absurd (show kc (nI 1) = _ from hk') (by decide)
  | 2, _ =>
    rcases hc with ⟨hk', -⟩ | ⟨hk', -⟩ | ⟨hk', -⟩ | ⟨hk', -⟩ | ⟨hk', -⟩ | ⟨-, a, ha, hw⟩
    · exact absurd (show kc (nI 2) = _ from hk') (by decide)
    · exact absurd (show kc (nI 2) = _ from hk') (by decide)
    · exact absurd (show kc (nI 2) = _ from hk') (by decide)
    · exact absurd (show kc (nI 2) = _ from hk') (by decide)
    · exact absurd (show kc (nI 2) = _ from hk') (by decide)
    · have hw : w = nI a := hw
      have hv : temporary a = Tm a := m2 a ha
      refine ⟨nI n, 0, nI (l.length + 1), vp_updL values l.length (Tm a), ?_, .inl ⟨rfl, rfl, ⟨m1, m2, rfl⟩, rfl, ?_⟩⟩
      · unfold f_X6_worked
        rw [if_neg (by decide), if_neg (by decide), if_pos (by decide), hw, ixd_of (vp_in_nI (by omega) (by omega)), nI_clamp (by omega), m_put _ (by omega), Option.bind_some, hv]
      · show pl _ (Tm w.toNatClampNeg :: l)
        rw [hw, nI_clamp (by omega)]
        exact pl_push m4
  | 3, _ =>
    rcases hc with ⟨hk', -⟩ | ⟨hk', -⟩ | ⟨-, o, ho, hw⟩ | ⟨hk', -⟩ | ⟨hk', -⟩ | ⟨hk', -⟩
    · exact absurd (show kc (nI 3) = _ from hk') (by decide)
    · exact absurd (show kc (nI 3) = _ from hk') (by decide)
    · have hw : w = nI o := hw
      have hk2 : 2 ≤ l.length := hk
      obtain ⟨y, x, r, rfl⟩ := ln2 hk2
      rw [List.length_cons, List.length_cons] at hl
      have hy : values (r.length + 1) = y := m4.1
      have e1 : nI (y :: x :: r).length - 1 = nI (r.length + 1) := nI_pred (r.length + 1)
      have e2 : f_X6_worked (nI n) 0 now temporary (nI (y :: x :: r).length) values (nI 3) w = (f_X6_reckoned 0 (nI o) x y).bind fun q16 => some (nI n, q16.2, nI (r.length + 1), vp_updL values r.length q16.1) := by
        unfold f_X6_worked
        rw [if_neg (by decide), if_neg (by decide), if_neg (by decide), if_pos (by decide), e1, nI_pred, ixd_of (vp_in_nI (by omega) (by omega)), ixd_of (vp_in_nI (by omega) (by omega)), hw, nI_clamp (n := r.length) (by omega), nI_clamp (n := r.length + 1) (by omega), hy, m4.2.1]
        rw [m_reckoned ho]
        by_cases hf : 6 ≤ o ∧ y = 0
        · rw [if_pos hf, Option.bind_some, Option.bind_some, ixd_of (vp_in_nI (by omega) (by omega))]
        · rw [if_neg hf, Option.bind_some, Option.bind_some, ixd_of (vp_in_nI (by omega) (by omega))]
      have ev : evC (kc (nI 3), w) (V, Tm, y :: x :: r, n) = if 6 ≤ o ∧ y = 0 then (false, (V, Tm, [], n)) else (true, (V, Tm, opV o x y :: r, n)) := by
        show evC (4, w) _ = _
        rw [evC_4, hw, nI_clamp (by omega)]
      rw [e2, ev, m_reckoned ho]
      by_cases hf : 6 ≤ o ∧ y = 0
      · rw [if_pos hf, if_pos hf, Option.bind_some]
        exact ⟨_, _, _, _, rfl, .inr ⟨rfl, rfl, ⟨m1, m2, rfl⟩, rfl⟩⟩
      · rw [if_neg hf, if_neg hf, Option.bind_some]
        exact ⟨_, _, _, _, rfl, .inl ⟨rfl, rfl, ⟨m1, m2, rfl⟩, rfl, pl_push m4.2.2⟩⟩
    · exact absurd (show kc (nI 3) = _ from hk') (by decide)
    · exact absurd (show kc (nI 3) = _ from hk') (by decide)
    · exact absurd (show kc (nI 3) = _ from hk') (by decide)
  | 4, _ =>
    have hk1 : 1 ≤ l.length := hk
    obtain ⟨v, r, rfl⟩ := ln1 hk1
    rw [List.length_cons] at hl
    have e1 : nI (v :: r).length - 1 = nI r.length := nI_pred r.length
    refine ⟨nI n, 0, nI (r.length + 1), vp_updL values r.length (-v), ?_, .inl ⟨rfl, rfl, ⟨m1, m2, rfl⟩, rfl, pl_push m4.2⟩⟩
    unfold f_X6_worked
    rw [if_neg (by decide), if_neg (by decide), if_neg (by decide), if_neg (by decide), if_pos (by decide), e1, ixd_of (vp_in_nI (by omega) (by omega)), ixd_of (vp_in_nI (by omega) (by omega)), nI_clamp (by omega), m4.1]
    rfl
  | 5, _ =>
    rcases hc with ⟨hk', -⟩ | ⟨hk', -⟩ | ⟨hk', -⟩ | ⟨hk', -⟩ | ⟨-, a, ha, hw⟩ | ⟨hk', -⟩
    · exact absurd (show kc (nI 5) = _ from hk') (by decide)
    · exact absurd (show kc (nI 5) = _ from hk') (by decide)
    · exact absurd (show kc (nI 5) = _ from hk') (by decide)
    · exact absurd (show kc (nI 5) = _ from hk') (by decide)
    · have hw : w = nI a := hw
      subst hw
      have ht2 : tkC (kc (nI 5), nI a) = a := by show (nI a).toNatClampNeg = a; exact nI_clamp (by omega)
      rw [ht2] at hk
      obtain ⟨v', l', q1, q2, q3⟩ := m_call (V := V) (Tm := Tm) (n := n) ha hk hl m4
      have q3 : evC (kc (nI 5), nI a) (V, Tm, l, n) = (true, (V, Tm, l', n + 1)) := q3
      rw [q3]
      refine ⟨nI (n + 1), 0, nI l'.length, v', ?_, .inl ⟨rfl, rfl, ⟨m1, m2, rfl⟩, rfl, q2⟩⟩
      unfold f_X6_worked
      rw [if_neg (by decide), if_neg (by decide), if_neg (by decide), if_neg (by decide), if_neg (by decide), q1, Option.bind_some]
    · exact absurd (show kc (nI 5) = _ from hk') (by decide)
