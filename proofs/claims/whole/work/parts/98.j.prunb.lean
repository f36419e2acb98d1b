/-! PURE PART 38: a run, both sides -/
/-- what a machine of the class, and the reference's place for it, hold behind their runs -/
def mres (cc ch cs : Int32) (cv cp : Nat → Int64) (mc mh ml : Int32) (vrb leftValue : Nat → Int64) (a : Nat) : Prop := cc = mc ∧ ch = mh ∧ (∃ L : Nat, L ≤ 20 ∧ cs = nI L ∧ ml = nI L ∧ ∀ k : Nat, k < L → cp k = leftValue (24 * a + k)) ∧ (ch = 0 ∨ ch = 1) ∧ (ch = 1 → ∀ v : Nat, v < 10 → cv v = vrb (10 * a + v))
def mR (ac ah az : Int32) (av ap : Nat → Int64) (lc lh lz : Int32) (lv lp lt : Nat → Int64) (calls hasRun leftMany : Nat → Int32) (vrb leftValue temporary : Nat → Int64) : Prop := mres ac ah az av ap (calls 0) (hasRun 0) (leftMany 0) vrb leftValue 0 ∧ mres lc lh lz lv lp (calls 1) (hasRun 1) (leftMany 1) vrb leftValue 1 ∧ ∀ j : Nat, j < 100 → lt j = temporary j
def ocC (q : Bool × St) (h' : Nat) (z : Int32) (vars' temps' : Nat → Int64) (calls' : Int32) (pile' : Nat → Int64) (size' : Int32) : Prop := (q.1 = true ∧ z = 1 ∧ mS vars' temps' calls' pile' size' q.2 ∧ q.2.2.2.1.length = h') ∨ (q.1 = false ∧ z = 0 ∧ size' = 0 ∧ mB vars' temps' calls' q.2 ∧ q.2.2.2.1 = [])
def ocM (q : Bool × St) (h' : Nat) (fails' : Int32) (now' temps' : Nat → Int64) (done' : Int32) (values' : Nat → Int64) (vm' : Int32) : Prop := (q.1 = true ∧ fails' = 0 ∧ mS now' temps' done' values' vm' q.2 ∧ q.2.2.2.1.length = h') ∨ (q.1 = false ∧ fails' = 1 ∧ mB now' temps' done' q.2 ∧ q.2.2.2.1 = [])
theorem oc_both {q : Bool × St} {h' : Nat} {z fails' calls' done' size' vm' : Int32} {vars' temps' pile' now' temps2 values' : Nat → Int64} (h20 : h' ≤ 20) (hc : ocC q h' z vars' temps' calls' pile' size') (hm : ocM q h' fails' now' temps2 done' values' vm') :
    ∃ L : Nat, L ≤ 20 ∧ ((fails' = 0 ∧ vm' = nI L) ∨ (fails' = 1 ∧ L = 0)) ∧ size' = nI L ∧ (∀ k : Nat, k < L → pile' k = values' k) ∧ (∀ v : Nat, v < 10 → vars' v = now' v) ∧ calls' = done' ∧ (∀ j : Nat, j < 100 → temps' j = temps2 j) ∧ ((z = 1 ∧ fails' = 0) ∨ (z = 0 ∧ fails' = 1)) := by
  rcases hc with ⟨a1, a2, ⟨⟨b1, b2, b3⟩, b4, b5⟩, a4⟩ | ⟨a1, a2, a3, ⟨b1, b2, b3⟩, a5⟩
  · rcases hm with ⟨c1, c2, ⟨⟨d1, d2, d3⟩, d4, d5⟩, c4⟩ | ⟨c1, -⟩
    · exact ⟨h', h20, .inl ⟨c2, by rw [d4, a4]⟩, by rw [b4, a4], fun k hk => pl_get _ b5 d5 k (by omega), fun v hv => by rw [b1 v hv, d1 v hv], by rw [b3, d3], fun j hj => by rw [b2 j hj, d2 j hj], .inl ⟨a2, c2⟩⟩
    · rw [a1] at c1; cases c1
  · rcases hm with ⟨c1, -⟩ | ⟨c1, c2, ⟨d1, d2, d3⟩, c4⟩
    · rw [a1] at c1; cases c1
    · exact ⟨0, by omega, .inr ⟨c2, rfl⟩, by rw [a3, nI_0], fun k hk => absurd hk (Nat.not_lt_zero k), fun v hv => by rw [b1 v hv, d1 v hv], by rw [b3, d3], fun j hj => by rw [b2 j hj, d2 j hj], .inr ⟨a2, c2⟩⟩
theorem mres_frame {cc ch cs mc mh ml : Int32} {cv cp vrb leftValue vrb' leftValue' : Nat → Int64} {a b : Nat} (hab : (a = 0 ∧ b = 1) ∨ (a = 1 ∧ b = 0)) (h : mres cc ch cs cv cp mc mh ml vrb leftValue b) (h1 : ∀ i : Nat, (i < 24 * a ∨ 24 * a + 24 ≤ i) → leftValue' i = leftValue i) (h2 : ∀ i : Nat, (i < 10 * a ∨ 10 * a + 10 ≤ i) → vrb' i = vrb i) : mres cc ch cs cv cp mc mh ml vrb' leftValue' b := by
  obtain ⟨p1, p2, ⟨L, p3, p4, p5, p6⟩, p7, p8⟩ := h
  exact ⟨p1, p2, ⟨L, p3, p4, p5, fun k hk => by rw [p6 k hk, h1 _ (by omega)]⟩, p7, fun hh v hv => by rw [p8 hh v hv, h2 _ (by omega)]⟩
theorem flat_le : ∀ (Ps : List (List Cl)) (P : List Cl), P ∈ Ps → P.length ≤ Ps.flatten.length := by
  intro Ps
  induction Ps with
  | nil => intro P h; exact absurd h List.not_mem_nil
  | cons Q R ih =>
    intro P h
    rw [List.flatten_cons, List.length_append]
    rcases List.mem_cons.mp h with rfl | h
    · omega
    · have := ih P h; omega
section PRunB
variable {ak an : Nat → Int32} {az : Int32} {ac ah as_ : Int32} {ap at_ av given : Nat → Int64} {Lk Lnn : Nat → Int32} {Lz lc lh ls : Int32} {lp lt lv : Nat → Int64} {Tk Tn : Nat → Int32} {Tz : Int32}
variable {acts done fails high lines thrown vm : Int32} {calls hasRun kind leftMany lineOf lineSort lineTerm number opn part pile sort stage what : Nat → Int32} {first leftValue now temporary values vrb : Nat → Int64}
theorem act_okK {A : List Cl} (h : acR ak an az acts kind number A) : ∀ c ∈ A, okK c ∧ ¬ c.1 = 11 ∧ ¬ c.1 = 12 := by
  intro c hc
  obtain ⟨i, hi, hg⟩ := List.mem_iff_getElem.mp hc
  obtain ⟨κ, h1, h2, h3⟩ := h.2.2.2.2 i c (by rw [List.getElem?_eq_getElem hi, hg])
  have hc2 : c = (nI κ, c.2) := by rw [← h2]
  have n11 : ¬ c.1 = 11 := by rw [h2]; exact fun z => by have := (nI_eq (b := 11) (by omega) (by omega)).mp z; omega
  have n12 : ¬ c.1 = 12 := by rw [h2]; exact fun z => by have := (nI_eq (b := 12) (by omega) (by omega)).mp z; omega
  refine ⟨?_, n11, n12⟩
  by_cases hk : κ = 0 ∨ κ = 1 ∨ κ = 4 ∨ κ = 5 ∨ κ = 10
  · rw [hc2]; exact .inl (okC_of hk h3)
  · by_cases hk2 : κ = 2 ∨ κ = 3 ∨ κ = 6
    · rw [hc2]; exact .inr (.inl (okE_of hk2 h3))
    · have hk3 : κ = 7 ∨ κ = 8 ∨ κ = 9 := by omega
      refine .inr (.inr ?_)
      rw [h2]
      rcases hk3 with rfl | rfl | rfl
      · exact .inl rfl
      · exact .inr (.inl rfl)
      · exact .inr (.inr rfl)
theorem run0 {A : List Cl} {h' : Nat} (hacr : acR ak an az acts kind number A) (hh : hAL A 0 = some h') (h20 : h' ≤ 20) (hg : ∀ v : Nat, v < 10 → given v = first v) (hm : mR ac ah as_ av ap lc lh ls lv lp lt calls hasRun leftMany vrb leftValue temporary) :
    ∃ ans ac' as' ap' at' av' calls' done' fails' hasRun' leftMany' leftValue' now' vm' values' vrb',
      f_X5_run ak an az ac ah ap as_ at_ av given Lk Lnn Lz lc lh lp ls lt lv Tk Tn Tz 0 = some (.inr (ans, (ac', 1, ap', as', at', av', lc, lh, lp, ls, lt, lv))) ∧
      f_X6_run acts calls done fails first hasRun high kind leftMany leftValue lineOf lineSort lineTerm lines now number opn part pile sort stage temporary thrown vm values vrb what 0 = some (ans, (calls', done', fails', hasRun', leftMany', leftValue', now', opn, stage, temporary, 0, vm', values', vrb')) ∧
      mR ac' 1 as' av' ap' lc lh ls lv lp lt calls' hasRun' leftMany' vrb' leftValue' temporary := by
  obtain ⟨vars1, b1, b2⟩ := p_begin (p := given) (vars := av) (c0 := ac) (hr0 := ah) (s0 := as_)
  have hoks := act_okK hacr
  obtain ⟨v2, t2, c2, p2, s2, z, w1, w2⟩ := p_works (s := (given, at_, [], 0)) (h' := h') (temps := at_) (pile := ap) (calls := 0) (size := 0) hacr.1 (fun c hc => (hoks c hc).1) (by show 0 ≤ 20; omega) hh ⟨⟨b2, fun _ _ => rfl, rfl⟩, rfl, trivial⟩
  have w2 : ocC (evL A (given, at_, [], 0)) h' z v2 t2 c2 p2 s2 := w2
  obtain ⟨now1, n1, n2⟩ := r_29 (acts := acts) (calls := calls) (done := done) (fails := fails) (first := first) (hasRun := hasRun) (high := high) (kind := kind) (leftMany := leftMany) (leftValue := leftValue) (lineOf := lineOf) (lineSort := lineSort) (lineTerm := lineTerm) (lines := lines) (number := number) (opn := opn) (part := part) (pile := pile) (sort := sort) (stage := stage) (temporary := temporary) (thrown := 0) (vm := vm) (values := values) (vrb := vrb) (what := what) (l1 := 0) 10 0 now FU (by omega) (by rw [FU_4]; omega) (fun v hv => absurd hv (Nat.not_lt_zero v))
  obtain ⟨d3, f3, n3, vm3, v3, r1, r2⟩ := m_acts (temps := at_) hacr.2.2.1 hacr.2.2.2.1 hoks A [] rfl (given, at_, [], 0) h' now1 values 0 0 FU (by show 0 ≤ 20; omega) hh ⟨⟨fun v hv => (n1 v hv).trans (hg v hv).symm, fun _ _ => rfl, rfl⟩, rfl, trivial⟩ (by have := hacr.2.2.1; rw [FU_4]; omega)
  obtain ⟨L, hL, o1, o2, o3, o4, o5, -, o7⟩ := oc_both h20 w2 r2
  obtain ⟨lv', vb', q1, q2, q3, q4, q5⟩ := r_tail (acts := acts) (calls := upd calls 0 d3) (done := d3) (fails := f3) (first := first) (hasRun := upd hasRun 0 1) (high := high) (kind := kind) (leftMany := leftMany) (leftValue := leftValue) (lineOf := lineOf) (lineSort := lineSort) (lineTerm := lineTerm) (lines := lines) (now := n3) (number := number) (opn := opn) (part := part) (pile := pile) (sort := sort) (stage := stage) (temporary := temporary) (thrown := 0) (vm := vm3) (values := v3) (vrb := vrb) (what := what) (a := 0) (by omega) hL o1
  have hlen0 : nI ([] : List Cl).length = 0 := nI_0
  rw [hlen0, ← hacr.2.1] at r1
  refine ⟨if f3 = 0 then 0 else d3 + 1, c2, s2, p2, t2, v2, upd calls 0 d3, d3, f3, upd hasRun 0 1, upd leftMany 0 (nI L), lv', n3, vm3, v3, vb', ?_, ?_, ?_, ?_, hm.2.2⟩
  · unfold f_X5_run f_X5_isSide
    rw [if_pos rfl, Option.bind_some, if_neg one_ne, if_pos rfl, b1, Option.bind_some]
    dsimp only
    rw [w1, Option.bind_some]
    dsimp only
    rcases o7 with ⟨rfl, rfl⟩ | ⟨rfl, rfl⟩
    · rw [if_neg one_ne, if_pos rfl]
    · rw [if_pos rfl, if_neg one_ne, o5]
  · unfold f_X6_run
    rw [if_neg (by decide), if_pos (by decide), if_pos (by decide)]
    rw [nI_0] at n2 q1
    rw [n2, f_X6_run_B29, if_pos (by decide), if_pos rfl]
    unfold f_X6_runActs
    rw [r1, Option.bind_some, ixd_of (by unfold vp_in; decide), ixd_of (by unfold vp_in; decide)]
    exact q1
  · refine ⟨by rw [pk_us, o5], by rw [pk_us], ⟨L, hL, o2, by rw [pk_us], fun k hk => by rw [o3 k hk, q2 k hk]⟩, .inr rfl, fun _ v hv => by rw [o4 v hv, q4 v hv]⟩
  · rw [pk_un (show (1 : Nat) ≠ 0 by decide), pk_un (show (1 : Nat) ≠ 0 by decide), pk_un (show (1 : Nat) ≠ 0 by decide)]
    exact mres_frame (.inl ⟨rfl, rfl⟩) hm.2.1 q3 q5
/-- the reference runs lines and pile -/
theorem ref_lines {T n : Nat} {S : Sp} {terms temps : Int32} (hT : T ≤ 3000) (hmd : mdR sort what part terms high pile lines lineSort lineOf lineTerm temps T S) (hi : invS S n) (hn : n ≤ 100) (ho : okS S n) {s : St} (hs : s.2.2.1 = []) (hm : mB now temporary 0 s) :
    ∃ done' fails' now' opn' stage' temporary' vm' values', f_X6_runLines 0 0 high lineOf lineSort lineTerm lines now opn part pile sort stage temporary vm values what = some (done', fails', now', opn', stage', temporary', vm', values') ∧ ocM (evL (fl S.1 ++ S.2.1.flatten) s) S.2.1.length fails' now' temporary' done' values' vm' := by
  have hLH := LH_of hT hmd ho hn
  obtain ⟨-, hw, hhi, h20, hp, hli, hll, -⟩ := hmd
  have hlN : S.1.length ≤ n := by have := hi.1; omega
  obtain ⟨d1, f1, n1, o1, s1, t1, v1, e1, g1, g2, g3⟩ := m_lines (high := high) (pile := pile) hT hw (N := S.1.length) (by omega) rfl hll hLH S.1 [] rfl s now temporary values 0 vm opn stage FU hs hm (by rw [FU_4]; omega)
  have hlen0 : nI ([] : List Ln).length = 0 := nI_0
  rw [hlen0, ← hli] at e1
  unfold f_X6_runLines
  rw [e1, evL_app]
  rcases g1 with ⟨t1', rfl⟩ | ⟨t1', rfl⟩
  · rw [if_pos t1']
    have hph := pile_hAL ho h20
    have hl0 : (evL (fl S.1) s).2.2.2.1.length = 0 := by rw [g3]; rfl
    have h100 : ∀ P ∈ S.2.1, P.length ≤ 100 := by
      intro P hP
      have h1 := hi.2.2.1
      have := flat_le S.2.1 P hP
      omega
    obtain ⟨d2, f2, o2, s2, vm2, v2, e2, e3⟩ := m_piles (lineOf := lineOf) (lineSort := lineSort) (lineTerm := lineTerm) (lines := lines) hT hw h20 hp ho.1 h100 S.2.1 [] rfl (evL (fl S.1) s).2 S.2.1.length n1 t1 v1 d1 0 o1 s1 FU (by omega) (by rw [hl0]; exact hph.1) ⟨g2, by rw [g3]; rfl, by rw [g3]; trivial⟩ (by rw [FU_4]; omega)
    have hlen1 : nI ([] : List (List Cl)).length = 0 := nI_0
    rw [hlen1, ← hhi] at e2
    exact ⟨d2, f2, n1, o2, s2, t1, vm2, v2, e2, e3⟩
  · rw [if_neg (by rw [t1']; exact Bool.false_ne_true)]
    refine ⟨d1, 1, n1, o1, s1, t1, 0, v1, ?_, .inr ⟨t1', rfl, g2, g3⟩⟩
    rw [FU_4]
    show f_X6_runLines_B145 (4999 + 1) _ _ _ _ _ _ _ _ _ _ _ _ _ _ _ _ _ _ = _
    rw [f_X6_runLines_B145]
    by_cases hz : high ≤ 0
    · rw [if_pos hz]
    · rw [if_neg hz, if_neg one_ne]
/-- the class runs lines and pile -/
theorem cls_lines {lnz tmz : Int32} {ends starts : Nat → Int32} {t : Int32} {T n : Nat} {S : Sp} {terms temps : Int32} (hT : T ≤ 3000) (hmd : mdR sort what part terms high pile lines lineSort lineOf lineTerm temps T S) (hcs : csR Tk Tn Tz Lk Lnn Lz ends lnz tmz starts t S) (hn : n ≤ 100) (ho : okS S n) :
    ∃ z vars' temps' calls' pile' size', f_X5_run ak an az ac ah ap as_ at_ av given Lk Lnn Lz lc lh lp ls lt lv Tk Tn Tz 1 = some (.inr (if z = 0 then calls' + 1 else 0, (ac, ah, ap, as_, at_, av, calls', 1, pile', size', temps', vars'))) ∧ ocC (evL (fl S.1 ++ S.2.1.flatten) (given, lt, [], 0)) S.2.1.length z vars' temps' calls' pile' size' := by
  have hLH := LH_of hT hmd ho hn
  have hfl := fl_hAL S.1 hLH
  have hph := pile_hAL ho hmd.2.2.2.1
  obtain ⟨vars1, b1, b2⟩ := p_begin (p := given) (vars := lv) (c0 := lc) (hr0 := lh) (s0 := ls)
  obtain ⟨v2, t2, c2, p2, s2, z, w1, w2⟩ := p_works (s := (given, lt, [], 0)) (h' := 0) (temps := lt) (pile := lp) (calls := 0) (size := 0) hcs.2.1.1 hfl.2 (by show 0 ≤ 20; omega) hfl.1 ⟨⟨b2, fun _ _ => rfl, rfl⟩, rfl, trivial⟩
  have e0 : f_X5_run ak an az ac ah ap as_ at_ av given Lk Lnn Lz lc lh lp ls lt lv Tk Tn Tz 1 = (if z = 0 then some (.inr (c2 + 1, (ac, ah, ap, as_, at_, av, c2, 1, p2, s2, t2, v2))) else (f_X2_works Tk Tn Tz c2 p2 s2 t2 v2).bind fun q19 => if q19.1 = 0 then some (.inr (q19.2.1 + 1, (ac, ah, ap, as_, at_, av, q19.2.1, 1, q19.2.2.1, q19.2.2.2.1, q19.2.2.2.2.1, q19.2.2.2.2.2))) else some (.inr (0, (ac, ah, ap, as_, at_, av, q19.2.1, 1, q19.2.2.1, q19.2.2.2.1, q19.2.2.2.2.1, q19.2.2.2.2.2)))) := by
    unfold f_X5_run f_X5_isSide
    rw [if_neg (by decide), if_pos rfl, Option.bind_some, if_neg one_ne, if_neg (by decide), b1, Option.bind_some]
    dsimp only
    rw [w1, Option.bind_some]
    rfl
  rw [evL_app]
  rcases w2 with ⟨a1, rfl, a3, a4⟩ | ⟨a1, rfl, a3, a4, a5⟩
  · rw [if_pos a1]
    obtain ⟨v4, t4, c4, p4, s4, z4, x1, x2⟩ := p_works (h' := S.2.1.length) hcs.1.1 (fun c hc => Or.inl (hph.2 c hc)) (by omega) (by rw [a4]; exact hph.1) a3
    refine ⟨z4, v4, t4, c4, p4, s4, ?_, x2⟩
    rw [e0, if_neg one_ne, x1, Option.bind_some]
    dsimp only
    by_cases hz : z4 = 0
    · rw [if_pos hz, if_pos hz]
    · rw [if_neg hz, if_neg hz]
  · rw [if_neg (by rw [a1]; exact Bool.false_ne_true)]
    refine ⟨0, v2, t2, c2, p2, s2, ?_, .inr ⟨a1, rfl, a3, a4, a5⟩⟩
    rw [e0, if_pos rfl, if_pos rfl]
theorem run1 {lnz tmz : Int32} {ends starts : Nat → Int32} {t : Int32} {T n : Nat} {S : Sp} {terms temps : Int32} (hT : T ≤ 3000) (hmd : mdR sort what part terms high pile lines lineSort lineOf lineTerm temps T S) (hcs : csR Tk Tn Tz Lk Lnn Lz ends lnz tmz starts t S) (hi : invS S n) (hn : n ≤ 100) (ho : okS S n) (hg : ∀ v : Nat, v < 10 → given v = first v) (hm : mR ac ah as_ av ap lc lh ls lv lp lt calls hasRun leftMany vrb leftValue temporary) :
    ∃ ans lc' ls' lp' lt' lv' calls' done' fails' hasRun' leftMany' leftValue' now' opn' stage' temporary' vm' values' vrb',
      f_X5_run ak an az ac ah ap as_ at_ av given Lk Lnn Lz lc lh lp ls lt lv Tk Tn Tz 1 = some (.inr (ans, (ac, ah, ap, as_, at_, av, lc', 1, lp', ls', lt', lv'))) ∧
      f_X6_run acts calls done fails first hasRun high kind leftMany leftValue lineOf lineSort lineTerm lines now number opn part pile sort stage temporary thrown vm values vrb what 1 = some (ans, (calls', done', fails', hasRun', leftMany', leftValue', now', opn', stage', temporary', 0, vm', values', vrb')) ∧
      mR ac ah as_ av ap lc' 1 ls' lv' lp' lt' calls' hasRun' leftMany' vrb' leftValue' temporary' := by
  obtain ⟨z, v2, t2, c2, p2, s2, w1, w2⟩ := cls_lines (ak := ak) (an := an) (az := az) (ac := ac) (ah := ah) (ap := ap) (as_ := as_) (at_ := at_) (av := av) (given := given) (lc := lc) (lh := lh) (lp := lp) (ls := ls) (lt := lt) (lv := lv) hT hmd hcs hn ho
  obtain ⟨now1, n1, n2⟩ := r_29 (acts := acts) (calls := calls) (done := done) (fails := fails) (first := first) (hasRun := hasRun) (high := high) (kind := kind) (leftMany := leftMany) (leftValue := leftValue) (lineOf := lineOf) (lineSort := lineSort) (lineTerm := lineTerm) (lines := lines) (number := number) (opn := opn) (part := part) (pile := pile) (sort := sort) (stage := stage) (temporary := temporary) (thrown := 0) (vm := vm) (values := values) (vrb := vrb) (what := what) (l1 := 1) 10 0 now FU (by omega) (by rw [FU_4]; omega) (fun v hv => absurd hv (Nat.not_lt_zero v))
  obtain ⟨d3, f3, n3, o3, s3, t3, vm3, v3, r1, r2⟩ := ref_lines (vm := vm) (values := values) (opn := opn) (stage := stage) (now := now1) (temporary := temporary) hT hmd hi hn ho (s := (given, lt, [], 0)) rfl ⟨fun v hv => (n1 v hv).trans (hg v hv).symm, fun j hj => (hm.2.2 j hj).symm, rfl⟩
  obtain ⟨L, hL, o1, o2, k3, o4, o5, o6, o7⟩ := oc_both hmd.2.2.2.1 w2 r2
  obtain ⟨lv', vb', q1, q2, q3, q4, q5⟩ := r_tail (acts := acts) (calls := upd calls 1 d3) (done := d3) (fails := f3) (first := first) (hasRun := upd hasRun 1 1) (high := high) (kind := kind) (leftMany := leftMany) (leftValue := leftValue) (lineOf := lineOf) (lineSort := lineSort) (lineTerm := lineTerm) (lines := lines) (now := n3) (number := number) (opn := o3) (part := part) (pile := pile) (sort := sort) (stage := s3) (temporary := t3) (thrown := 0) (vm := vm3) (values := v3) (vrb := vrb) (what := what) (a := 1) (by omega) hL o1
  refine ⟨if f3 = 0 then 0 else d3 + 1, c2, s2, p2, t2, v2, upd calls 1 d3, d3, f3, upd hasRun 1 1, upd leftMany 1 (nI L), lv', n3, o3, s3, t3, vm3, v3, vb', ?_, ?_, ?_, ?_, o6⟩
  · rw [w1]
    rcases o7 with ⟨rfl, rfl⟩ | ⟨rfl, rfl⟩
    · rw [if_neg one_ne, if_pos rfl]
    · rw [if_pos rfl, if_neg one_ne, o5]
  · unfold f_X6_run
    rw [if_neg (by decide), if_pos (by decide), if_pos (by decide)]
    rw [nI_0] at n2
    rw [n2, f_X6_run_B29, if_pos (by decide), if_neg (by decide), r1, Option.bind_some, ixd_of (by unfold vp_in; decide), ixd_of (by unfold vp_in; decide)]
    exact q1
  · rw [pk_un (show (0 : Nat) ≠ 1 by decide), pk_un (show (0 : Nat) ≠ 1 by decide), pk_un (show (0 : Nat) ≠ 1 by decide)]
    exact mres_frame (.inr ⟨rfl, rfl⟩) hm.1 q3 q5
  · refine ⟨by rw [pk_us, o5], by rw [pk_us], ⟨L, hL, o2, by rw [pk_us], fun k hk => by rw [k3 k hk, q2 k hk]⟩, .inr rfl, fun _ v hv => by rw [o4 v hv, q4 v hv]⟩
end PRunB
