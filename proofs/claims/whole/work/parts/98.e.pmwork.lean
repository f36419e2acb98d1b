/-! PURE PART 33: the reference runs a term -/
theorem evL_len : ∀ (L : List Cl) (s : St) (h' : Nat), (∀ c ∈ L, okK c) → hAL L s.2.2.1.length = some h' → (evL L s).1 = true → (evL L s).2.2.2.1.length = h' := by
  intro L
  induction L with
  | nil => intro s h' _ e _; cases e; rfl
  | cons c R ih =>
    intro s h' hk e ht
    have e : (hA c s.2.2.1.length).bind (hAL R) = some h' := e
    cases e1 : hA c s.2.2.1.length with
    | none => rw [e1] at e; cases e
    | some h1 =>
      rw [e1, Option.bind_some] at e
      have hd : evL (c :: R) s = if (evC c s).1 = true then evL R (evC c s).2 else (false, (evC c s).2) := rfl
      by_cases g : (evC c s).1 = true
      · rw [hd, if_pos g] at ht ⊢
        have hl := evC_len (hk c List.mem_cons_self) e1 g
        exact ih _ h' (fun d hd => hk d (List.mem_cons_of_mem _ hd)) (by rw [hl]; exact e) ht
      · rw [hd, if_neg g] at ht
        exact absurd ht Bool.false_ne_true
theorem hAL_le : ∀ (L : List Cl) (h h' : Nat), h ≤ 20 → hAL L h = some h' → h' ≤ 20 := by
  intro L
  induction L with
  | nil => intro h h' hh e; cases e; exact hh
  | cons c R ih =>
    intro h h' hh e
    have e : (hA c h).bind (hAL R) = some h' := e
    cases e1 : hA c h with
    | none => rw [e1] at e; cases e
    | some h1 =>
      rw [e1, Option.bind_some] at e
      have := hA_inv e1
      exact ih h1 h' (by omega) e
theorem m_partsOf {sort what part : Nat → Int32} {T t : Nat} (hw : wfN sort what part T) (ht : t < T) (hok : okC (kc (sort t), what t)) : f_X6_partsOf (sort t) (what t) = some (nI (ar sort what t), ()) := by
  obtain ⟨-, ⟨s, hs, e⟩, -⟩ := hw t ht
  unfold f_X6_partsOf ar
  by_cases h3 : sort t = 3
  · rw [if_pos h3, if_pos h3]; rfl
  · rw [if_neg h3, if_neg h3]
    by_cases h4 : sort t = 4
    · rw [if_pos h4, if_pos h4]; rfl
    · rw [if_neg h4, if_neg h4]
      by_cases h5 : sort t = 5
      · rw [if_pos h5, if_pos h5]
        rw [h5] at hok
        rcases hok with ⟨hk', -⟩ | ⟨hk', -⟩ | ⟨hk', -⟩ | ⟨hk', -⟩ | ⟨-, a, ha, hwa⟩ | ⟨hk', -⟩
        · exact absurd (show kc 5 = _ from hk') (by decide)
        · exact absurd (show kc 5 = _ from hk') (by decide)
        · exact absurd (show kc 5 = _ from hk') (by decide)
        · exact absurd (show kc 5 = _ from hk') (by decide)
        · have hwa : what t = nI a := hwa
          rw [hwa, nI_clamp (by omega)]
        · exact absurd (show kc 5 = _ from hk') (by decide)
      · rw [if_neg h5, if_neg h5]; rfl
section PWork
variable {now temporary : Nat → Int64} {sort what part : Nat → Int32} {T : Nat}
/-- what running the cells L from the place h comes to -/
def wkR (now temporary : Nat → Int64) (sort what part : Nat → Int32) (L : List Cl) (h : Nat) (s : St) (done vm : Int32) (values : Nat → Int64) (opn stage : Nat → Int32) : Prop :=
  ∃ cs done' vm' values' opn' stage', cs + 1 ≤ 2 * L.length ∧
   (((evL L s).1 = true ∧ (∀ fu : Nat, f_X6_work_B16 (fu + cs) done 0 now opn part sort stage temporary vm values what (nI (h + 1)) = f_X6_work_B16 fu done' 0 now opn' part sort stage' temporary vm' values' what (nI h)) ∧ mS now temporary done' values' vm' (evL L s).2 ∧ ∀ i : Nat, i < h → opn' i = opn i ∧ stage' i = stage i) ∨
    ((evL L s).1 = false ∧ (∀ fu : Nat, f_X6_work_B16 (fu + cs + 1) done 0 now opn part sort stage temporary vm values what (nI (h + 1)) = some (done', 1, opn', stage', vm', values')) ∧ mB now temporary done' (evL L s).2 ∧ (evL L s).2.2.2.1 = []))
def wkT2 (now temporary : Nat → Int64) (sort what part : Nat → Int32) (t : Nat) : Prop :=
  ∀ (s : St) (h h' : Nat) (done vm : Int32) (values : Nat → Int64) (opn stage : Nat → Int32), mS now temporary done values vm s → s.2.2.1.length ≤ 20 → hAL (mp sort what part t) s.2.2.1.length = some h' → h + (mp sort what part t).length ≤ 400 → opn h = nI t → stage h = 0 → wkR now temporary sort what part (mp sort what part t) h s done vm values opn stage
def rst (sort what part : Nat → Int32) (t j d : Nat) : List Cl := ((List.range' j d).map (fun i => mp sort what part (part (3 * t + i)).toNatClampNeg)).flatten ++ [(kc (sort t), what t)]
theorem rst_succ (t j d : Nat) : rst sort what part t j (d + 1) = mp sort what part (part (3 * t + j)).toNatClampNeg ++ rst sort what part t (j + 1) d := by
  unfold rst
  rw [List.range'_succ, List.map_cons, List.flatten_cons, List.append_assoc]
theorem m_rest (hT : T ≤ 3000) (hw : wfN sort what part T) {t : Nat} (ht : t < T) (ih : ∀ p : Nat, p < t → okT sort what part p → wkT2 now temporary sort what part p) :
    ∀ (d j : Nat), j + d = ar sort what t → (∀ c ∈ rst sort what part t j d, okC c) → ∀ (s : St) (h h' : Nat) (done vm : Int32) (values : Nat → Int64) (opn stage : Nat → Int32), mS now temporary done values vm s → s.2.2.1.length ≤ 20 → hAL (rst sort what part t j d) s.2.2.1.length = some h' → h + (rst sort what part t j d).length ≤ 400 → opn h = nI t → stage h = nI j → wkR now temporary sort what part (rst sort what part t j d) h s done vm values opn stage := by
  obtain ⟨h3, ⟨so, hso, eso⟩, hpt⟩ := hw t ht
  intro d
  induction d with
  | zero =>
    intro j hj hok s h h' done vm values opn stage hm hl hh hdep hop hst
    have hr : rst sort what part t j 0 = [(kc (sort t), what t)] := rfl
    rw [hr] at hok hh hdep ⊢
    have hc : okC (kc (sort t), what t) := hok _ List.mem_cons_self
    have hhA : (hA (kc (sort t), what t) s.2.2.1.length).bind (hAL []) = some h' := hh
    have hh' : h + 1 ≤ 400 := hdep
    cases e1 : hA (kc (sort t), what t) s.2.2.1.length with
    | none => rw [e1] at hhA; cases hhA
    | some h1 =>
      have hin := hA_inv e1
      obtain ⟨done', fails', vm', values', q1, q2⟩ := m_worked (now := now) (temporary := temporary) (so := so) (w := what t) (c := (kc (sort t), what t)) hso (by rw [eso]) hc hin.1 (by omega) hm
      have e0 : ∀ fu : Nat, f_X6_work_B16 (fu + 1) done 0 now opn part sort stage temporary vm values what (nI (h + 1)) = f_X6_work_B16 fu done' fails' now opn part sort stage temporary vm' values' what (nI h) := by
        intro fu
        have hv : vp_in (nI h) 400 := vp_in_nI (by omega) (by omega)
        have hv2 : vp_in (nI t) 3000 := vp_in_nI (by omega) (by omega)
        rw [f_X6_work_B16, if_neg (nI_nle (by omega) (by omega)), if_pos rfl, nI_pred, ixd_of hv, ixd_of hv, nI_clamp (n := h) (by omega), hop, ixd_of hv2, ixd_of hv2, nI_clamp (n := t) (by omega), m_partsOf hw ht hc, Option.bind_some, hst, if_pos (by dsimp only; rw [show j = ar sort what t by omega]; exact Int32.le_refl _), ixd_of hv2, ixd_of hv2, eso, q1, Option.bind_some, pk_m1]
      have ev : evL [(kc (sort t), what t)] s = evC (kc (sort t), what t) s := evL_one _ _
      refine ⟨1, done', vm', values', opn, stage, by rw [List.length_singleton]; omega, ?_⟩
      rw [ev]
      rcases q2 with ⟨g1, rfl, g3⟩ | ⟨g1, rfl, g3, g4⟩
      · exact .inl ⟨g1, fun fu => e0 fu, g3, fun i hi => ⟨rfl, rfl⟩⟩
      · refine .inr ⟨g1, fun fu => ?_, g3, g4⟩
        rw [show fu + 1 + 1 = (fu + 1) + 1 from rfl, e0, f_X6_work_B16]
        by_cases hz : nI h ≤ 0
        · rw [if_pos hz]
        · rw [if_neg hz, if_neg one_ne]
  | succ d ihd =>
    intro j hj hok s h h' done vm values opn stage hm hl hh hdep hop hst
    rw [rst_succ] at hok hh hdep ⊢
    obtain ⟨p, hp, ep⟩ := hpt j (by omega)
    have hpc : (part (3 * t + j)).toNatClampNeg = p := by rw [ep, nI_clamp (by omega)]
    rw [hpc] at hok hh hdep ⊢
    have hokp : okT sort what part p := fun c hc => hok c (List.mem_append_left _ hc)
    have hokr : ∀ c ∈ rst sort what part t (j + 1) d, okC c := fun c hc => hok c (List.mem_append_right _ hc)
    have hc : okC (kc (sort t), what t) := hokr _ (List.mem_append_right _ List.mem_cons_self)
    rw [List.length_append] at hdep
    have hrl : 1 ≤ (rst sort what part t (j + 1) d).length := by
      unfold rst; simp only [List.length_append, List.length_cons, List.length_nil]; omega
    have hpl : 1 ≤ (mp sort what part p).length := by
      rw [mp_eq hT hw (show p < T by omega)]
      simp only [List.length_append, List.length_cons, List.length_nil]
      omega
    rw [hAL_app] at hh
    cases e1 : hAL (mp sort what part p) s.2.2.1.length with
    | none => rw [e1] at hh; cases hh
    | some h1 =>
      rw [e1, Option.bind_some] at hh
      have h1le := hAL_le _ _ _ hl e1
      have e0 : ∀ fu : Nat, f_X6_work_B16 (fu + 1) done 0 now opn part sort stage temporary vm values what (nI (h + 1)) = f_X6_work_B16 fu done 0 now (upd opn (h + 1) (nI p)) part sort (upd (upd stage h (nI (j + 1))) (h + 1) 0) temporary vm values what (nI (h + 1 + 1)) := by
        intro fu
        have hv : vp_in (nI h) 400 := vp_in_nI (by omega) (by omega)
        have hv1 : vp_in (nI (h + 1)) 400 := vp_in_nI (by omega) (by omega)
        have hv2 : vp_in (nI t) 3000 := vp_in_nI (by omega) (by omega)
        have e3 : (3 : Int32) * nI t + nI j = nI (3 * t + j) := by
          rw [show (3 : Int32) * nI t = nI (3 * t) from pk_mul 3 t, nI_add]
        rw [f_X6_work_B16, if_neg (nI_nle (by omega) (by omega)), if_pos rfl, nI_pred, ixd_of hv, ixd_of hv, nI_clamp (n := h) (by omega), hop, ixd_of hv2, ixd_of hv2, nI_clamp (n := t) (by omega), m_partsOf hw ht hc, Option.bind_some, hst, if_neg (by dsimp only; exact nI_ge (by omega) (by omega)), ixd_of hv, ixd_of hv, e3, ixd_of (vp_in_nI (by omega) (by omega)), ixd_of hv1, ixd_of hv1, nI_clamp (n := 3 * t + j) (by omega), nI_clamp (n := h + 1) (by omega), ep, nI_1, nI_1]
      have g0 := ih p hp hokp s (h + 1) h1 done vm values (upd opn (h + 1) (nI p)) (upd (upd stage h (nI (j + 1))) (h + 1) 0) hm hl e1 (by omega) pk_us pk_us
      obtain ⟨cs1, d1, vm1, v1, o1, s1, b1, g1⟩ := g0
      rcases g1 with ⟨t1, f1, m1, k1⟩ | ⟨t1, f1, m1, k1⟩
      · have hl1 := evL_len _ _ _ (fun c hc => Or.inl (hokp c hc)) e1 t1
        have kh := k1 h (by omega)
        rw [pk_un (show h ≠ h + 1 by omega), pk_un (show h ≠ h + 1 by omega), pk_us] at kh
        obtain ⟨cs2, d2, vm2, v2, o2, s2, b2, g2⟩ := ihd (j + 1) (by omega) hokr (evL (mp sort what part p) s).2 h h' d1 vm1 v1 o1 s1 m1 (by rw [hl1]; exact h1le) (by rw [hl1]; exact hh) (by omega) (by rw [kh.1]; exact hop) kh.2
        have ev : evL (mp sort what part p ++ rst sort what part t (j + 1) d) s = evL (rst sort what part t (j + 1) d) (evL (mp sort what part p) s).2 := by rw [evL_app, if_pos t1]
        refine ⟨1 + cs1 + cs2, d2, vm2, v2, o2, s2, by rw [List.length_append]; omega, ?_⟩
        rw [ev]
        rcases g2 with ⟨t2, f2, m2, k2⟩ | ⟨t2, f2, m2, k2⟩
        · refine .inl ⟨t2, fun fu => ?_, m2, fun i hi => ?_⟩
          · rw [show fu + (1 + cs1 + cs2) = (fu + cs2 + cs1) + 1 by omega, e0, f1, f2]
          · have a1 := k1 i (by omega)
            have a2 := k2 i hi
            rw [pk_un (show i ≠ h + 1 by omega), pk_un (show i ≠ h + 1 by omega), pk_un (show i ≠ h by omega)] at a1
            exact ⟨by rw [a2.1, a1.1], by rw [a2.2, a1.2]⟩
        · refine .inr ⟨t2, fun fu => ?_, m2, k2⟩
          rw [show fu + (1 + cs1 + cs2) + 1 = (fu + cs2 + 1 + cs1) + 1 by omega, e0, f1, f2]
      · have ev : evL (mp sort what part p ++ rst sort what part t (j + 1) d) s = evL (mp sort what part p) s := by
          rw [evL_app, if_neg (by rw [t1]; exact Bool.false_ne_true)]
        refine ⟨1 + cs1, d1, vm1, v1, o1, s1, by rw [List.length_append]; omega, ?_⟩
        rw [ev]
        refine .inr ⟨t1, fun fu => ?_, m1, k1⟩
        rw [show fu + (1 + cs1) + 1 = (fu + cs1 + 1) + 1 by omega, e0, f1]
theorem mp_rst (hT : T ≤ 3000) (hw : wfN sort what part T) {t : Nat} (ht : t < T) : mp sort what part t = rst sort what part t 0 (ar sort what t) := by
  rw [mp_eq hT hw ht, List.range_eq_range']
  rfl
theorem m_wk (hT : T ≤ 3000) (hw : wfN sort what part T) : ∀ (f t : Nat), t < f → t < T → okT sort what part t → wkT2 now temporary sort what part t := by
  intro f
  induction f with
  | zero => intro t h; exact absurd h (Nat.not_lt_zero t)
  | succ f ih =>
    intro t hf ht hok s h h' done vm values opn stage hm hl hh hdep hop hst
    unfold okT at hok
    rw [mp_rst hT hw ht] at hok hh hdep ⊢
    exact m_rest hT hw ht (fun p hp hpo => ih p (by omega) (by omega) hpo) (ar sort what t) 0 (by omega) hok s h h' done vm values opn stage hm hl hh hdep hop (by rw [hst, nI_0])
/-- a term is run -/
theorem m_work (hT : T ≤ 3000) (hw : wfN sort what part T) {t : Nat} (ht : t < T) (hok : okT sort what part t) {s : St} {h' : Nat} {done vm : Int32} {values : Nat → Int64} {opn stage : Nat → Int32} (hm : mS now temporary done values vm s) (hl : s.2.2.1.length ≤ 20) (hh : hAL (mp sort what part t) s.2.2.1.length = some h') (hdep : (mp sort what part t).length ≤ 100) :
    ∃ done' fails' opn' stage' vm' values', f_X6_work done 0 now opn part sort stage temporary vm values what (nI t) = some (done', fails', opn', stage', vm', values') ∧ (((evL (mp sort what part t) s).1 = true ∧ fails' = 0 ∧ mS now temporary done' values' vm' (evL (mp sort what part t) s).2) ∨ ((evL (mp sort what part t) s).1 = false ∧ fails' = 1 ∧ mB now temporary done' (evL (mp sort what part t) s).2 ∧ (evL (mp sort what part t) s).2.2.2.1 = [])) := by
  obtain ⟨cs, d1, vm1, v1, o1, s1, b1, g1⟩ := m_wk (now := now) (temporary := temporary) hT hw (t + 1) t (by omega) ht hok s 0 h' done vm values (upd opn 0 (nI t)) (upd stage 0 0) hm hl hh (by omega) pk_us pk_us
  have e0 : f_X6_work done 0 now opn part sort stage temporary vm values what (nI t) = f_X6_work_B16 FU done 0 now (upd opn 0 (nI t)) part sort (upd stage 0 0) temporary vm values what (nI (0 + 1)) := by
    unfold f_X6_work
    rw [ixd_of (by unfold vp_in; decide), ixd_of (by unfold vp_in; decide)]
    rfl
  rcases g1 with ⟨t1, f1, m1, k1⟩ | ⟨t1, f1, m1, k1⟩
  · refine ⟨d1, 0, o1, s1, vm1, v1, ?_, .inl ⟨t1, rfl, m1⟩⟩
    have := f1 (FU - cs - 1 + 1)
    rw [show FU - cs - 1 + 1 + cs = FU by rw [FU_4]; omega, f_X6_work_B16, if_pos (by decide)] at this
    rw [e0, this]
  · refine ⟨d1, 1, o1, s1, vm1, v1, ?_, .inr ⟨t1, rfl, m1, k1⟩⟩
    have := f1 (FU - cs - 1)
    rw [show FU - cs - 1 + cs + 1 = FU by rw [FU_4]; omega] at this
    rw [e0, this]
end PWork
