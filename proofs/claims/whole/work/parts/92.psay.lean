/-! PURE PART 23: the reference says signs, numbers -/
def pg (page : Nat → Int32) (many : Int32) (txt : List Nat) : Prop := many = nI txt.length ∧ ∀ (i c : Nat), txt[i]? = some c → page i = nI c
section PSay
variable {page : Nat → Int32} {many : Int32} {txt : List Nat}
theorem m_say {c : Nat} (hp : pg page many txt) (hl : txt.length < 6000) : ∃ page' many', f_X6_say page many (nI c) = some (page', many') ∧ pg page' many' (txt ++ [c]) := by
  obtain ⟨rfl, p2⟩ := hp
  refine ⟨upd page txt.length (nI c), nI (txt.length + 1), ?_, ?_, ?_⟩
  · unfold f_X6_say
    rw [ixd_of (vp_in_nI hl (by omega)), nI_clamp (by omega), nI_1]
  · rw [List.length_append]; rfl
  · intro i d hi
    by_cases hlt : i < txt.length
    · rw [List.getElem?_append_left hlt] at hi
      rw [pk_un (by omega)]
      exact p2 i d hi
    · rw [List.getElem?_append_right (by omega)] at hi
      have hz := lt_of_get hi
      rw [List.length_singleton] at hz
      have hi0 : i = txt.length := by omega
      subst hi0
      rw [Nat.sub_self, List.getElem?_cons_zero] at hi
      cases hi
      exact pk_us
theorem m_B39 {m u : Nat} (hm : m < 1000) (hu : 0 < u) (hu2 : u ≤ 1000) (hp : pg page many txt) (hl : txt.length < 6000) : ∃ page' many', (∀ fu : Nat, f_X6_sayNumber_B39 (fu + 1) page many (nI m) (nI u) = f_X6_sayNumber_B39 fu page' many' (nI m) (nI (u / 10))) ∧ pg page' many' (txt ++ [48 + m / u % 10]) := by
  obtain ⟨p1, q1, e1, g1⟩ := m_say (c := 48 + m / u % 10) hp hl
  refine ⟨p1, q1, fun fu => ?_, g1⟩
  have hd : m / u ≤ m := Nat.div_le_self m u
  have e : nI (m / u) - nI (m / u) / 10 * 10 = nI (m / u % 10) := pk_rem (d := 10) (by omega) (by omega) (by omega)
  have e2 : (48 : Int32) + nI (m / u % 10) = nI (48 + m / u % 10) := nI_add 48 _
  rw [f_X6_sayNumber_B39, if_neg (nI_nle hu (by omega))]
  unfold nzi
  rw [if_neg (nI_ne0 hu (by omega)), pk_div (by omega) hu (by omega), e, e2, e1, Option.bind_some, dv10 (by omega)]
theorem m_B39e {m : Nat} (fu : Nat) : f_X6_sayNumber_B39 (fu + 1) page many (nI m) (nI 0) = some (page, many) := by
  rw [f_X6_sayNumber_B39, if_pos (by decide)]
theorem m_B23 {m u : Nat} (hm : m < 1000) (hu : 0 < u) (hu2 : u ≤ 100) (fu : Nat) : f_X6_sayNumber_B23 (fu + 1) page many (nI m) (nI u) = if m / u ≤ 9 then f_X6_sayNumber_B39 FU page many (nI m) (nI u) else f_X6_sayNumber_B23 fu page many (nI m) (nI (u * 10)) := by
  have hd : m / u ≤ m := Nat.div_le_self m u
  rw [f_X6_sayNumber_B23]
  unfold nzi
  rw [if_neg (nI_ne0 hu (by omega)), pk_div (by omega) hu (by omega), show nI u * 10 = nI (u * 10) from pk_mul u 10]
  by_cases h : m / u ≤ 9
  · rw [if_pos h, if_pos (show nI (m / u) ≤ 9 from nI_le (a := m / u) (b := 9) h (by omega))]
  · rw [if_neg h, if_neg (show ¬ nI (m / u) ≤ 9 from nI_ge (a := 9) (b := m / u) (by omega) (by omega))]
theorem m_num {m : Nat} (hm : m < 1000) (hp : pg page many txt) (hl : txt.length + 3 ≤ 6000) : ∃ page' many', f_X6_sayNumber_B23 FU page many (nI m) 1 = some (page', many') ∧ pg page' many' (txt ++ dN m) := by
  have h1 : f_X6_sayNumber_B23 FU page many (nI m) 1 = f_X6_sayNumber_B23 (4996 + 1 + 1 + 1 + 1) page many (nI m) (nI 1) := rfl
  rw [h1, m_B23 hm (by omega) (by omega)]
  by_cases hA : m < 10
  · obtain ⟨p1, q1, e1, g1⟩ := m_B39 (u := 1) hm (by omega) (by omega) hp (by omega)
    refine ⟨p1, q1, ?_, ?_⟩
    · rw [if_pos (by omega), FU_4, show 4996 + 4 = (4996 + 1 + 1 + 1) + 1 from rfl, e1, show 1 / 10 = 0 from rfl, m_B39e]
    · unfold dN; rw [if_pos hA]; rw [show m / 1 % 10 = m by omega] at g1; exact g1
  · rw [if_neg (by omega), m_B23 hm (by omega) (by omega)]
    by_cases hB : m < 100
    · obtain ⟨p1, q1, e1, g1⟩ := m_B39 (u := 10) hm (by omega) (by omega) hp (by omega)
      obtain ⟨p2, q2, e2, g2⟩ := m_B39 (u := 1) hm (by omega) (by omega) g1 (by rw [List.length_append, List.length_singleton]; omega)
      refine ⟨p2, q2, ?_, ?_⟩
      · rw [if_pos (by omega), FU_4, show 4996 + 4 = (4996 + 1 + 1 + 1) + 1 from rfl, e1, show 10 / 10 = 1 from rfl, e2, show 1 / 10 = 0 from rfl, m_B39e]
      · unfold dN; rw [if_neg hA, if_pos hB]
        rw [show m / 10 % 10 = m / 10 by omega, show m / 1 % 10 = m % 10 by omega, List.append_assoc] at g2
        exact g2
    · rw [if_neg (by omega), m_B23 hm (by omega) (by omega)]
      obtain ⟨p1, q1, e1, g1⟩ := m_B39 (u := 100) hm (by omega) (by omega) hp (by omega)
      obtain ⟨p2, q2, e2, g2⟩ := m_B39 (u := 10) hm (by omega) (by omega) g1 (by rw [List.length_append, List.length_singleton]; omega)
      obtain ⟨p3, q3, e3, g3⟩ := m_B39 (u := 1) hm (by omega) (by omega) g2 (by rw [List.length_append, List.length_append, List.length_singleton, List.length_singleton]; omega)
      refine ⟨p3, q3, ?_, ?_⟩
      · rw [if_pos (by omega), FU_4, show 4996 + 4 = (4996 + 1 + 1 + 1) + 1 from rfl, e1, show 100 / 10 = 10 from rfl, e2, show 10 / 10 = 1 from rfl, e3, show 1 / 10 = 0 from rfl, m_B39e]
      · unfold dN; rw [if_neg hA, if_neg hB]
        rw [show m / 100 % 10 = m / 100 by omega, show m / 1 % 10 = m % 10 by omega, List.append_assoc, List.append_assoc] at g3
        exact g3
theorem m_sayNum {n : Int32} (hn : (∃ m : Nat, m < 1000 ∧ n = nI m) ∨ ∃ m : Nat, 1 ≤ m ∧ m < 1000 ∧ n = -nI m) (hp : pg page many txt) (hl : txt.length + 4 ≤ 6000) : ∃ page' many', f_X6_sayNumber page many n = some (page', many') ∧ pg page' many' (txt ++ dg n) := by
  rcases hn with ⟨m, hm, rfl⟩ | ⟨m, h1, hm, rfl⟩
  · obtain ⟨p1, q1, e1, g1⟩ := m_num hm hp (by omega)
    refine ⟨p1, q1, ?_, by rw [dg_pos hm]; exact g1⟩
    unfold f_X6_sayNumber
    rw [if_pos (nI_pos' (by omega)), if_pos (nI_pos' (by omega)), e1]
  · obtain ⟨z1, z2⟩ := nneg h1 hm
    have z3 : ¬ (0 : Int32) ≤ -nI m := Int32.not_le.mpr z1
    obtain ⟨p1, q1, e1, g1⟩ := m_say (c := 45) hp (by omega)
    obtain ⟨p2, q2, e2, g2⟩ := m_num hm g1 (by rw [List.length_append, List.length_singleton]; omega)
    refine ⟨p2, q2, ?_, by rw [dg_neg h1 hm]; rw [List.append_assoc] at g2; exact g2⟩
    unfold f_X6_sayNumber
    rw [if_neg z3, show f_X6_say page many 45 = some (p1, q1) from e1, Option.bind_some, if_neg z3, z2]
    exact e2
end PSay
section PTask
variable {sort what part : Nat → Int32} {T : Nat}
theorem m_task {h : Nat} {tasks : Nat → Int32} (hh : h < 2000) (x : Int32) : f_X6_task (nI h) tasks x = some (nI (h + 1), upd tasks h x) := by
  unfold f_X6_task
  rw [ixd_of (vp_in_nI hh (by omega)), nI_clamp (by omega), nI_1]
theorem m_later0 {h : Nat} {tasks : Nat → Int32} (hh : h < 2000) (x : Int32) : f_X6_later (nI h) tasks x 0 = some (nI (h + 1), upd tasks h x) := by
  unfold f_X6_later
  rw [if_pos rfl, m_task hh, Option.bind_some, if_pos rfl]
theorem m_later1 {h : Nat} {tasks : Nat → Int32} (hh : h + 3 ≤ 2000) (x : Int32) : f_X6_later (nI h) tasks x 1 = some (nI (h + 3), upd (upd (upd tasks h (-42)) (h + 1) x) (h + 2) (-41)) := by
  unfold f_X6_later
  rw [if_neg (by decide), m_task (by omega), Option.bind_some]
  dsimp only
  rw [m_task (by omega), Option.bind_some, if_neg (by decide)]
  dsimp only
  rw [m_task (by omega), Option.bind_some]
/-- a term waits at h, with its brackets -/
def stk (sort what : Nat → Int32) (tasks : Nat → Int32) (h r t hh : Nat) : Prop := (rk sort what t < r ∧ hh = h + 3 ∧ tasks h = -42 ∧ tasks (h + 1) = nI t ∧ tasks (h + 2) = -41) ∨ (¬ rk sort what t < r ∧ hh = h + 1 ∧ tasks h = nI t)
theorem stk_mono {tasks tasks' : Nat → Int32} {h r t hh : Nat} (hs : stk sort what tasks h r t hh) (he : ∀ i : Nat, i < hh → tasks' i = tasks i) : stk sort what tasks' h r t hh := by
  rcases hs with ⟨a, b, c, d, e⟩ | ⟨a, b, c⟩
  · exact Or.inl ⟨a, b, by rw [he _ (by omega)]; exact c, by rw [he _ (by omega)]; exact d, by rw [he _ (by omega)]; exact e⟩
  · exact Or.inr ⟨a, b, by rw [he _ (by omega)]; exact c⟩
theorem m_later {h r t : Nat} {tasks : Nat → Int32} (hh : h + 3 ≤ 2000) : ∃ hi tasks', f_X6_later (nI h) tasks (nI t) (if rk sort what t < r then 1 else 0) = some (nI hi, tasks') ∧ stk sort what tasks' h r t hi ∧ (∀ i : Nat, i < h → tasks' i = tasks i) ∧ h + 1 ≤ hi ∧ hi ≤ h + 3 := by
  by_cases hc : rk sort what t < r
  · refine ⟨h + 3, _, by rw [if_pos hc]; exact m_later1 hh _, Or.inl ⟨hc, rfl, ?_, ?_, pk_us⟩, fun i hi => ?_, by omega, by omega⟩
    · rw [pk_un (by omega), pk_un (by omega), pk_us]
    · rw [pk_un (by omega), pk_us]
    · rw [pk_un (by omega), pk_un (by omega), pk_un (by omega)]
  · exact ⟨h + 1, _, by rw [if_neg hc]; exact m_later0 (by omega) _, Or.inr ⟨hc, rfl, pk_us⟩, fun i hi => pk_un (by omega), by omega, by omega⟩
theorem m_rank {t : Nat} (hv : ndV sort what part t) (ht : t < 3000) : f_X6_rank sort what (nI t) = some (nI (min (rk sort what t + 1) 7), ()) := by
  have hin : vp_in (nI t) 3000 := vp_in_nI ht (by omega)
  unfold f_X6_rank
  rw [ixd_of hin, ixd_of hin, ixd_of hin, nI_clamp (by omega)]
  rcases hv with ⟨e, -, -⟩ | ⟨e, -, -⟩ | ⟨e, -, -⟩ | ⟨e, o, a, b, ho, hw, -⟩ | ⟨e, -⟩ | ⟨e, -⟩ | ⟨e, -⟩ | ⟨e, -⟩ | ⟨e, -⟩
  · unfold rk; rw [e]; rfl
  · unfold rk; rw [e]; rfl
  · unfold rk; rw [e]; rfl
  · have hr : rk sort what t = opr o := by unfold rk; rw [e, if_neg (by decide), if_pos rfl, hw, nI_clamp (by omega)]
    rw [hr, e, hw]
    match o, ho with
    | 0, _ => rfl
    | 1, _ => rfl
    | 2, _ => rfl
    | 3, _ => rfl
    | 4, _ => rfl
    | 5, _ => rfl
    | 6, _ => rfl
    | 7, _ => rfl
  · unfold rk; rw [e]; rfl
  · unfold rk; rw [e]; rfl
  · unfold rk; rw [e]; rfl
  · unfold rk; rw [e]; rfl
  · unfold rk; rw [e]; rfl
theorem ng {c : Nat} (h : c < 128) : ¬ (0 : Int32) ≤ (-1) - nI c ∧ (-1 : Int32) - ((-1) - nI c) = nI c := by
  have : ∀ c : Fin 128, ¬ (0 : Int32) ≤ (-1) - nI c.val ∧ (-1 : Int32) - ((-1) - nI c.val) = nI c.val := by decide
  exact this ⟨c, h⟩
theorem m_sign (ops sort what part : Nat → Int32) {page tasks : Nat → Int32} {many : Int32} {txt : List Nat} {c h : Nat} (hp : pg page many txt) (hl : txt.length < 6000) (hc : c < 128) (ht : tasks h = (-1) - nI c) (hh : h < 2000) : ∃ page' many', (∀ fu : Nat, f_X6_sayTerm_B10 (fu + 1) ops page many part sort (nI (h + 1)) tasks what = f_X6_sayTerm_B10 fu ops page' many' part sort (nI h) tasks what) ∧ pg page' many' (txt ++ [c]) := by
  obtain ⟨p1, q1, e1, g1⟩ := m_say (c := c) hp hl
  obtain ⟨n1, n2⟩ := ng hc
  refine ⟨p1, q1, fun fu => ?_, g1⟩
  rw [f_X6_sayTerm_B10, if_neg (nI_nle (by omega) (by omega)), nI_pred, ixd_of (vp_in_nI hh (by omega)), nI_clamp (by omega), ht, if_neg n1, n2, e1, Option.bind_some]
/-- what saying a term comes to -/
def MTs (ops sort what part : Nat → Int32) (f t : Nat) : Prop :=
  ∀ (txt : List Nat) (page : Nat → Int32) (many : Int32) (tasks : Nat → Int32) (h : Nat), pg page many txt → txt.length + (txN sort what part f 0 t).length ≤ 5000 → h + (txN sort what part f 0 t).length ≤ 1990 → tasks h = nI t →
  ∃ cs page' many' tasks', cs ≤ 2 * (txN sort what part f 0 t).length ∧ (∀ fu : Nat, f_X6_sayTerm_B10 (fu + cs) ops page many part sort (nI (h + 1)) tasks what = f_X6_sayTerm_B10 fu ops page' many' part sort (nI h) tasks' what) ∧ pg page' many' (txt ++ txN sort what part f 0 t) ∧ ∀ i : Nat, i < h → tasks' i = tasks i
/-- .. with its brackets -/
def LTs (ops sort what part : Nat → Int32) (f r t : Nat) : Prop :=
  ∀ (txt : List Nat) (page : Nat → Int32) (many : Int32) (tasks : Nat → Int32) (h hi : Nat), pg page many txt → txt.length + (txN sort what part f r t).length ≤ 5000 → h + (txN sort what part f r t).length ≤ 1990 → stk sort what tasks h r t hi →
  ∃ cs page' many' tasks', cs ≤ 2 * (txN sort what part f r t).length ∧ (∀ fu : Nat, f_X6_sayTerm_B10 (fu + cs) ops page many part sort (nI hi) tasks what = f_X6_sayTerm_B10 fu ops page' many' part sort (nI h) tasks' what) ∧ pg page' many' (txt ++ txN sort what part f r t) ∧ ∀ i : Nat, i < h → tasks' i = tasks i
theorem tx_br (f r t : Nat) : txN sort what part (f + 1) r t = br (rk sort what t) r (txN sort what part (f + 1) 0 t) := by
  rw [txN_succ, txN_succ]
  unfold br
  rw [if_neg (Nat.not_lt_zero _)]
theorem lt_of_mt {ops : Nat → Int32} {f r t : Nat} (hm : MTs ops sort what part (f + 1) t) : LTs ops sort what part (f + 1) r t := by
  intro txt page many tasks h hi hp h1 h2 hs
  rw [tx_br f r t] at h1 h2 ⊢
  rcases hs with ⟨hlt, rfl, t0, t1, t2⟩ | ⟨hlt, rfl, t0⟩
  · have hbe : br (rk sort what t) r (txN sort what part (f + 1) 0 t) = 40 :: (txN sort what part (f + 1) 0 t ++ [41]) := by unfold br; rw [if_pos hlt]
    rw [hbe] at h1 h2 ⊢
    rw [List.length_cons, List.length_append, List.length_singleton] at h1 h2
    obtain ⟨p1, q1, e1, g1⟩ := m_sign ops sort what part (c := 40) (h := h + 2) (tasks := tasks) hp (by omega) (by omega) (by rw [t2]; rfl) (by omega)
    obtain ⟨cs, p2, q2, w2, hcs, e2, g2, hw2⟩ := hm _ p1 q1 tasks (h + 1) g1 (by rw [List.length_append, List.length_singleton]; omega) (by omega) t1
    obtain ⟨p3, q3, e3, g3⟩ := m_sign ops sort what part (c := 41) (h := h) (tasks := w2) g2 (by rw [List.length_append, List.length_append, List.length_singleton]; omega) (by omega) (by rw [hw2 _ (by omega), t0]; rfl) (by omega)
    refine ⟨cs + 2, p3, q3, w2, by rw [List.length_cons, List.length_append, List.length_singleton]; omega, fun fu => ?_, ?_, fun i hi => hw2 i (by omega)⟩
    · rw [show fu + (cs + 2) = ((fu + 1) + cs) + 1 by omega]
      show f_X6_sayTerm_B10 _ _ _ _ _ _ (nI (h + 2 + 1)) _ _ = _
      rw [e1]
      show f_X6_sayTerm_B10 _ _ _ _ _ _ (nI (h + 1 + 1)) _ _ = _
      rw [e2, e3]
    · rw [List.append_assoc, List.append_assoc] at g3
      exact g3
  · have hbe : br (rk sort what t) r (txN sort what part (f + 1) 0 t) = txN sort what part (f + 1) 0 t := by unfold br; rw [if_neg hlt]
    rw [hbe] at h1 h2 ⊢
    exact hm txt page many tasks h hp h1 h2 t0
end PTask
