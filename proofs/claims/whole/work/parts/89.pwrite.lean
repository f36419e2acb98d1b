/-! PURE PART 20: the scribe writes signs and numbers -/
def wr (first : Int32) (signs : Nat → Int32) (txt : List Nat) : Prop := txt.length ≤ 800 ∧ first = nI (800 - txt.length) ∧ ∀ (i c : Nat), txt[i]? = some c → signs (800 - txt.length + i) = nI c
theorem ch_u {c : Nat} (h : c < 128) : ((nI c).toUInt32 % 65536).toInt32 = nI c := by
  have : ∀ c : Fin 128, ((nI c.val).toUInt32 % 65536).toInt32 = nI c.val := by decide
  exact this ⟨c, h⟩
theorem ch_n {c : Nat} (h : c < 128) : vp_nar .char (nI c) = nI c := by
  have : ∀ c : Fin 128, vp_nar .char (nI c.val) = nI c.val := by decide
  exact this ⟨c, h⟩
section PWrite
variable {first : Int32} {signs : Nat → Int32} {txt : List Nat}
theorem p_write {c : Nat} (hw : wr first signs txt) (hl : txt.length < 800) (hc : c < 128) : ∃ first' signs', f_X3_write first signs (nI c) = some (first', signs') ∧ wr first' signs' (c :: txt) := by
  obtain ⟨w1, w2, w3⟩ := hw
  refine ⟨nI (800 - (txt.length + 1)), upd signs (800 - (txt.length + 1)) (nI c), ?_, ?_, ?_, ?_⟩
  · unfold f_X3_write
    rw [w2, if_neg (nI_nle (by omega) (by omega)), show 800 - txt.length = (800 - (txt.length + 1)) + 1 by omega, nI_pred, ixd_of (vp_in_nI (by omega) (by omega)), nI_clamp (by omega), ch_n hc]
  · rw [List.length_cons]; omega
  · rw [List.length_cons]
  · intro i d hi
    rw [List.length_cons]
    cases i with
    | zero =>
      rw [List.getElem?_cons_zero] at hi
      cases hi
      exact pk_us
    | succ i =>
      rw [List.getElem?_cons_succ] at hi
      have := w3 i d hi
      rw [pk_un (by omega), show 800 - (txt.length + 1) + (i + 1) = 800 - txt.length + i by omega]
      exact this
theorem dgt {m : Nat} (h : m < 2 ^ 31) : ((48 + (nI m - nI m / 10 * 10)).toUInt32 % 65536).toInt32 = nI (48 + m % 10) := by
  have e : nI m - nI m / 10 * 10 = nI (m % 10) := pk_rem (d := 10) h (by omega) (by omega)
  have e2 : (48 : Int32) + nI (m % 10) = nI (48 + m % 10) := nI_add 48 (m % 10)
  rw [e, e2, ch_u (by omega)]
theorem dv10 {m : Nat} (h : m < 2 ^ 31) : nI m / 10 = nI (m / 10) := pk_div (d := 10) h (by omega) (by omega)
theorem p_numB (l1 : Int32) {m : Nat} (hm : m < 1000) (hw : wr first signs txt) (hl : txt.length + 3 ≤ 800) (fu : Nat) : ∃ first' signs', f_X3_writeNumber_B13 (fu + 4) first signs l1 (nI m) 0 = (if 0 ≤ l1 then some (first', signs') else (f_X3_write first' signs' 45).bind fun q => some (q.1, q.2)) ∧ wr first' signs' (dN m ++ txt) := by
  obtain ⟨f1, s1, e1, h1⟩ := p_write (c := 48 + m % 10) hw (by omega) (by omega)
  by_cases hA : m < 10
  · refine ⟨f1, s1, ?_, ?_⟩
    · rw [f_X3_writeNumber_B13, if_neg (by decide), if_pos rfl, dgt (by omega), e1, Option.bind_some, dv10 (by omega), show m / 10 = 0 by omega]
      rw [f_X3_writeNumber_B13, if_neg (by decide), if_neg (by decide), if_pos (by decide)]
    · unfold dN; rw [if_pos hA]; rw [show m % 10 = m by omega] at h1; exact h1
  · obtain ⟨f2, s2, e2, h2⟩ := p_write (c := 48 + m / 10 % 10) h1 (by rw [List.length_cons]; omega) (by omega)
    have r1 : f_X3_writeNumber_B13 (fu + 4) first signs l1 (nI m) 0 = f_X3_writeNumber_B13 (fu + 2) f2 s2 l1 (nI (m / 10 / 10)) 2 := by
      rw [f_X3_writeNumber_B13, if_neg (by decide), if_pos rfl, dgt (by omega), e1, Option.bind_some, dv10 (by omega)]
      rw [f_X3_writeNumber_B13, if_neg (by decide), if_neg (by decide), if_neg (nI_nle (by omega) (by omega)), dgt (by omega), e2, Option.bind_some, dv10 (by omega)]
      rfl
    by_cases hB : m < 100
    · refine ⟨f2, s2, ?_, ?_⟩
      · rw [r1, show m / 10 / 10 = 0 by omega]
        rw [f_X3_writeNumber_B13, if_neg (by decide), if_neg (by decide), if_pos (by decide)]
      · unfold dN; rw [if_neg hA, if_pos hB]; rw [show m / 10 % 10 = m / 10 by omega] at h2; exact h2
    · obtain ⟨f3, s3, e3, h3⟩ := p_write (c := 48 + m / 10 / 10 % 10) h2 (by rw [List.length_cons, List.length_cons]; omega) (by omega)
      refine ⟨f3, s3, ?_, ?_⟩
      · rw [r1, f_X3_writeNumber_B13, if_neg (by decide), if_neg (by decide), if_neg (nI_nle (by omega) (by omega)), dgt (by omega), e3, Option.bind_some]
        rw [f_X3_writeNumber_B13, if_pos (by decide)]
      · unfold dN; rw [if_neg hA, if_neg hB]; rw [show m / 10 / 10 % 10 = m / 100 by omega] at h3; exact h3
theorem nneg {m : Nat} (h1 : 1 ≤ m) (hm : m < 1000) : -nI m < 0 ∧ - -nI m = nI m := by
  refine ⟨?_, Int32.neg_neg⟩
  apply Int32.lt_iff_toInt_lt.mpr
  rw [Int32.toInt_neg, nI_toInt (by omega), Int.bmod_eq_of_le (by omega) (by omega)]
  show -(m : Int) < 0
  omega
theorem dg_pos {m : Nat} (hm : m < 1000) : dg (nI m) = dN m := by
  unfold dg
  rw [if_neg (nI_pos (by omega)), nI_clamp (by omega)]
theorem dg_neg {m : Nat} (h1 : 1 ≤ m) (hm : m < 1000) : dg (-nI m) = 45 :: dN m := by
  obtain ⟨e1, e2⟩ := nneg h1 hm
  unfold dg
  rw [if_pos e1, e2, nI_clamp (by omega)]
theorem FU_4 : FU = 4996 + 4 := rfl
theorem p_writeNum {n : Int32} (hn : (∃ m : Nat, m < 1000 ∧ n = nI m) ∨ ∃ m : Nat, 1 ≤ m ∧ m < 1000 ∧ n = -nI m) (hw : wr first signs txt) (hl : txt.length + 4 ≤ 800) : ∃ first' signs', f_X3_writeNumber first signs n = some (first', signs') ∧ wr first' signs' (dg n ++ txt) := by
  rcases hn with ⟨m, hm, rfl⟩ | ⟨m, h1, hm, rfl⟩
  · obtain ⟨f1, s1, e1, g1⟩ := p_numB (nI m) hm hw (by omega) 4996
    refine ⟨f1, s1, ?_, by rw [dg_pos hm]; exact g1⟩
    unfold f_X3_writeNumber
    rw [if_pos (nI_pos' (by omega)), FU_4, e1, if_pos (nI_pos' (by omega))]
  · obtain ⟨q1, q2⟩ := nneg h1 hm
    have q3 : ¬ (0 : Int32) ≤ -nI m := Int32.not_le.mpr q1
    obtain ⟨f1, s1, e1, g1⟩ := p_numB (-nI m) hm hw (by omega) 4996
    have hdl := dN_len m
    obtain ⟨f2, s2, e2, g2⟩ := p_write (c := 45) g1 (by rw [List.length_append]; omega) (by omega)
    refine ⟨f2, s2, ?_, by rw [dg_neg h1 hm]; exact g2⟩
    unfold f_X3_writeNumber
    rw [if_neg q3, FU_4, q2, e1, if_neg q3]
    rw [show f_X3_write f1 s1 45 = some (f2, s2) from e2]
    rfl
theorem numR_3 {n : Int32} (h : numR n) : (∃ m : Nat, m < 1000 ∧ n = nI m) ∨ ∃ m : Nat, 1 ≤ m ∧ m < 1000 ∧ n = -nI m := by
  rcases h with ⟨m, h1, h2⟩ | ⟨m, h0, h1, h2⟩
  · exact Or.inl ⟨m, by omega, h2⟩
  · exact Or.inr ⟨m, h0, by omega, h2⟩
theorem p_writeVar {v : Nat} (hv : v < 10) (hw : wr first signs txt) (hl : txt.length < 800) : ∃ first' signs', f_X3_writeVariable first signs (nI v) = some (first', signs') ∧ wr first' signs' ((97 + v) :: txt) := by
  obtain ⟨f1, s1, e1, g1⟩ := p_write (c := 97 + v) hw hl (by omega)
  refine ⟨f1, s1, ?_, g1⟩
  unfold f_X3_writeVariable
  rw [show (97 : Int32) + nI v = nI (97 + v) from nI_add 97 v, ch_u (by omega), e1]
  rfl
theorem p_writeTmp {j : Nat} (hj : j < 100) (hw : wr first signs txt) (hl : txt.length + 5 ≤ 800) : ∃ first' signs', f_X3_writeTemporary first signs (nI j) = some (first', signs') ∧ wr first' signs' (116 :: (dg (nI j) ++ txt)) := by
  obtain ⟨f1, s1, e1, g1⟩ := p_writeNum (n := nI j) (Or.inl ⟨j, by omega, rfl⟩) hw (by omega)
  have hdl := dg_len (nI j)
  obtain ⟨f2, s2, e2, g2⟩ := p_write (c := 116) g1 (by rw [List.length_append]; omega) (by omega)
  refine ⟨f2, s2, ?_, g2⟩
  unfold f_X3_writeTemporary
  rw [e1, Option.bind_some]
  rw [show f_X3_write f1 s1 116 = some (f2, s2) from e2]
  rfl
theorem p_await {w : Nat → Int32} {h : Nat} (hh : h < 800) (x : Int32) : f_X3_await w (nI h) x = some (upd w h x, nI (h + 1)) := by
  unfold f_X3_await
  rw [if_neg (show ¬ (800 : Int32) ≤ nI h from nI_ge (a := h) (b := 800) hh (by omega)), ixd_of (vp_in_nI hh (by omega)), nI_clamp (by omega), nI_1]
theorem p_signOf {o : Nat} (ho : o < 8) : f_X3_signOf (nI o) = some (nI (opS o), ()) := by
  match o, ho with
  | 0, _ => rfl
  | 1, _ => rfl
  | 2, _ => rfl
  | 3, _ => rfl
  | 4, _ => rfl
  | 5, _ => rfl
  | 6, _ => rfl
  | 7, _ => rfl
theorem opS_lt (o : Nat) (ho : o < 8) : 8 ≤ opS o ∧ opS o < 128 := by
  have : ∀ o : Fin 8, 8 ≤ opS o.val ∧ opS o.val < 128 := by decide
  exact this ⟨o, ho⟩
end PWrite
