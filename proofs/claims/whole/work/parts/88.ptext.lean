/-! PURE PART 19: a term's text; signs, numbers -/
def opr (o : Nat) : Nat := ([3, 3, 4, 2, 0, 1, 4, 4] : List Nat).getD o 0
def opS (o : Nat) : Nat := ([43, 45, 42, 38, 124, 94, 47, 37] : List Nat).getD o 0
def rk (sort what : Nat → Int32) (t : Nat) : Nat := if sort t = 0 then 6 else if sort t = 3 then opr (what t).toNatClampNeg else if sort t = 4 then 5 else 7
def br (m r : Nat) (s : List Nat) : List Nat := if m < r then 40 :: (s ++ [41]) else s
def dN (m : Nat) : List Nat := if m < 10 then [48 + m] else if m < 100 then [48 + m / 10, 48 + m % 10] else [48 + m / 100, 48 + m / 10 % 10, 48 + m % 10]
def dg (n : Int32) : List Nat := if n < 0 then 45 :: dN (-n).toNatClampNeg else dN n.toNatClampNeg
/-- the text of term t, with fuel, where r is the lowest rank that needs no brackets -/
def txN (sort what part : Nat → Int32) : Nat → Nat → Nat → List Nat
  | 0, _, _ => []
  | f + 1, r, t => br (rk sort what t) r (
    if sort t = 0 then dg (what t) else if sort t = 1 then [97 + (what t).toNatClampNeg] else if sort t = 2 then 116 :: dg (what t)
    else if sort t = 3 then txN sort what part f (rk sort what t) (part (3 * t + 0)).toNatClampNeg ++ 32 :: opS (what t).toNatClampNeg :: 32 :: txN sort what part f (rk sort what t + 1) (part (3 * t + 1)).toNatClampNeg
    else if sort t = 4 then 45 :: txN sort what part f 7 (part (3 * t + 0)).toNatClampNeg
    else 102 :: 40 :: ((if (what t).toNatClampNeg = 0 then [] else if (what t).toNatClampNeg = 1 then txN sort what part f 0 (part (3 * t + 0)).toNatClampNeg
      else if (what t).toNatClampNeg = 2 then txN sort what part f 0 (part (3 * t + 0)).toNatClampNeg ++ 44 :: 32 :: txN sort what part f 0 (part (3 * t + 1)).toNatClampNeg
      else txN sort what part f 0 (part (3 * t + 0)).toNatClampNeg ++ 44 :: 32 :: (txN sort what part f 0 (part (3 * t + 1)).toNatClampNeg ++ 44 :: 32 :: txN sort what part f 0 (part (3 * t + 2)).toNatClampNeg)) ++ [41]))
/-- the text without brackets round it -/
def bdN (sort what part : Nat → Int32) (f t : Nat) : List Nat :=
    if sort t = 0 then dg (what t) else if sort t = 1 then [97 + (what t).toNatClampNeg] else if sort t = 2 then 116 :: dg (what t)
    else if sort t = 3 then txN sort what part f (rk sort what t) (part (3 * t + 0)).toNatClampNeg ++ 32 :: opS (what t).toNatClampNeg :: 32 :: txN sort what part f (rk sort what t + 1) (part (3 * t + 1)).toNatClampNeg
    else if sort t = 4 then 45 :: txN sort what part f 7 (part (3 * t + 0)).toNatClampNeg
    else 102 :: 40 :: ((if (what t).toNatClampNeg = 0 then [] else if (what t).toNatClampNeg = 1 then txN sort what part f 0 (part (3 * t + 0)).toNatClampNeg
      else if (what t).toNatClampNeg = 2 then txN sort what part f 0 (part (3 * t + 0)).toNatClampNeg ++ 44 :: 32 :: txN sort what part f 0 (part (3 * t + 1)).toNatClampNeg
      else txN sort what part f 0 (part (3 * t + 0)).toNatClampNeg ++ 44 :: 32 :: (txN sort what part f 0 (part (3 * t + 1)).toNatClampNeg ++ 44 :: 32 :: txN sort what part f 0 (part (3 * t + 2)).toNatClampNeg)) ++ [41])
theorem txN_succ (sort what part : Nat → Int32) (f r t : Nat) : txN sort what part (f + 1) r t = br (rk sort what t) r (bdN sort what part f t) := rfl
section BdV
variable {sort what part : Nat → Int32} {f t a b c o j : Nat}
theorem bd_0 (e : sort t = 0) : bdN sort what part f t = dg (what t) ∧ rk sort what t = 6 := by
  refine ⟨?_, ?_⟩
  · unfold bdN; rw [if_pos e]
  · unfold rk; rw [if_pos e]
theorem bd_1 (e : sort t = 1) (hw : what t = nI j) (hj : j < 100) : bdN sort what part f t = [97 + j] ∧ rk sort what t = 7 := by
  refine ⟨?_, ?_⟩
  · unfold bdN; rw [e, if_neg (by decide), if_pos rfl, hw, nI_clamp (by omega)]
  · unfold rk; rw [e]; rfl
theorem bd_2 (e : sort t = 2) : bdN sort what part f t = 116 :: dg (what t) ∧ rk sort what t = 7 := by
  refine ⟨?_, ?_⟩
  · unfold bdN; rw [e, if_neg (by decide), if_neg (by decide), if_pos rfl]
  · unfold rk; rw [e]; rfl
theorem bd_3 (e : sort t = 3) (ho : o < 8) (hw : what t = nI o) (ea : part (3 * t + 0) = nI a) (eb : part (3 * t + 1) = nI b) (ha : a < 3000) (hb : b < 3000) : bdN sort what part f t = txN sort what part f (opr o) a ++ 32 :: opS o :: 32 :: txN sort what part f (opr o + 1) b ∧ rk sort what t = opr o := by
  have hr : rk sort what t = opr o := by unfold rk; rw [e, if_neg (by decide), if_pos rfl, hw, nI_clamp (by omega)]
  refine ⟨?_, hr⟩
  unfold bdN; rw [e, if_neg (by decide), if_neg (by decide), if_neg (by decide), if_pos rfl, hr, ea, eb, hw, nI_clamp (by omega), nI_clamp (by omega), nI_clamp (by omega)]
theorem bd_4 (e : sort t = 4) (ea : part (3 * t + 0) = nI a) (ha : a < 3000) : bdN sort what part f t = 45 :: txN sort what part f 7 a ∧ rk sort what t = 5 := by
  refine ⟨?_, ?_⟩
  · unfold bdN; rw [e, if_neg (by decide), if_neg (by decide), if_neg (by decide), if_neg (by decide), if_pos rfl, ea, nI_clamp (by omega)]
  · unfold rk; rw [e]; rfl
theorem rk_5 (e : sort t = 5) : rk sort what t = 7 := by unfold rk; rw [e]; rfl
theorem bd_50 (e : sort t = 5) (hw : what t = nI 0) : bdN sort what part f t = [102, 40, 41] := by
  unfold bdN; rw [e, if_neg (by decide), if_neg (by decide), if_neg (by decide), if_neg (by decide), if_neg (by decide), hw]; rfl
theorem bd_51 (e : sort t = 5) (hw : what t = nI 1) (ea : part (3 * t + 0) = nI a) (ha : a < 3000) : bdN sort what part f t = 102 :: 40 :: (txN sort what part f 0 a ++ [41]) := by
  unfold bdN; rw [e, if_neg (by decide), if_neg (by decide), if_neg (by decide), if_neg (by decide), if_neg (by decide), hw, nI_clamp (by omega), if_neg (by omega), if_pos rfl, ea, nI_clamp (by omega)]
theorem bd_52 (e : sort t = 5) (hw : what t = nI 2) (ea : part (3 * t + 0) = nI a) (eb : part (3 * t + 1) = nI b) (ha : a < 3000) (hb : b < 3000) : bdN sort what part f t = 102 :: 40 :: ((txN sort what part f 0 a ++ 44 :: 32 :: txN sort what part f 0 b) ++ [41]) := by
  unfold bdN; rw [e, if_neg (by decide), if_neg (by decide), if_neg (by decide), if_neg (by decide), if_neg (by decide), hw, nI_clamp (by omega), if_neg (by omega), if_neg (by omega), if_pos rfl, ea, eb, nI_clamp (by omega), nI_clamp (by omega)]
theorem bd_53 (e : sort t = 5) (hw : what t = nI 3) (ea : part (3 * t + 0) = nI a) (eb : part (3 * t + 1) = nI b) (ec : part (3 * t + 2) = nI c) (ha : a < 3000) (hb : b < 3000) (hc : c < 3000) : bdN sort what part f t = 102 :: 40 :: ((txN sort what part f 0 a ++ 44 :: 32 :: (txN sort what part f 0 b ++ 44 :: 32 :: txN sort what part f 0 c)) ++ [41]) := by
  unfold bdN; rw [e, if_neg (by decide), if_neg (by decide), if_neg (by decide), if_neg (by decide), if_neg (by decide), hw, nI_clamp (by omega), if_neg (by omega), if_neg (by omega), if_neg (by omega), ea, eb, ec, nI_clamp (by omega), nI_clamp (by omega), nI_clamp (by omega)]
end BdV
theorem opr_le (o : Nat) (ho : o < 8) : opr o ≤ 4 := by
  have : ∀ o : Fin 8, opr o.val ≤ 4 := by decide
  exact this ⟨o, ho⟩
theorem dN_len (m : Nat) : 1 ≤ (dN m).length ∧ (dN m).length ≤ 3 := by
  unfold dN
  split
  · exact ⟨by show 1 ≤ 1; omega, by show 1 ≤ 3; omega⟩
  · split
    · exact ⟨by show 1 ≤ 2; omega, by show 2 ≤ 3; omega⟩
    · exact ⟨by show 1 ≤ 3; omega, by show 3 ≤ 3; omega⟩
theorem dg_len (n : Int32) : 1 ≤ (dg n).length ∧ (dg n).length ≤ 4 := by
  unfold dg
  split
  · have := dN_len (-n).toNatClampNeg
    rw [List.length_cons]; omega
  · have := dN_len n.toNatClampNeg
    omega
theorem br_len (m r : Nat) (s : List Nat) : (m < r ∧ (br m r s).length = s.length + 2) ∨ (¬ m < r ∧ (br m r s).length = s.length) := by
  unfold br
  by_cases h : m < r
  · rw [if_pos h]; left; exact ⟨h, by rw [List.length_cons, List.length_append, List.length_singleton]⟩
  · rw [if_neg h]; right; exact ⟨h, rfl⟩
/-- a text has seven signs a cell at most -/
theorem tx_len {sort what part : Nat → Int32} {T : Nat} (hT : T ≤ 3000) (h : wfN sort what part T) : ∀ (f r t : Nat), t < f → t < T → r ≤ 7 → okT sort what part t → 1 ≤ (txN sort what part f r t).length ∧ (txN sort what part f r t).length ≤ 7 * (mp sort what part t).length := by
  intro f
  induction f with
  | zero => intro r t h1; omega
  | succ f ih =>
    intro r t htf htT hr hok
    rw [txN_succ]
    have hbr := br_len (rk sort what t) r (bdN sort what part f t)
    rcases node_view hT h htT hok with ⟨e, -, em⟩ | ⟨e, ⟨v, hv, hw⟩, em⟩ | ⟨e, -, em⟩ | ⟨e, o, a, b, ho, hw, ha, hb, ea, eb, em, oa, ob⟩ | ⟨e, hw, a, ha, ea, em, oa⟩ | ⟨e, hw, em⟩ | ⟨e, hw, a, ha, ea, em, oa⟩ | ⟨e, hw, a, b, ha, hb, ea, eb, em, oa, ob⟩ | ⟨e, hw, a, b, c, ha, hb, hc, ea, eb, ec, em, oa, ob, oc⟩
    · obtain ⟨q1, q2⟩ := bd_0 (what := what) (part := part) (f := f) e
      have := dg_len (what t)
      rw [q1] at hbr ⊢
      rw [em, List.length_singleton]
      omega
    · obtain ⟨q1, q2⟩ := bd_1 (part := part) (f := f) e hw (by omega)
      rw [q1, List.length_singleton] at hbr
      rw [q1, em, List.length_singleton]
      omega
    · obtain ⟨q1, q2⟩ := bd_2 (what := what) (part := part) (f := f) e
      have := dg_len (what t)
      rw [q1, List.length_cons] at hbr
      rw [q1, em, List.length_singleton]
      omega
    · obtain ⟨q1, q2⟩ := bd_3 (part := part) (f := f) e ho hw ea eb (by omega) (by omega)
      have hle := opr_le o ho
      have ia := ih (opr o) a (by omega) (by omega) (by omega) oa
      have ib := ih (opr o + 1) b (by omega) (by omega) (by omega) ob
      rw [q1, List.length_append, List.length_cons, List.length_cons, List.length_cons] at hbr
      rw [q1, em, List.length_append, List.length_append, List.length_singleton]
      omega
    · obtain ⟨q1, q2⟩ := bd_4 (what := what) (part := part) (f := f) e ea (by omega)
      have ia := ih 7 a (by omega) (by omega) (by omega) oa
      rw [q1, List.length_cons] at hbr
      rw [q1, em, List.length_append, List.length_singleton]
      omega
    · have q1 := bd_50 (part := part) (f := f) e hw
      have q2 := rk_5 (what := what) e
      rw [q1] at hbr ⊢
      rw [em, List.length_singleton]
      have : ([102, 40, 41] : List Nat).length = 3 := rfl
      omega
    · have q1 := bd_51 (part := part) (f := f) e hw ea (by omega)
      have q2 := rk_5 (what := what) e
      have ia := ih 0 a (by omega) (by omega) (by omega) oa
      rw [q1, List.length_cons, List.length_cons, List.length_append, List.length_singleton] at hbr
      rw [q1, em, List.length_append, List.length_singleton]
      omega
    · have q1 := bd_52 (part := part) (f := f) e hw ea eb (by omega) (by omega)
      have q2 := rk_5 (what := what) e
      have ia := ih 0 a (by omega) (by omega) (by omega) oa
      have ib := ih 0 b (by omega) (by omega) (by omega) ob
      rw [q1, List.length_cons, List.length_cons, List.length_append, List.length_append, List.length_cons, List.length_cons, List.length_singleton] at hbr
      rw [q1, em, List.length_append, List.length_append, List.length_singleton]
      omega
    · have q1 := bd_53 (part := part) (f := f) e hw ea eb ec (by omega) (by omega) (by omega)
      have q2 := rk_5 (what := what) e
      have ia := ih 0 a (by omega) (by omega) (by omega) oa
      have ib := ih 0 b (by omega) (by omega) (by omega) ob
      have ic := ih 0 c (by omega) (by omega) (by omega) oc
      rw [q1, List.length_cons, List.length_cons, List.length_append, List.length_append, List.length_cons, List.length_cons, List.length_append, List.length_cons, List.length_cons, List.length_singleton] at hbr
      rw [q1, em, List.length_append, List.length_append, List.length_append, List.length_singleton]
      omega
