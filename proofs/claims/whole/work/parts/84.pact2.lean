/-! PURE PART 15: act, both sides: put together -/
section PAct
variable {ak an lck lcn ends tck tcn starts : Nat → Int32} {az lcs lsz tcs tsz temps : Int32} {A : List Cl} {S : Sp}
variable {kind number sort what part pile lineSort lineOf lineTerm : Nat → Int32} {acts terms high lines mtemps thrown : Int32} {T : Nat}
/-- the acts as both sides keep them -/
def acR (ak an : Nat → Int32) (az : Int32) (acts : Int32) (kind number : Nat → Int32) (A : List Cl) : Prop := cd ak an az A ∧ acts = nI A.length ∧ A.length ≤ 100 ∧ (∀ (i : Nat) (c : Cl), A[i]? = some c → kind i = c.1 ∧ number i = c.2) ∧ ∀ (i : Nat) (c : Cl), A[i]? = some c → ∃ κ, κ ≤ 10 ∧ c.1 = nI κ ∧ rng κ c.2
theorem ac_add {k n : Int32} {κ : Nat} (h : acR ak an az acts kind number A) (hl : A.length < 100) (hκ : κ ≤ 10) (hk : k = nI κ) (hr : rng κ n) : ∃ ak' an' az', f_X0_add ak an az k n = some (ak', an', az') ∧ az' = nI (A.length + 1) ∧ acR ak' an' az' (nI (A.length + 1)) (upd kind A.length k) (upd number A.length n) (A ++ [(k, n)]) := by
  obtain ⟨h1, h2, h3, h4, h5⟩ := h
  obtain ⟨ak', an', az', e, g⟩ := p_add k n h1 (by omega)
  have hlen : (A ++ [(k, n)]).length = A.length + 1 := by rw [List.length_append]; rfl
  refine ⟨ak', an', az', e, by rw [g.1, hlen], g, by rw [hlen], by rw [hlen]; omega, ?_, ?_⟩
  · intro i c hi
    by_cases hlt : i < A.length
    · rw [List.getElem?_append_left hlt] at hi
      rw [pk_un (by omega), pk_un (by omega)]; exact h4 i c hi
    · rw [List.getElem?_append_right (by omega)] at hi
      have hz := lt_of_get hi
      rw [List.length_singleton] at hz
      have hi0 : i = A.length := by omega
      subst hi0
      rw [Nat.sub_self, List.getElem?_cons_zero] at hi
      cases hi
      exact ⟨pk_us, pk_us⟩
  · intro i c hi
    rcases List.mem_append.mp (List.mem_of_getElem? hi) with hm | hm
    · obtain ⟨j, hj⟩ := List.getElem?_of_mem hm
      exact h5 j c hj
    · rw [List.mem_singleton.mp hm]; exact ⟨κ, hκ, hk, hr⟩
theorem act_both (k n : Int32) (hA : acR ak an az acts kind number A) (hC : csR tck tcn tcs lck lcn lcs ends lsz tsz starts temps S) (hD : mdR sort what part terms high pile lines lineSort lineOf lineTerm mtemps T S) (hI : invS S A.length) (hT : T ≤ 21 * A.length) :
    (∃ th : Nat, (th = 1 ∨ th = 2) ∧ f_X5_act ak an az lck lcn lcs ends lsz tck tcn tcs tsz starts temps k n = some (.inl th) ∧ f_X6_act acts high kind lineOf lineSort lineTerm lines number part pile sort mtemps terms thrown what k n = some (0, (acts, high, kind, lineOf, lineSort, lineTerm, lines, number, part, pile, sort, mtemps, terms, nI th, what))) ∨
    (∃ κ ak' an' az' lck' lcn' lcs' ends' lsz' tck' tcn' tcs' tsz' starts' temps' acts' kind' number' sort' what' part' pile' lineSort' lineOf' lineTerm' terms' high' lines' mtemps' T', κ ≤ 10 ∧ k = nI κ ∧ rng κ n ∧ A.length < 100 ∧ tak κ n ≤ S.2.1.length ∧ S.2.1.length - tak κ n + pts κ ≤ 20 ∧
      f_X5_act ak an az lck lcn lcs ends lsz tck tcn tcs tsz starts temps k n = some (.inr (acts', (ak', an', az', lck', lcn', lcs', ends', lsz', tck', tcn', tcs', tsz', starts', temps'))) ∧
      f_X6_act acts high kind lineOf lineSort lineTerm lines number part pile sort mtemps terms thrown what k n = some (acts', (acts', high', kind', lineOf', lineSort', lineTerm', lines', number', part', pile', sort', mtemps', terms', 0, what')) ∧
      acR ak' an' az' acts' kind' number' (A ++ [(k, n)]) ∧ csR tck' tcn' tcs' lck' lcn' lcs' ends' lsz' tsz' starts' temps' (tellS S κ n) ∧ mdR sort' what' part' terms' high' pile' lines' lineSort' lineOf' lineTerm' mtemps' T' (tellS S κ n) ∧ invS (tellS S κ n) (A.length + 1) ∧ T' ≤ 21 * (A.length + 1)) := by
  have hAz : az = nI A.length := hA.1.1
  have hMa : acts = nI A.length := hA.2.1
  have hA100 := hA.2.2.1
  have htsz : tsz = nI S.2.1.length := hC.1.2.1
  have hhigh : high = nI S.2.1.length := hD.2.2.1
  have hS20 : S.2.1.length ≤ 20 := hI.2.2.2.2.2
  have zne : ¬ (1 : Int32) = 0 := by decide
  rcases valid_eq k n with ⟨e1, e2⟩ | ⟨e1, e2, κ, hκ, hk, hr⟩
  · left
    refine ⟨1, Or.inl rfl, ?_, ?_⟩
    · unfold f_X5_act
      rw [e1, Option.bind_some, if_pos rfl]
    · unfold f_X6_act
      rw [e2, Option.bind_some, if_pos rfl]
      unfold f_X6_act_B59
      rw [if_neg (by decide)]
      rfl
  have hoN := rng_okN hκ hr
  have hB54 : f_X6_act_B54 acts high kind lineOf lineSort lineTerm lines number part pile sort mtemps terms thrown what k n = some (0, (acts, high, kind, lineOf, lineSort, lineTerm, lines, number, part, pile, sort, mtemps, terms, nI 2, what)) := by
    unfold f_X6_act_B54 f_X6_act_B59
    rw [if_neg (by decide)]
    rfl
  by_cases hfull : A.length = 100
  · left
    refine ⟨2, Or.inr rfl, ?_, ?_⟩
    · unfold f_X5_act
      rw [e1, Option.bind_some, if_neg zne, if_pos (by rw [hAz, hfull]; decide)]
    · unfold f_X6_act
      rw [e2, Option.bind_some, if_neg zne, if_pos (by rw [hMa, hfull]; rfl)]
      exact hB54
  have hlt : A.length < 100 := by omega
  have hnf : ¬ (100 : Int32) ≤ az := by rw [hAz]; exact nI_ge (a := A.length) (b := 100) hlt (by omega)
  have hnm : ¬ acts = 100 := by rw [hMa]; exact fun z => hfull ((nI_eq (b := 100) (by omega) (by omega)).mp z)
  have ec : f_X5_canBeDone tsz k n = some (if tak κ n ≤ S.2.1.length ∧ S.2.1.length - tak κ n + pts κ ≤ 20 then 1 else 0, ()) := by rw [htsz, hk]; exact can_eq hκ hoN hS20
  have et : f_X6_takes k n = some (nI (tak κ n), ()) := by rw [hk]; exact m_takes hκ hoN.1
  have h3 := (p_taken hκ hoN.1).2
  obtain ⟨-, ep, hp3⟩ := puts_tb hκ
  by_cases hcan : tak κ n ≤ S.2.1.length ∧ S.2.1.length - tak κ n + pts κ ≤ 20
  · right
    obtain ⟨hc1, hc2⟩ := hcan
    rw [if_pos ⟨hc1, hc2⟩] at ec
    have hinv := inv_tell (a := n) hI hκ hc1 hc2
    obtain ⟨cap1, cap2, cap3, cap4⟩ := inv_caps hinv (by omega)
    obtain ⟨ak', an', az', ea, haz, hA'⟩ := ac_add hA hlt hκ hk hr
    obtain ⟨b1, b2, b3, b4, b5, b6, b7, b8, b9, b10, b11, eb, hb⟩ := p_tell hκ hoN.1 hC hI.2.2.2.2.1 hc1 hc2 cap1 cap2 cap3
    obtain ⟨c1, c2, c3, c4, c5, c6, c7, c8, c9, c10, c11, T', emt, hmt, hT'⟩ := m_turn hκ hoN hD hI.2.2.2.2.1 hc1 hc2 cap1 (by omega)
    refine ⟨κ, ak', an', az', b4, b5, b6, b7, b8, b1, b2, b3, b9, b10, b11, az', upd kind A.length k, upd number A.length n, c1, c2, c3, c4, c5, c6, c7, c8, c9, c10, c11, T', hκ, hk, hr, hlt, hc1, hc2, ?_, ?_, ?_, hb, hmt, hinv, by omega⟩
    · unfold f_X5_act
      rw [e1, Option.bind_some, if_neg zne, if_neg hnf, ec, Option.bind_some, if_neg zne, ea, Option.bind_some]
      show (f_X4_tell tck tcn tcs lck lcn lcs ends lsz tsz starts temps k n).bind _ = _
      rw [hk, eb, Option.bind_some]
    · unfold f_X6_act
      rw [e2, Option.bind_some, if_neg zne, if_neg hnm, et, Option.bind_some]
      rw [if_neg (show ¬ high < (nI (tak κ n), ()).1 from by rw [hhigh]; exact nI_nlt hc1 (by omega)), Option.bind_some]
      rw [show f_X6_puts k = some (nI (pts κ), ()) by rw [hk]; exact ep, Option.bind_some]
      rw [if_pos (show high - (nI (tak κ n), ()).1 + (nI (pts κ), ()).1 ≤ 20 from by show high - nI (tak κ n) + nI (pts κ) ≤ 20; rw [hhigh, pk_sub hc1, nI_add]; exact nI_le (b := 20) hc2 (by omega))]
      unfold f_X6_act_B59
      rw [if_pos (by decide), hMa, ixd_of (vp_in_nI hlt (by omega)), ixd_of (vp_in_nI hlt (by omega)), nI_clamp (by omega)]
      rw [show f_X6_turn high lineOf lineSort lineTerm lines part pile sort mtemps terms what k n = some (c9, c6, c5, c7, c10, c3, c4, c1, c11, c8, c2) by rw [hk]; exact emt, Option.bind_some, nI_1, haz]
    · rw [haz] at hA' ⊢; exact hA'
  · left
    rw [if_neg hcan] at ec
    refine ⟨2, Or.inr rfl, ?_, ?_⟩
    · unfold f_X5_act
      rw [e1, Option.bind_some, if_neg zne, if_neg hnf, ec, Option.bind_some, if_pos rfl]
    · unfold f_X6_act
      rw [e2, Option.bind_some, if_neg zne, if_neg hnm, et, Option.bind_some]
      by_cases hc1 : tak κ n ≤ S.2.1.length
      · have hc2 : ¬ S.2.1.length - tak κ n + pts κ ≤ 20 := fun z => hcan ⟨hc1, z⟩
        rw [if_neg (show ¬ high < (nI (tak κ n), ()).1 from by rw [hhigh]; exact nI_nlt hc1 (by omega)), Option.bind_some]
        rw [show f_X6_puts k = some (nI (pts κ), ()) by rw [hk]; exact ep, Option.bind_some]
        rw [if_neg (show ¬ high - (nI (tak κ n), ()).1 + (nI (pts κ), ()).1 ≤ 20 from by show ¬ high - nI (tak κ n) + nI (pts κ) ≤ 20; rw [hhigh, pk_sub hc1, nI_add]; exact nI_ge (a := 20) (by omega) (by omega))]
        exact hB54
      · rw [if_pos (show high < (nI (tak κ n), ()).1 from by rw [hhigh]; exact nI_lt (by omega) (by omega))]
        exact hB54
end PAct
