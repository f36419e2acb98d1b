/-! PURE PART 14: act, both sides -/
def vL (κ : Nat) : Int32 := if κ = 0 then -128 else 0
def vM (κ : Nat) : Int32 := ([127, 9, 9, 2559, 7, 0, 0, 0, 0, 0, 3] : List Int32).getD κ 0
/-- the number is one that the kind may have -/
def rng (κ : Nat) (n : Int32) : Prop := ¬ n < vL κ ∧ ¬ vM κ < n
theorem isAct_eq (κ : Nat) (hκ : κ < 11) (n : Int32) : f_X5_isAct (nI κ) n = (if n < vL κ then some (0, ()) else if vM κ < n then some (0, ()) else some (1, ())) := by
  match κ, hκ with
  | 0, _ => rfl
  | 1, _ => rfl
  | 2, _ => rfl
  | 3, _ => rfl
  | 4, _ => rfl
  | 5, _ => rfl
  | 6, _ => rfl
  | 7, _ => rfl
  | 8, _ => rfl
  | 9, _ => rfl
  | 10, _ => rfl
  | k + 11, h => omega
theorem mayBe_eq (κ : Nat) (hκ : κ < 11) (n : Int32) : f_X6_mayBe (nI κ) n = (if n < vL κ then some (0, ()) else if vM κ < n then some (0, ()) else some (1, ())) := by
  match κ, hκ with
  | 0, _ => rfl
  | 1, _ => rfl
  | 2, _ => rfl
  | 3, _ => rfl
  | 4, _ => rfl
  | 5, _ => rfl
  | 6, _ => rfl
  | 7, _ => rfl
  | 8, _ => rfl
  | 9, _ => rfl
  | 10, _ => rfl
  | k + 11, h => omega
theorem ne_neg {k : Int32} (h : k < 0) (m : Nat) (hm : m < 2 ^ 31) : ¬ k = nI m := fun e => absurd h (by rw [e]; exact nI_pos hm)
theorem ne_big {k : Int32} (h : nI 11 ≤ k) (m : Nat) (hm : m < 11) : ¬ k = nI m := fun e => absurd h (by rw [e]; exact nI_ge hm (by omega))
theorem valid_eq (k n : Int32) : (f_X5_isAct k n = some (0, ()) ∧ f_X6_mayBe k n = some (0, ())) ∨ (f_X5_isAct k n = some (1, ()) ∧ f_X6_mayBe k n = some (1, ()) ∧ ∃ κ, κ ≤ 10 ∧ k = nI κ ∧ rng κ n) := by
  rcases pk_ix k (n := 11) (by omega) with h | h | ⟨κ, hκ, rfl⟩
  · left
    refine ⟨by unfold f_X5_isAct; rw [if_pos h], ?_⟩
    unfold f_X6_mayBe
    rw [if_neg (show ¬ k = 0 from ne_neg h 0 (by omega)), if_neg (show ¬ k = 1 from ne_neg h 1 (by omega)), if_neg (show ¬ k = 2 from ne_neg h 2 (by omega)), if_neg (show ¬ k = 3 from ne_neg h 3 (by omega)), if_neg (show ¬ k = 4 from ne_neg h 4 (by omega)), if_neg (show ¬ k = 10 from ne_neg h 10 (by omega)), if_pos (Int32.le_of_lt h)]
  · left
    have hp : ¬ k < 0 := by
      intro z
      rw [Int32.lt_iff_toInt_lt] at z
      rw [Int32.le_iff_toInt_le, nI_toInt (by omega)] at h
      rw [Int32.toInt_zero] at z
      omega
    have hp0 : ¬ k ≤ 0 := by
      intro z
      rw [Int32.le_iff_toInt_le] at z
      rw [Int32.le_iff_toInt_le, nI_toInt (by omega)] at h
      rw [Int32.toInt_zero] at z
      omega
    have h10 : (10 : Int32) < k := by
      rw [Int32.lt_iff_toInt_lt]
      rw [Int32.le_iff_toInt_le, nI_toInt (by omega)] at h
      show (nI 10).toInt < _
      rw [nI_toInt (by omega)]
      omega
    refine ⟨by unfold f_X5_isAct; rw [if_neg hp, if_pos h10], ?_⟩
    unfold f_X6_mayBe
    rw [if_neg (show ¬ k = 0 from ne_big h 0 (by omega)), if_neg (show ¬ k = 1 from ne_big h 1 (by omega)), if_neg (show ¬ k = 2 from ne_big h 2 (by omega)), if_neg (show ¬ k = 3 from ne_big h 3 (by omega)), if_neg (show ¬ k = 4 from ne_big h 4 (by omega)), if_neg (show ¬ k = 10 from ne_big h 10 (by omega)), if_neg hp0, if_pos (show (11 : Int32) ≤ k from h)]
  · rw [isAct_eq κ hκ, mayBe_eq κ hκ]
    by_cases h1 : n < vL κ
    · left; rw [if_pos h1]; exact ⟨rfl, rfl⟩
    · rw [if_neg h1]
      by_cases h2 : vM κ < n
      · left; rw [if_pos h2]; exact ⟨rfl, rfl⟩
      · right; rw [if_neg h2]; exact ⟨rfl, rfl, κ, by omega, rfl, h1, h2⟩
theorem rng_okN {κ : Nat} {n : Int32} (hκ : κ ≤ 10) (h : rng κ n) : okN κ n := by
  obtain ⟨h1, h2⟩ := h
  refine ⟨fun e => ?_, fun h5 h9 => ?_⟩
  · subst e
    exact nI_of2 (M := 3) rfl h1 (Int32.not_lt.mp h2)
  · have hl : vL κ = 0 := by unfold vL; rw [if_neg (by omega)]
    have hm : vM κ = 0 := by
      have : κ = 5 ∨ κ = 6 ∨ κ = 7 ∨ κ = 8 ∨ κ = 9 := by omega
      rcases this with rfl | rfl | rfl | rfl | rfl <;> rfl
    rw [hl] at h1
    rw [hm] at h2
    exact Int32.le_antisymm (Int32.not_lt.mp h2) (Int32.not_lt.mp h1)
theorem puts_tb {κ : Nat} (hκ : κ ≤ 10) : tb_PUTS κ = nI (pts κ) ∧ f_X6_puts (nI κ) = some (nI (pts κ), ()) ∧ pts κ ≤ 3 := by
  have : ∀ κ : Fin 11, tb_PUTS κ.val = nI (pts κ.val) ∧ pts κ.val ≤ 3 := by decide
  have h1 := this ⟨κ, by omega⟩
  refine ⟨h1.1, ?_, h1.2⟩
  match κ, hκ with
  | 0, _ => rfl
  | 1, _ => rfl
  | 2, _ => rfl
  | 3, _ => rfl
  | 4, _ => rfl
  | 5, _ => rfl
  | 6, _ => rfl
  | 7, _ => rfl
  | 8, _ => rfl
  | 9, _ => rfl
  | 10, _ => rfl
  | k + 11, h => omega
theorem can_eq {κ m : Nat} {n : Int32} (hκ : κ ≤ 10) (hn : okN κ n) (hm : m ≤ 20) : f_X5_canBeDone (nI m) (nI κ) n = some (if tak κ n ≤ m ∧ m - tak κ n + pts κ ≤ 20 then 1 else 0, ()) := by
  obtain ⟨e0, h3⟩ := p_taken hκ hn.1
  obtain ⟨e1, -, hp3⟩ := puts_tb hκ
  unfold f_X5_canBeDone
  rw [e0, Option.bind_some]
  show (if nI m - nI (tak κ n) < 0 then _ else _) = _
  by_cases h : tak κ n ≤ m
  · rw [pk_sub h, if_neg (nI_pos (by omega)), ixd_of (vp_in_nI (by omega) (by omega)), nI_clamp (by omega), e1, nI_add]
    by_cases h2 : m - tak κ n + pts κ ≤ 20
    · rw [if_neg (show ¬ (20 : Int32) < nI (m - tak κ n + pts κ) from nI_nlt (a := 20) (b := m - tak κ n + pts κ) h2 (by omega)), if_pos ⟨h, h2⟩]
    · rw [if_pos (show (20 : Int32) < nI (m - tak κ n + pts κ) from nI_lt (a := 20) (b := m - tak κ n + pts κ) (by omega) (by omega)), if_neg (fun z => h2 z.2)]
  · rw [if_pos (pk_sneg (by omega) (by omega)), if_neg (fun z => h z.1)]
