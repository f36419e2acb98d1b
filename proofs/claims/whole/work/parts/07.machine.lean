abbrev W_X2_isTemporary : va_W := []
def f_X2_isTemporary (a_p1 : Int32) : Option (Int32 × Unit) := if a_p1 < 0 then some (0, ()) else if 100 ≤ a_p1 then some (0, ()) else some (1, ())
theorem hdn_X2_isTemporary : yX2_isTemporary.cls ≠ "java/lang/invoke/MethodHandle" ∧ yX2_isTemporary.cls ≠ "java/lang/invoke/VarHandle" ∧ (parseMethodDescriptor yX2_isTemporary.desc).map (fun d => d.parameters.length) = some 1 := by decide +kernel
set_option maxHeartbeats 4000000 in
set_option maxRecDepth 100000 in
theorem c_X2_isTemporary (l : Launch) (dC : Nat → ClassId) (dI : Nat → Nat → Nat) (sz : Nat) (a_p1 : Int32) (res : Int32 × Unit) (hd : f_X2_isTemporary a_p1 = some res) : Met l yX2_isTemporary wsX2_isTemporary ({ frames := 0, cells := 0, slots := 0, locals := 0 }) (va_Pc [.int a_p1] (fun U => mPre dC dI ([]) [] sz U)) (va_Qi (fun (r : Int32) (u : Unit) => r = res.1 ∧ u = res.2) (fun (u : Unit) t => mPost dC dI (va_A ([]) sz) ([]) [] t) (va_A ([]) sz)) 0 0 (va_A ([]) sz) := by
  refine Met.ofW (cc := cX2_isTemporary) (maxL := 1) (ret := (some .boolean)) (by decide) rfl ?_
  intro p e s m args below meth c s₁ B hml hv
  obtain ⟨rfl, ⟨hsz, hP, hK, hD0⟩⟩ := hv
  have hx := B.exec
  have hb := B.bytes
  have hr := B.returns
  have hts := atoms_spec (ws := wsX2_isTemporary) B.pre
  have hown : s.vm.findClass RX2 = some m.cls := findClass_of_methodNamed B.named
  have hlocks := B.notSynchronized
  subst hsz
  have hD := hD0.self (sz := s.heap.size)
  generalize hAe : va_A ([]) s.heap.size = A at hD ⊢
  have hA : ∀ q : Nat, s.heap.size ≤ q → A q := fun q h => by rw [← hAe]; exact Or.inr h
  clear hAe hD0
  have hS : va_S A s.heap s.heap [] := va_S.rf
  have hl := lv_entry ([.int a_p1]) (n := 1) (Nat.le_of_ble_eq_true rfl)
  rw [lg_entry_eq]
  generalize (lg_sl ([.int a_p1]) ++ List.replicate (1 - (lg_sl ([.int a_p1])).length) Slot.unset).toArray = ls at hl ⊢
  have hl : lv_has ls 1 [(0, .int a_p1)] := hl
  have h := hd
  unfold f_X2_isTemporary at h
  obtain ⟨H, hHe⟩ : ∃ H, H = s.heap := ⟨_, rfl⟩
  obtain ⟨locs, hLe⟩ : ∃ L : List Loc, L = [] := ⟨_, rfl⟩
  have hS : va_S A s.heap H locs := by rw [hHe, hLe]; exact hS
  have hP : va_P (dC, dI) vwCl [] H := by rw [hHe]; exact hP
  rw [show W p l e (headSpec wsX2_isTemporary ({ frames := 0, cells := 0, slots := 0, locals := 0 })).room s m [.int a_p1].toArray below meth c s.heap [] 0 0 = W p l e (headSpec wsX2_isTemporary ({ frames := 0, cells := 0, slots := 0, locals := 0 })).room s m [.int a_p1].toArray below meth c H locs 0 0 by rw [hHe, hLe]]
  clear hHe hLe
  refine lv_iload_n hx hb dX2_isTemporary_0 rfl (lv_at hl 0 rfl) ?_
  refine lv_if_lt (tgt := 14) hx hb dX2_isTemporary_1 (by decide) (fun c1 => ?_) (fun c1 => ?_)
  · have h := it_t h c1
    refine lv_iconst (v := 0) hx hb dX2_isTemporary_14 (by decide) ?_
    obtain rfl := Option.some.inj h
    exact W.zret (v := 0) hx hb hr (by decide) (fun t ht hW => ⟨⟨0, (), rfl, ⟨rfl, rfl⟩, by rw [ht]; exact hP, va_K.moved hW.alike hK, hD⟩, hS.F ht⟩) hS.2.2 dX2_isTemporary_15
  · have h := it_f h c1
    refine lv_iload_n hx hb dX2_isTemporary_4 rfl (lv_at hl 0 rfl) ?_
    refine lv_bipush (v := 100) hx hb dX2_isTemporary_5 (by decide) ?_
    refine lv_icmp_ge (tgt := 14) hx hb dX2_isTemporary_7 (by decide) (fun c2 => ?_) (fun c2 => ?_)
    · have h := it_t h c2
      refine lv_iconst (v := 0) hx hb dX2_isTemporary_14 (by decide) ?_
      obtain rfl := Option.some.inj h
      exact W.zret (v := 0) hx hb hr (by decide) (fun t ht hW => ⟨⟨0, (), rfl, ⟨rfl, rfl⟩, by rw [ht]; exact hP, va_K.moved hW.alike hK, hD⟩, hS.F ht⟩) hS.2.2 dX2_isTemporary_15
    · have h := it_f h c2
      refine lv_iconst (v := 1) hx hb dX2_isTemporary_10 (by decide) ?_
      refine lv_goto (tgt := 15) hx hb dX2_isTemporary_11 (by decide) ?_
      obtain rfl := Option.some.inj h
      exact W.zret (v := 1) hx hb hr (by decide) (fun t ht hW => ⟨⟨1, (), rfl, ⟨rfl, rfl⟩, by rw [ht]; exact hP, va_K.moved hW.alike hK, hD⟩, hS.F ht⟩) hS.2.2 dX2_isTemporary_15
abbrev W_X2_push (h_this h_this_pile : Nat) (k_this_pile : ClassId) (u_this_variables u_this_temporaries u_this_calls u_this_hasRun : Value) (v_this_pile : Nat → Int64) (v_this_size : Int32) : va_W := [(h_this, .inr (2, [u_this_variables, u_this_temporaries, .ref h_this_pile, .int v_this_size, u_this_calls, u_this_hasRun])), (h_this_pile, .inl (k_this_pile, 20, .inr (.inl (v_this_pile))))]
def f_X2_push (v_this_pile : Nat → Int64) (v_this_size : Int32) (a_p1 : Int64) : Option ((Nat → Int64) × Int32) := if v_this_size < 0 then some ((v_this_pile, v_this_size)) else if 20 ≤ v_this_size then some ((v_this_pile, v_this_size)) else ixd v_this_size 20 (some ((vp_updL v_this_pile v_this_size.toNatClampNeg a_p1, v_this_size + 1)))
theorem hdn_X2_push : yX2_push.cls ≠ "java/lang/invoke/MethodHandle" ∧ yX2_push.cls ≠ "java/lang/invoke/VarHandle" ∧ (parseMethodDescriptor yX2_push.desc).map (fun d => d.parameters.length) = some 1 := by decide +kernel
theorem hd_X2_push : yX2_push.cls = RX2 ∧ yX2_push.cls ≠ "java/lang/invoke/MethodHandle" ∧ yX2_push.cls ≠ "java/lang/invoke/VarHandle" ∧ (parseMethodDescriptor yX2_push.desc).map (fun d => d.parameters.length) = some 1 := ⟨rfl, hdn_X2_push⟩
set_option maxHeartbeats 4000000 in
set_option maxRecDepth 100000 in
theorem c_X2_push (l : Launch) (dC : Nat → ClassId) (dI : Nat → Nat → Nat) (h_this h_this_pile : Nat) (k_this_pile : ClassId) (u_this_variables u_this_temporaries u_this_calls u_this_hasRun : Value) (sz : Nat) (v_this_pile : Nat → Int64) (v_this_size : Int32) (a_p1 : Int64) (res : (Nat → Int64) × Int32) (hd : f_X2_push v_this_pile v_this_size a_p1 = some res) : Met l yX2_push wsX2_push ({ frames := 0, cells := 0, slots := 0, locals := 0 }) (va_Pc [.ref h_this, .long a_p1] (fun U => mPre dC dI (W_X2_push h_this h_this_pile k_this_pile u_this_variables u_this_temporaries u_this_calls u_this_hasRun v_this_pile v_this_size) [(k_this_pile, .long)] sz U)) (va_Qv (fun (u : (Nat → Int64) × Int32) => u = res) (fun (u : (Nat → Int64) × Int32) t => mPost dC dI (va_A (W_X2_push h_this h_this_pile k_this_pile u_this_variables u_this_temporaries u_this_calls u_this_hasRun v_this_pile v_this_size) sz) (W_X2_push h_this h_this_pile k_this_pile u_this_variables u_this_temporaries u_this_calls u_this_hasRun u.1 u.2) [(k_this_pile, .long)] t) (va_A (W_X2_push h_this h_this_pile k_this_pile u_this_variables u_this_temporaries u_this_calls u_this_hasRun v_this_pile v_this_size) sz)) 0 0 (va_A (W_X2_push h_this h_this_pile k_this_pile u_this_variables u_this_temporaries u_this_calls u_this_hasRun v_this_pile v_this_size) sz) := by
  refine Met.ofW (cc := cX2_push) (maxL := 3) (ret := none) (by decide) rfl ?_
  intro p e s m args below meth c s₁ B hml hv
  obtain ⟨rfl, ⟨hsz, hP, hK, hD0⟩⟩ := hv
  have hx := B.exec
  have hb := B.bytes
  have hr := B.returns
  have hts := atoms_spec (ws := wsX2_push) B.pre
  have hown : s.vm.findClass RX2 = some m.cls := findClass_of_methodNamed B.named
  have hlocks := B.notSynchronized
  have w_1 := hts (.fieldLink RX2 21 "TermPile$Machine" "size" "I") (by decide +kernel)
  have w_2 := hts (.fieldLink RX2 18 "TermPile$Machine" "pile" "[J") (by decide +kernel)
  have in_X2 : ∀ w ∈ wsX20, w ∈ wsX2_push := by decide +kernel
  subst hsz
  have hD := hD0.self (sz := s.heap.size)
  generalize hAe : va_A (W_X2_push h_this h_this_pile k_this_pile u_this_variables u_this_temporaries u_this_calls u_this_hasRun v_this_pile v_this_size) s.heap.size = A at hD ⊢
  have hA : ∀ q : Nat, s.heap.size ≤ q → A q := fun q h => by rw [← hAe]; exact Or.inr h
  clear hAe hD0
  have hS : va_S A s.heap s.heap [] := va_S.rf
  have hP : va_P (dC, dI) vwCl [(h_this, .inr (2, [u_this_variables, u_this_temporaries, .ref h_this_pile, .int v_this_size, u_this_calls, u_this_hasRun])), (h_this_pile, .inl (k_this_pile, 20, .inr (.inl (v_this_pile))))] s.heap := hP
  have hD : va_D A [(h_this, .inr (2, [u_this_variables, u_this_temporaries, .ref h_this_pile, .int v_this_size, u_this_calls, u_this_hasRun])), (h_this_pile, .inl (k_this_pile, 20, .inr (.inl (v_this_pile))))] := hD
  have hl := lv_entry ([.ref h_this, .long a_p1]) (n := 3) (Nat.le_of_ble_eq_true rfl)
  rw [lg_entry_eq]
  generalize (lg_sl ([.ref h_this, .long a_p1]) ++ List.replicate (3 - (lg_sl ([.ref h_this, .long a_p1])).length) Slot.unset).toArray = ls at hl ⊢
  have hl : lv_has ls 3 [(0, .ref h_this), (1, .long a_p1)] := hl
  have h := hd
  unfold f_X2_push at h
  obtain ⟨H, hHe⟩ : ∃ H, H = s.heap := ⟨_, rfl⟩
  obtain ⟨locs, hLe⟩ : ∃ L : List Loc, L = [] := ⟨_, rfl⟩
  have hS : va_S A s.heap H locs := by rw [hHe, hLe]; exact hS
  have hP : va_P (dC, dI) vwCl [(h_this, .inr (2, [u_this_variables, u_this_temporaries, .ref h_this_pile, .int v_this_size, u_this_calls, u_this_hasRun])), (h_this_pile, .inl (k_this_pile, 20, .inr (.inl (v_this_pile))))] H := by rw [hHe]; exact hP
  rw [show W p l e (headSpec wsX2_push ({ frames := 0, cells := 0, slots := 0, locals := 0 })).room s m [.ref h_this, .long a_p1].toArray below meth c s.heap [] 0 0 = W p l e (headSpec wsX2_push ({ frames := 0, cells := 0, slots := 0, locals := 0 })).room s m [.ref h_this, .long a_p1].toArray below meth c H locs 0 0 by rw [hHe, hLe]]
  clear hHe hLe
  refine lv_aload_n hx hb dX2_push_0 rfl (lv_at hl 0 rfl) ?_
  refine va_get (D := (dC, dI)) (ci := 2) (v := .int v_this_size) (C := RX2) (T := TX2) (N := 6) hx hb hts in_X2 hown hK hP 0 rfl rfl 3 (by decide) w_1 (fun _ h9 => h9) rfl dX2_push_1 ?_
  refine lv_if_lt (tgt := 36) hx hb dX2_push_4 (by decide) (fun c1 => ?_) (fun c1 => ?_)
  · have h := it_t h c1
    obtain rfl := Option.some.inj h
    exact W.vret hx hb hr (fun t ht hW => ⟨⟨(v_this_pile, v_this_size), rfl, rfl, by rw [ht]; exact hP, va_K.moved hW.alike hK, hD⟩, hS.F ht⟩) hS.2.2 dX2_push_36
  · have h := it_f h c1
    refine lv_aload_n hx hb dX2_push_7 rfl (lv_at hl 0 rfl) ?_
    refine va_get (D := (dC, dI)) (ci := 2) (v := .int v_this_size) (C := RX2) (T := TX2) (N := 6) hx hb hts in_X2 hown hK hP 0 rfl rfl 3 (by decide) w_1 (fun _ h9 => h9) rfl dX2_push_8 ?_
    refine lv_bipush (v := 20) hx hb dX2_push_11 (by decide) ?_
    refine lv_icmp_ge (tgt := 36) hx hb dX2_push_13 (by decide) (fun c2 => ?_) (fun c2 => ?_)
    · have h := it_t h c2
      obtain rfl := Option.some.inj h
      exact W.vret hx hb hr (fun t ht hW => ⟨⟨(v_this_pile, v_this_size), rfl, rfl, by rw [ht]; exact hP, va_K.moved hW.alike hK, hD⟩, hS.F ht⟩) hS.2.2 dX2_push_36
    · have h := it_f h c2
      refine lv_aload_n hx hb dX2_push_16 rfl (lv_at hl 0 rfl) ?_
      refine va_get (D := (dC, dI)) (ci := 2) (v := .ref h_this_pile) (C := RX2) (T := TX2) (N := 6) hx hb hts in_X2 hown hK hP 0 rfl rfl 2 (by decide) w_2 (fun _ h9 => h9) rfl dX2_push_17 ?_
      refine lv_aload_n hx hb dX2_push_20 rfl (lv_at hl 0 rfl) ?_
      refine va_get (D := (dC, dI)) (ci := 2) (v := .int v_this_size) (C := RX2) (T := TX2) (N := 6) hx hb hts in_X2 hown hK hP 0 rfl rfl 3 (by decide) w_1 (fun _ h9 => h9) rfl dX2_push_21 ?_
      refine lv_lload_n hx hb dX2_push_24 rfl (lv_at hl 1 rfl) ?_
      obtain ⟨i3, h⟩ := ixd_ok h
      refine va_last hx hb hK hP hD hS 1 0 rfl rfl i3 dX2_push_25 (fun H locs hP hD hS => ?_)
      have hP : va_P (dC, dI) vwCl [(h_this, .inr (2, [u_this_variables, u_this_temporaries, .ref h_this_pile, .int v_this_size, u_this_calls, u_this_hasRun])), (h_this_pile, .inl (k_this_pile, 20, .inr (.inl (vp_updL v_this_pile v_this_size.toNatClampNeg a_p1))))] H := hP
      have hD : va_D A [(h_this, .inr (2, [u_this_variables, u_this_temporaries, .ref h_this_pile, .int v_this_size, u_this_calls, u_this_hasRun])), (h_this_pile, .inl (k_this_pile, 20, .inr (.inl (vp_updL v_this_pile v_this_size.toNatClampNeg a_p1))))] := hD
      refine lv_aload_n hx hb dX2_push_26 rfl (lv_at hl 0 rfl) ?_
      refine lv_dup hx hb dX2_push_27 rfl ?_
      refine va_get (D := (dC, dI)) (ci := 2) (v := .int v_this_size) (C := RX2) (T := TX2) (N := 6) hx hb hts in_X2 hown hK hP 0 rfl rfl 3 (by decide) w_1 (fun _ h9 => h9) rfl dX2_push_28 ?_
      refine lv_iconst (v := 1) hx hb dX2_push_31 (by decide) ?_
      refine lv_iadd hx hb dX2_push_32 ?_
      refine va_put (D := (dC, dI)) (ci := 2) (v := .int (v_this_size + 1)) (ty := .int) (C := RX2) (T := TX2) (N := 6) hx hb hts in_X2 tyX2 tyX2_ok nmX2 hown hK hP hD hS 0 rfl rfl 3 (by decide) w_1 (fun _ h9 => h9) rfl (by decide +kernel) rfl rfl (Nat.le_of_ble_eq_true rfl) dX2_push_33 (fun H locs hP hD hS => ?_)
      have hP : va_P (dC, dI) vwCl [(h_this, .inr (2, [u_this_variables, u_this_temporaries, .ref h_this_pile, .int (v_this_size + 1), u_this_calls, u_this_hasRun])), (h_this_pile, .inl (k_this_pile, 20, .inr (.inl (vp_updL v_this_pile v_this_size.toNatClampNeg a_p1))))] H := hP
      have hD : va_D A [(h_this, .inr (2, [u_this_variables, u_this_temporaries, .ref h_this_pile, .int (v_this_size + 1), u_this_calls, u_this_hasRun])), (h_this_pile, .inl (k_this_pile, 20, .inr (.inl (vp_updL v_this_pile v_this_size.toNatClampNeg a_p1))))] := hD
      obtain rfl := Option.some.inj h
      exact W.vret hx hb hr (fun t ht hW => ⟨⟨(vp_updL v_this_pile v_this_size.toNatClampNeg a_p1, v_this_size + 1), rfl, rfl, by rw [ht]; exact hP, va_K.moved hW.alike hK, hD⟩, hS.F ht⟩) hS.2.2 dX2_push_36
abbrev W_X2_pop (h_this h_this_pile : Nat) (k_this_pile : ClassId) (u_this_variables u_this_temporaries u_this_calls u_this_hasRun : Value) (v_this_pile : Nat → Int64) (v_this_size : Int32) : va_W := [(h_this, .inr (2, [u_this_variables, u_this_temporaries, .ref h_this_pile, .int v_this_size, u_this_calls, u_this_hasRun])), (h_this_pile, .inl (k_this_pile, 20, .inr (.inl (v_this_pile))))]
def f_X2_pop (v_this_pile : Nat → Int64) (v_this_size : Int32) : Option (Int64 × (Int32)) := if v_this_size ≤ 0 then some (0, v_this_size) else if v_this_size ≤ 20 then ixd (v_this_size - 1) 20 (some (v_this_pile (v_this_size - 1).toNatClampNeg, v_this_size - 1)) else some (0, v_this_size)
theorem hdn_X2_pop : yX2_pop.cls ≠ "java/lang/invoke/MethodHandle" ∧ yX2_pop.cls ≠ "java/lang/invoke/VarHandle" ∧ (parseMethodDescriptor yX2_pop.desc).map (fun d => d.parameters.length) = some 0 := by decide +kernel
theorem hd_X2_pop : yX2_pop.cls = RX2 ∧ yX2_pop.cls ≠ "java/lang/invoke/MethodHandle" ∧ yX2_pop.cls ≠ "java/lang/invoke/VarHandle" ∧ (parseMethodDescriptor yX2_pop.desc).map (fun d => d.parameters.length) = some 0 := ⟨rfl, hdn_X2_pop⟩
set_option maxHeartbeats 4000000 in
set_option maxRecDepth 100000 in
theorem c_X2_pop (l : Launch) (dC : Nat → ClassId) (dI : Nat → Nat → Nat) (h_this h_this_pile : Nat) (k_this_pile : ClassId) (u_this_variables u_this_temporaries u_this_calls u_this_hasRun : Value) (sz : Nat) (v_this_pile : Nat → Int64) (v_this_size : Int32) (res : Int64 × (Int32)) (hd : f_X2_pop v_this_pile v_this_size = some res) : Met l yX2_pop wsX2_pop ({ frames := 0, cells := 0, slots := 0, locals := 0 }) (va_Pc [.ref h_this] (fun U => mPre dC dI (W_X2_pop h_this h_this_pile k_this_pile u_this_variables u_this_temporaries u_this_calls u_this_hasRun v_this_pile v_this_size) [(k_this_pile, .long)] sz U)) (va_Ql (fun (r : Int64) (u : Int32) => r = res.1 ∧ u = res.2) (fun (u : Int32) t => mPost dC dI (va_A (W_X2_pop h_this h_this_pile k_this_pile u_this_variables u_this_temporaries u_this_calls u_this_hasRun v_this_pile v_this_size) sz) (W_X2_pop h_this h_this_pile k_this_pile u_this_variables u_this_temporaries u_this_calls u_this_hasRun v_this_pile u) [(k_this_pile, .long)] t) (va_A (W_X2_pop h_this h_this_pile k_this_pile u_this_variables u_this_temporaries u_this_calls u_this_hasRun v_this_pile v_this_size) sz)) 0 0 (va_A (W_X2_pop h_this h_this_pile k_this_pile u_this_variables u_this_temporaries u_this_calls u_this_hasRun v_this_pile v_this_size) sz) := by
  refine Met.ofW (cc := cX2_pop) (maxL := 1) (ret := (some .long)) (by decide) rfl ?_
  intro p e s m args below meth c s₁ B hml hv
  obtain ⟨rfl, ⟨hsz, hP, hK, hD0⟩⟩ := hv
  have hx := B.exec
  have hb := B.bytes
  have hr := B.returns
  have hts := atoms_spec (ws := wsX2_pop) B.pre
  have hown : s.vm.findClass RX2 = some m.cls := findClass_of_methodNamed B.named
  have hlocks := B.notSynchronized
  have w_1 := hts (.fieldLink RX2 21 "TermPile$Machine" "size" "I") (by decide +kernel)
  have w_2 := hts (.fieldLink RX2 18 "TermPile$Machine" "pile" "[J") (by decide +kernel)
  have in_X2 : ∀ w ∈ wsX20, w ∈ wsX2_pop := by decide +kernel
  subst hsz
  have hD := hD0.self (sz := s.heap.size)
  generalize hAe : va_A (W_X2_pop h_this h_this_pile k_this_pile u_this_variables u_this_temporaries u_this_calls u_this_hasRun v_this_pile v_this_size) s.heap.size = A at hD ⊢
  have hA : ∀ q : Nat, s.heap.size ≤ q → A q := fun q h => by rw [← hAe]; exact Or.inr h
  clear hAe hD0
  have hS : va_S A s.heap s.heap [] := va_S.rf
  have hP : va_P (dC, dI) vwCl [(h_this, .inr (2, [u_this_variables, u_this_temporaries, .ref h_this_pile, .int v_this_size, u_this_calls, u_this_hasRun])), (h_this_pile, .inl (k_this_pile, 20, .inr (.inl (v_this_pile))))] s.heap := hP
  have hD : va_D A [(h_this, .inr (2, [u_this_variables, u_this_temporaries, .ref h_this_pile, .int v_this_size, u_this_calls, u_this_hasRun])), (h_this_pile, .inl (k_this_pile, 20, .inr (.inl (v_this_pile))))] := hD
  have hl := lv_entry ([.ref h_this]) (n := 1) (Nat.le_of_ble_eq_true rfl)
  rw [lg_entry_eq]
  generalize (lg_sl ([.ref h_this]) ++ List.replicate (1 - (lg_sl ([.ref h_this])).length) Slot.unset).toArray = ls at hl ⊢
  have hl : lv_has ls 1 [(0, .ref h_this)] := hl
  have h := hd
  unfold f_X2_pop at h
  obtain ⟨H, hHe⟩ : ∃ H, H = s.heap := ⟨_, rfl⟩
  obtain ⟨locs, hLe⟩ : ∃ L : List Loc, L = [] := ⟨_, rfl⟩
  have hS : va_S A s.heap H locs := by rw [hHe, hLe]; exact hS
  have hP : va_P (dC, dI) vwCl [(h_this, .inr (2, [u_this_variables, u_this_temporaries, .ref h_this_pile, .int v_this_size, u_this_calls, u_this_hasRun])), (h_this_pile, .inl (k_this_pile, 20, .inr (.inl (v_this_pile))))] H := by rw [hHe]; exact hP
  rw [show W p l e (headSpec wsX2_pop ({ frames := 0, cells := 0, slots := 0, locals := 0 })).room s m [.ref h_this].toArray below meth c s.heap [] 0 0 = W p l e (headSpec wsX2_pop ({ frames := 0, cells := 0, slots := 0, locals := 0 })).room s m [.ref h_this].toArray below meth c H locs 0 0 by rw [hHe, hLe]]
  clear hHe hLe
  refine lv_aload_n hx hb dX2_pop_0 rfl (lv_at hl 0 rfl) ?_
  refine va_get (D := (dC, dI)) (ci := 2) (v := .int v_this_size) (C := RX2) (T := TX2) (N := 6) hx hb hts in_X2 hown hK hP 0 rfl rfl 3 (by decide) w_1 (fun _ h9 => h9) rfl dX2_pop_1 ?_
  refine lv_if_le (tgt := 16) hx hb dX2_pop_4 (by decide) (fun c1 => ?_) (fun c1 => ?_)
  · have h := it_t h c1
    refine lv_lconst (v := 0) hx hb dX2_pop_16 (by decide) ?_
    obtain rfl := Option.some.inj h
    exact W.lret (v := 0) hx hb hr (fun t ht hW => ⟨⟨0, v_this_size, rfl, ⟨rfl, rfl⟩, by rw [ht]; exact hP, va_K.moved hW.alike hK, hD⟩, hS.F ht⟩) hS.2.2 dX2_pop_17
  · have h := it_f h c1
    refine lv_aload_n hx hb dX2_pop_7 rfl (lv_at hl 0 rfl) ?_
    refine va_get (D := (dC, dI)) (ci := 2) (v := .int v_this_size) (C := RX2) (T := TX2) (N := 6) hx hb hts in_X2 hown hK hP 0 rfl rfl 3 (by decide) w_1 (fun _ h9 => h9) rfl dX2_pop_8 ?_
    refine lv_bipush (v := 20) hx hb dX2_pop_11 (by decide) ?_
    refine lv_icmp_le (tgt := 18) hx hb dX2_pop_13 (by decide) (fun c2 => ?_) (fun c2 => ?_)
    · have h := it_t h c2
      refine lv_aload_n hx hb dX2_pop_18 rfl (lv_at hl 0 rfl) ?_
      refine lv_dup hx hb dX2_pop_19 rfl ?_
      refine va_get (D := (dC, dI)) (ci := 2) (v := .int v_this_size) (C := RX2) (T := TX2) (N := 6) hx hb hts in_X2 hown hK hP 0 rfl rfl 3 (by decide) w_1 (fun _ h9 => h9) rfl dX2_pop_20 ?_
      refine lv_iconst (v := 1) hx hb dX2_pop_23 (by decide) ?_
      refine lv_isub hx hb dX2_pop_24 ?_
      refine va_put (D := (dC, dI)) (ci := 2) (v := .int (v_this_size - 1)) (ty := .int) (C := RX2) (T := TX2) (N := 6) hx hb hts in_X2 tyX2 tyX2_ok nmX2 hown hK hP hD hS 0 rfl rfl 3 (by decide) w_1 (fun _ h9 => h9) rfl (by decide +kernel) rfl rfl (Nat.le_of_ble_eq_true rfl) dX2_pop_25 (fun H locs hP hD hS => ?_)
      have hP : va_P (dC, dI) vwCl [(h_this, .inr (2, [u_this_variables, u_this_temporaries, .ref h_this_pile, .int (v_this_size - 1), u_this_calls, u_this_hasRun])), (h_this_pile, .inl (k_this_pile, 20, .inr (.inl (v_this_pile))))] H := hP
      have hD : va_D A [(h_this, .inr (2, [u_this_variables, u_this_temporaries, .ref h_this_pile, .int (v_this_size - 1), u_this_calls, u_this_hasRun])), (h_this_pile, .inl (k_this_pile, 20, .inr (.inl (v_this_pile))))] := hD
      refine lv_aload_n hx hb dX2_pop_28 rfl (lv_at hl 0 rfl) ?_
      refine va_get (D := (dC, dI)) (ci := 2) (v := .ref h_this_pile) (C := RX2) (T := TX2) (N := 6) hx hb hts in_X2 hown hK hP 0 rfl rfl 2 (by decide) w_2 (fun _ h9 => h9) rfl dX2_pop_29 ?_
      refine lv_aload_n hx hb dX2_pop_32 rfl (lv_at hl 0 rfl) ?_
      refine va_get (D := (dC, dI)) (ci := 2) (v := .int (v_this_size - 1)) (C := RX2) (T := TX2) (N := 6) hx hb hts in_X2 hown hK hP 0 rfl rfl 3 (by decide) w_1 (fun _ h9 => h9) rfl dX2_pop_33 ?_
      obtain ⟨i3, h⟩ := ixd_ok h
      refine va_lald hx hb hK hP 1 0 rfl rfl i3 dX2_pop_36 ?_
      obtain rfl := Option.some.inj h
      exact W.lret (v := v_this_pile (v_this_size - 1).toNatClampNeg) hx hb hr (fun t ht hW => ⟨⟨v_this_pile (v_this_size - 1).toNatClampNeg, v_this_size - 1, rfl, ⟨rfl, rfl⟩, by rw [ht]; exact hP, va_K.moved hW.alike hK, hD⟩, hS.F ht⟩) hS.2.2 dX2_pop_37
    · have h := it_f h c2
      refine lv_lconst (v := 0) hx hb dX2_pop_16 (by decide) ?_
      obtain rfl := Option.some.inj h
      exact W.lret (v := 0) hx hb hr (fun t ht hW => ⟨⟨0, v_this_size, rfl, ⟨rfl, rfl⟩, by rw [ht]; exact hP, va_K.moved hW.alike hK, hD⟩, hS.F ht⟩) hS.2.2 dX2_pop_17
abbrev W_X2_begin (h_p1 h_this h_this_variables : Nat) (k_p1 k_this_variables : ClassId) (u_this_temporaries u_this_pile : Value) (v_p1 : Nat → Int64) (v_this_calls : Int32) (v_this_hasRun : Int32) (v_this_size : Int32) (v_this_variables : Nat → Int64) : va_W := [(h_p1, .inl (k_p1, 10, .inr (.inl (v_p1)))), (h_this, .inr (2, [.ref h_this_variables, u_this_temporaries, u_this_pile, .int v_this_size, .int v_this_calls, .int v_this_hasRun])), (h_this_variables, .inl (k_this_variables, 10, .inr (.inl (v_this_variables))))]
def f_X2_begin_B2 (n : Nat) (v_p1 : Nat → Int64) (v_this_calls : Int32) (v_this_hasRun : Int32) (v_this_size : Int32) (v_this_variables : Nat → Int64) (l2 : Int32) : Option (Int32 × Int32 × Int32 × (Nat → Int64)) := match n with
  | 0 => none
  | n + 1 => if 10 ≤ l2 then some ((0, 1, 0, v_this_variables)) else if 10 ≤ l2 then some ((0, 1, 0, v_this_variables)) else ixd l2 10 (ixd l2 10 (f_X2_begin_B2 n v_p1 v_this_calls v_this_hasRun v_this_size (vp_updL v_this_variables l2.toNatClampNeg (v_p1 l2.toNatClampNeg)) (l2 + 1)))
def f_X2_begin (v_p1 : Nat → Int64) (v_this_calls : Int32) (v_this_hasRun : Int32) (v_this_size : Int32) (v_this_variables : Nat → Int64) : Option (Int32 × Int32 × Int32 × (Nat → Int64)) := f_X2_begin_B2 FU v_p1 v_this_calls v_this_hasRun v_this_size v_this_variables 0
theorem hdn_X2_begin : yX2_begin.cls ≠ "java/lang/invoke/MethodHandle" ∧ yX2_begin.cls ≠ "java/lang/invoke/VarHandle" ∧ (parseMethodDescriptor yX2_begin.desc).map (fun d => d.parameters.length) = some 1 := by decide +kernel
theorem hd_X2_begin : yX2_begin.cls = RX2 ∧ yX2_begin.cls ≠ "java/lang/invoke/MethodHandle" ∧ yX2_begin.cls ≠ "java/lang/invoke/VarHandle" ∧ (parseMethodDescriptor yX2_begin.desc).map (fun d => d.parameters.length) = some 1 := ⟨rfl, hdn_X2_begin⟩
set_option maxHeartbeats 4000000 in
set_option maxRecDepth 100000 in
theorem c_X2_begin (l : Launch) (dC : Nat → ClassId) (dI : Nat → Nat → Nat) (h_p1 h_this h_this_variables : Nat) (k_p1 k_this_variables : ClassId) (u_this_temporaries u_this_pile : Value) (sz : Nat) (v_p1 : Nat → Int64) (v_this_calls : Int32) (v_this_hasRun : Int32) (v_this_size : Int32) (v_this_variables : Nat → Int64) (res : Int32 × Int32 × Int32 × (Nat → Int64)) (hd : f_X2_begin v_p1 v_this_calls v_this_hasRun v_this_size v_this_variables = some res) : Met l yX2_begin wsX2_begin ({ frames := 0, cells := 0, slots := 0, locals := 0 }) (va_Pc [.ref h_this, .ref h_p1] (fun U => mPre dC dI (W_X2_begin h_p1 h_this h_this_variables k_p1 k_this_variables u_this_temporaries u_this_pile v_p1 v_this_calls v_this_hasRun v_this_size v_this_variables) [(k_p1, .long), (k_this_variables, .long)] sz U)) (va_Qv (fun (u : Int32 × Int32 × Int32 × (Nat → Int64)) => u = res) (fun (u : Int32 × Int32 × Int32 × (Nat → Int64)) t => mPost dC dI (va_A (W_X2_begin h_p1 h_this h_this_variables k_p1 k_this_variables u_this_temporaries u_this_pile v_p1 v_this_calls v_this_hasRun v_this_size v_this_variables) sz) (W_X2_begin h_p1 h_this h_this_variables k_p1 k_this_variables u_this_temporaries u_this_pile v_p1 u.1 u.2.1 u.2.2.1 u.2.2.2) [(k_p1, .long), (k_this_variables, .long)] t) (va_A (W_X2_begin h_p1 h_this h_this_variables k_p1 k_this_variables u_this_temporaries u_this_pile v_p1 v_this_calls v_this_hasRun v_this_size v_this_variables) sz)) 0 0 (va_A (W_X2_begin h_p1 h_this h_this_variables k_p1 k_this_variables u_this_temporaries u_this_pile v_p1 v_this_calls v_this_hasRun v_this_size v_this_variables) sz) := by
  refine Met.ofW (cc := cX2_begin) (maxL := 3) (ret := none) (by decide) rfl ?_
  intro p e s m args below meth c s₁ B hml hv
  obtain ⟨rfl, ⟨hsz, hP, hK, hD0⟩⟩ := hv
  have hx := B.exec
  have hb := B.bytes
  have hr := B.returns
  have hts := atoms_spec (ws := wsX2_begin) B.pre
  have hown : s.vm.findClass RX2 = some m.cls := findClass_of_methodNamed B.named
  have hlocks := B.notSynchronized
  have w_1 := hts (.fieldLink RX2 21 "TermPile$Machine" "size" "I") (by decide +kernel)
  have w_2 := hts (.fieldLink RX2 25 "TermPile$Machine" "calls" "I") (by decide +kernel)
  have w_3 := hts (.fieldLink RX2 28 "TermPile$Machine" "hasRun" "Z") (by decide +kernel)
  have w_4 := hts (.fieldLink RX2 9 "TermPile$Machine" "variables" "[J") (by decide +kernel)
  have in_X2 : ∀ w ∈ wsX20, w ∈ wsX2_begin := by decide +kernel
  subst hsz
  have hD := hD0.self (sz := s.heap.size)
  generalize hAe : va_A (W_X2_begin h_p1 h_this h_this_variables k_p1 k_this_variables u_this_temporaries u_this_pile v_p1 v_this_calls v_this_hasRun v_this_size v_this_variables) s.heap.size = A at hD ⊢
  have hA : ∀ q : Nat, s.heap.size ≤ q → A q := fun q h => by rw [← hAe]; exact Or.inr h
  clear hAe hD0
  have hS : va_S A s.heap s.heap [] := va_S.rf
  have hP : va_P (dC, dI) vwCl [(h_p1, .inl (k_p1, 10, .inr (.inl (v_p1)))), (h_this, .inr (2, [.ref h_this_variables, u_this_temporaries, u_this_pile, .int v_this_size, .int v_this_calls, .int v_this_hasRun])), (h_this_variables, .inl (k_this_variables, 10, .inr (.inl (v_this_variables))))] s.heap := hP
  have hD : va_D A [(h_p1, .inl (k_p1, 10, .inr (.inl (v_p1)))), (h_this, .inr (2, [.ref h_this_variables, u_this_temporaries, u_this_pile, .int v_this_size, .int v_this_calls, .int v_this_hasRun])), (h_this_variables, .inl (k_this_variables, 10, .inr (.inl (v_this_variables))))] := hD
  have B2 : ∀ n : Nat, ∀ (v_p1 : Nat → Int64) (v_this_calls : Int32) (v_this_hasRun : Int32) (v_this_size : Int32) (v_this_variables : Nat → Int64) (l2 : Int32) (H : Heap) (locs : List Loc) (ls : Array Slot), f_X2_begin_B2 n v_p1 v_this_calls v_this_hasRun v_this_size v_this_variables l2 = some res → va_P (dC, dI) vwCl [(h_p1, .inl (k_p1, 10, .inr (.inl (v_p1)))), (h_this, .inr (2, [.ref h_this_variables, u_this_temporaries, u_this_pile, .int v_this_size, .int v_this_calls, .int v_this_hasRun])), (h_this_variables, .inl (k_this_variables, 10, .inr (.inl (v_this_variables))))] H → va_D A [(h_p1, .inl (k_p1, 10, .inr (.inl (v_p1)))), (h_this, .inr (2, [.ref h_this_variables, u_this_temporaries, u_this_pile, .int v_this_size, .int v_this_calls, .int v_this_hasRun])), (h_this_variables, .inl (k_this_variables, 10, .inr (.inl (v_this_variables))))] → va_S A s.heap H locs → lv_has ls 3 [(0, .ref h_this), (1, .ref h_p1), (2, .int l2)] → W p l e (headSpec wsX2_begin ({ frames := 0, cells := 0, slots := 0, locals := 0 })).room s m [.ref h_this, .ref h_p1].toArray below meth c H locs 0 0 (MQ below (va_Qv (fun (u : Int32 × Int32 × Int32 × (Nat → Int64)) => u = res) (fun (u : Int32 × Int32 × Int32 × (Nat → Int64)) t => mPost dC dI A (W_X2_begin h_p1 h_this h_this_variables k_p1 k_this_variables u_this_temporaries u_this_pile v_p1 u.1 u.2.1 u.2.2.1 u.2.2.2) [(k_p1, .long), (k_this_variables, .long)] t) A) [.ref h_this, .ref h_p1].toArray s 0 0 A) (F0 m 2 ls []) := by
    intro n
    clear hP hD hS hd
    induction n with
    | zero => intro v_p1 v_this_calls v_this_hasRun v_this_size v_this_variables l2 H locs ls h; exact absurd h (by rw [f_X2_begin_B2]; exact fun z => nomatch z)
    | succ n ih2 =>
      intro v_p1 v_this_calls v_this_hasRun v_this_size v_this_variables l2 H locs ls h hP hD hS hl
      rw [f_X2_begin_B2] at h
      refine lv_iload_n hx hb dX2_begin_2 rfl (lv_at hl 2 rfl) ?_
      refine lv_bipush (v := 10) hx hb dX2_begin_3 (by decide) ?_
      refine lv_icmp_ge (tgt := 29) hx hb dX2_begin_5 (by decide) (fun c1 => ?_) (fun c1 => ?_)
      · have h := it_t h c1
        refine lv_aload_n hx hb dX2_begin_29 rfl (lv_at hl 0 rfl) ?_
        refine lv_iconst (v := 0) hx hb dX2_begin_30 (by decide) ?_
        refine va_put (D := (dC, dI)) (ci := 2) (v := .int 0) (ty := .int) (C := RX2) (T := TX2) (N := 6) hx hb hts in_X2 tyX2 tyX2_ok nmX2 hown hK hP hD hS 1 rfl rfl 3 (by decide) w_1 (fun _ h9 => h9) rfl (by decide +kernel) rfl rfl (Nat.le_of_ble_eq_true rfl) dX2_begin_31 (fun H locs hP hD hS => ?_)
        have hP : va_P (dC, dI) vwCl [(h_p1, .inl (k_p1, 10, .inr (.inl (v_p1)))), (h_this, .inr (2, [.ref h_this_variables, u_this_temporaries, u_this_pile, .int 0, .int v_this_calls, .int v_this_hasRun])), (h_this_variables, .inl (k_this_variables, 10, .inr (.inl (v_this_variables))))] H := hP
        have hD : va_D A [(h_p1, .inl (k_p1, 10, .inr (.inl (v_p1)))), (h_this, .inr (2, [.ref h_this_variables, u_this_temporaries, u_this_pile, .int 0, .int v_this_calls, .int v_this_hasRun])), (h_this_variables, .inl (k_this_variables, 10, .inr (.inl (v_this_variables))))] := hD
        refine lv_aload_n hx hb dX2_begin_34 rfl (lv_at hl 0 rfl) ?_
        refine lv_iconst (v := 0) hx hb dX2_begin_35 (by decide) ?_
        refine va_put (D := (dC, dI)) (ci := 2) (v := .int 0) (ty := .int) (C := RX2) (T := TX2) (N := 6) hx hb hts in_X2 tyX2 tyX2_ok nmX2 hown hK hP hD hS 1 rfl rfl 4 (by decide) w_2 (fun _ h9 => h9) rfl (by decide +kernel) rfl rfl (Nat.le_of_ble_eq_true rfl) dX2_begin_36 (fun H locs hP hD hS => ?_)
        have hP : va_P (dC, dI) vwCl [(h_p1, .inl (k_p1, 10, .inr (.inl (v_p1)))), (h_this, .inr (2, [.ref h_this_variables, u_this_temporaries, u_this_pile, .int 0, .int 0, .int v_this_hasRun])), (h_this_variables, .inl (k_this_variables, 10, .inr (.inl (v_this_variables))))] H := hP
        have hD : va_D A [(h_p1, .inl (k_p1, 10, .inr (.inl (v_p1)))), (h_this, .inr (2, [.ref h_this_variables, u_this_temporaries, u_this_pile, .int 0, .int 0, .int v_this_hasRun])), (h_this_variables, .inl (k_this_variables, 10, .inr (.inl (v_this_variables))))] := hD
        refine lv_aload_n hx hb dX2_begin_39 rfl (lv_at hl 0 rfl) ?_
        refine lv_iconst (v := 1) hx hb dX2_begin_40 (by decide) ?_
        refine va_put (D := (dC, dI)) (ci := 2) (v := .int 1) (ty := .boolean) (C := RX2) (T := TX2) (N := 6) hx hb hts in_X2 tyX2 tyX2_ok nmX2 hown hK hP hD hS 1 rfl rfl 5 (by decide) w_3 (fun _ h9 => h9) rfl (by decide +kernel) rfl rfl (Nat.le_of_ble_eq_true rfl) dX2_begin_41 (fun H locs hP hD hS => ?_)
        have hP : va_P (dC, dI) vwCl [(h_p1, .inl (k_p1, 10, .inr (.inl (v_p1)))), (h_this, .inr (2, [.ref h_this_variables, u_this_temporaries, u_this_pile, .int 0, .int 0, .int 1])), (h_this_variables, .inl (k_this_variables, 10, .inr (.inl (v_this_variables))))] H := hP
        have hD : va_D A [(h_p1, .inl (k_p1, 10, .inr (.inl (v_p1)))), (h_this, .inr (2, [.ref h_this_variables, u_this_temporaries, u_this_pile, .int 0, .int 0, .int 1])), (h_this_variables, .inl (k_this_variables, 10, .inr (.inl (v_this_variables))))] := hD
        obtain rfl := Option.some.inj h
        exact W.vret hx hb hr (fun t ht hW => ⟨⟨(0, 1, 0, v_this_variables), rfl, rfl, by rw [ht]; exact hP, va_K.moved hW.alike hK, hD⟩, hS.F ht⟩) hS.2.2 dX2_begin_44
      · have h := it_f h c1
        refine lv_iload_n hx hb dX2_begin_8 rfl (lv_at hl 2 rfl) ?_
        refine lv_aload_n hx hb dX2_begin_9 rfl (lv_at hl 1 rfl) ?_
        refine va_alen (v := 10) hx hb hK hP 0 0 rfl rfl rfl dX2_begin_10 ?_
        refine lv_icmp_ge (tgt := 29) hx hb dX2_begin_11 (by decide) (fun c2 => ?_) (fun c2 => ?_)
        · have h := it_t h c2
          refine lv_aload_n hx hb dX2_begin_29 rfl (lv_at hl 0 rfl) ?_
          refine lv_iconst (v := 0) hx hb dX2_begin_30 (by decide) ?_
          refine va_put (D := (dC, dI)) (ci := 2) (v := .int 0) (ty := .int) (C := RX2) (T := TX2) (N := 6) hx hb hts in_X2 tyX2 tyX2_ok nmX2 hown hK hP hD hS 1 rfl rfl 3 (by decide) w_1 (fun _ h9 => h9) rfl (by decide +kernel) rfl rfl (Nat.le_of_ble_eq_true rfl) dX2_begin_31 (fun H locs hP hD hS => ?_)
          have hP : va_P (dC, dI) vwCl [(h_p1, .inl (k_p1, 10, .inr (.inl (v_p1)))), (h_this, .inr (2, [.ref h_this_variables, u_this_temporaries, u_this_pile, .int 0, .int v_this_calls, .int v_this_hasRun])), (h_this_variables, .inl (k_this_variables, 10, .inr (.inl (v_this_variables))))] H := hP
          have hD : va_D A [(h_p1, .inl (k_p1, 10, .inr (.inl (v_p1)))), (h_this, .inr (2, [.ref h_this_variables, u_this_temporaries, u_this_pile, .int 0, .int v_this_calls, .int v_this_hasRun])), (h_this_variables, .inl (k_this_variables, 10, .inr (.inl (v_this_variables))))] := hD
          refine lv_aload_n hx hb dX2_begin_34 rfl (lv_at hl 0 rfl) ?_
          refine lv_iconst (v := 0) hx hb dX2_begin_35 (by decide) ?_
          refine va_put (D := (dC, dI)) (ci := 2) (v := .int 0) (ty := .int) (C := RX2) (T := TX2) (N := 6) hx hb hts in_X2 tyX2 tyX2_ok nmX2 hown hK hP hD hS 1 rfl rfl 4 (by decide) w_2 (fun _ h9 => h9) rfl (by decide +kernel) rfl rfl (Nat.le_of_ble_eq_true rfl) dX2_begin_36 (fun H locs hP hD hS => ?_)
          have hP : va_P (dC, dI) vwCl [(h_p1, .inl (k_p1, 10, .inr (.inl (v_p1)))), (h_this, .inr (2, [.ref h_this_variables, u_this_temporaries, u_this_pile, .int 0, .int 0, .int v_this_hasRun])), (h_this_variables, .inl (k_this_variables, 10, .inr (.inl (v_this_variables))))] H := hP
          have hD : va_D A [(h_p1, .inl (k_p1, 10, .inr (.inl (v_p1)))), (h_this, .inr (2, [.ref h_this_variables, u_this_temporaries, u_this_pile, .int 0, .int 0, .int v_this_hasRun])), (h_this_variables, .inl (k_this_variables, 10, .inr (.inl (v_this_variables))))] := hD
          refine lv_aload_n hx hb dX2_begin_39 rfl (lv_at hl 0 rfl) ?_
          refine lv_iconst (v := 1) hx hb dX2_begin_40 (by decide) ?_
          refine va_put (D := (dC, dI)) (ci := 2) (v := .int 1) (ty := .boolean) (C := RX2) (T := TX2) (N := 6) hx hb hts in_X2 tyX2 tyX2_ok nmX2 hown hK hP hD hS 1 rfl rfl 5 (by decide) w_3 (fun _ h9 => h9) rfl (by decide +kernel) rfl rfl (Nat.le_of_ble_eq_true rfl) dX2_begin_41 (fun H locs hP hD hS => ?_)
          have hP : va_P (dC, dI) vwCl [(h_p1, .inl (k_p1, 10, .inr (.inl (v_p1)))), (h_this, .inr (2, [.ref h_this_variables, u_this_temporaries, u_this_pile, .int 0, .int 0, .int 1])), (h_this_variables, .inl (k_this_variables, 10, .inr (.inl (v_this_variables))))] H := hP
          have hD : va_D A [(h_p1, .inl (k_p1, 10, .inr (.inl (v_p1)))), (h_this, .inr (2, [.ref h_this_variables, u_this_temporaries, u_this_pile, .int 0, .int 0, .int 1])), (h_this_variables, .inl (k_this_variables, 10, .inr (.inl (v_this_variables))))] := hD
          obtain rfl := Option.some.inj h
          exact W.vret hx hb hr (fun t ht hW => ⟨⟨(0, 1, 0, v_this_variables), rfl, rfl, by rw [ht]; exact hP, va_K.moved hW.alike hK, hD⟩, hS.F ht⟩) hS.2.2 dX2_begin_44
        · have h := it_f h c2
          refine lv_aload_n hx hb dX2_begin_14 rfl (lv_at hl 0 rfl) ?_
          refine va_get (D := (dC, dI)) (ci := 2) (v := .ref h_this_variables) (C := RX2) (T := TX2) (N := 6) hx hb hts in_X2 hown hK hP 1 rfl rfl 0 (by decide) w_4 (fun _ h9 => h9) rfl dX2_begin_15 ?_
          refine lv_iload_n hx hb dX2_begin_18 rfl (lv_at hl 2 rfl) ?_
          refine lv_aload_n hx hb dX2_begin_19 rfl (lv_at hl 1 rfl) ?_
          refine lv_iload_n hx hb dX2_begin_20 rfl (lv_at hl 2 rfl) ?_
          obtain ⟨i3, h⟩ := ixd_ok h
          refine va_lald hx hb hK hP 0 0 rfl rfl i3 dX2_begin_21 ?_
          obtain ⟨i4, h⟩ := ixd_ok h
          refine va_last hx hb hK hP hD hS 2 1 rfl rfl i4 dX2_begin_22 (fun H locs hP hD hS => ?_)
          have hP : va_P (dC, dI) vwCl [(h_p1, .inl (k_p1, 10, .inr (.inl (v_p1)))), (h_this, .inr (2, [.ref h_this_variables, u_this_temporaries, u_this_pile, .int v_this_size, .int v_this_calls, .int v_this_hasRun])), (h_this_variables, .inl (k_this_variables, 10, .inr (.inl (vp_updL v_this_variables l2.toNatClampNeg (v_p1 l2.toNatClampNeg)))))] H := hP
          have hD : va_D A [(h_p1, .inl (k_p1, 10, .inr (.inl (v_p1)))), (h_this, .inr (2, [.ref h_this_variables, u_this_temporaries, u_this_pile, .int v_this_size, .int v_this_calls, .int v_this_hasRun])), (h_this_variables, .inl (k_this_variables, 10, .inr (.inl (vp_updL v_this_variables l2.toNatClampNeg (v_p1 l2.toNatClampNeg)))))] := hD
          refine lv_iinc (v := l2 + 1) (lv' := [(2, .int (l2 + 1)), (0, .ref h_this), (1, .ref h_p1)]) hx hb dX2_begin_23 hl (k := 2) rfl rfl (by decide) rfl (fun ls hl => ?_)
          refine lv_goto (tgt := 2) hx hb dX2_begin_26 (by decide) ?_
          exact ih2 v_p1 v_this_calls v_this_hasRun v_this_size (vp_updL v_this_variables l2.toNatClampNeg (v_p1 l2.toNatClampNeg)) (l2 + 1) H locs ls h hP hD hS (lv_sub hl [1, 2, 0] rfl)
  have hl := lv_entry ([.ref h_this, .ref h_p1]) (n := 3) (Nat.le_of_ble_eq_true rfl)
  rw [lg_entry_eq]
  generalize (lg_sl ([.ref h_this, .ref h_p1]) ++ List.replicate (3 - (lg_sl ([.ref h_this, .ref h_p1])).length) Slot.unset).toArray = ls at hl ⊢
  have hl : lv_has ls 3 [(0, .ref h_this), (1, .ref h_p1)] := hl
  have h := hd
  unfold f_X2_begin at h
  obtain ⟨H, hHe⟩ : ∃ H, H = s.heap := ⟨_, rfl⟩
  obtain ⟨locs, hLe⟩ : ∃ L : List Loc, L = [] := ⟨_, rfl⟩
  have hS : va_S A s.heap H locs := by rw [hHe, hLe]; exact hS
  have hP : va_P (dC, dI) vwCl [(h_p1, .inl (k_p1, 10, .inr (.inl (v_p1)))), (h_this, .inr (2, [.ref h_this_variables, u_this_temporaries, u_this_pile, .int v_this_size, .int v_this_calls, .int v_this_hasRun])), (h_this_variables, .inl (k_this_variables, 10, .inr (.inl (v_this_variables))))] H := by rw [hHe]; exact hP
  rw [show W p l e (headSpec wsX2_begin ({ frames := 0, cells := 0, slots := 0, locals := 0 })).room s m [.ref h_this, .ref h_p1].toArray below meth c s.heap [] 0 0 = W p l e (headSpec wsX2_begin ({ frames := 0, cells := 0, slots := 0, locals := 0 })).room s m [.ref h_this, .ref h_p1].toArray below meth c H locs 0 0 by rw [hHe, hLe]]
  clear hHe hLe
  refine lv_iconst (v := 0) hx hb dX2_begin_0 (by decide) ?_
  refine lv_istore_n (lv' := [(2, .int 0), (0, .ref h_this), (1, .ref h_p1)]) hx hb dX2_begin_1 rfl hl (by decide) rfl (fun ls hl => ?_)
  exact B2 FU v_p1 v_this_calls v_this_hasRun v_this_size v_this_variables 0 H locs ls h hP hD hS (lv_sub hl [1, 2, 0] rfl)
abbrev W_X2_setVariable (h_this h_this_variables : Nat) (k_this_variables : ClassId) (u_this_temporaries u_this_pile u_this_size u_this_calls u_this_hasRun : Value) (v_this_variables : Nat → Int64) : va_W := [(h_this, .inr (2, [.ref h_this_variables, u_this_temporaries, u_this_pile, u_this_size, u_this_calls, u_this_hasRun])), (h_this_variables, .inl (k_this_variables, 10, .inr (.inl (v_this_variables))))]
def f_X2_setVariable (v_this_variables : Nat → Int64) (a_p1 : Int32) (a_p2 : Int64) : Option ((Nat → Int64)) := (f_X5_isVariable a_p1).bind fun q2 => if q2.1 = 0 then some (v_this_variables) else ixd a_p1 10 (some (vp_updL v_this_variables a_p1.toNatClampNeg a_p2))
theorem hdn_X2_setVariable : yX2_setVariable.cls ≠ "java/lang/invoke/MethodHandle" ∧ yX2_setVariable.cls ≠ "java/lang/invoke/VarHandle" ∧ (parseMethodDescriptor yX2_setVariable.desc).map (fun d => d.parameters.length) = some 2 := by decide +kernel
theorem hd_X2_setVariable : yX2_setVariable.cls = RX2 ∧ yX2_setVariable.cls ≠ "java/lang/invoke/MethodHandle" ∧ yX2_setVariable.cls ≠ "java/lang/invoke/VarHandle" ∧ (parseMethodDescriptor yX2_setVariable.desc).map (fun d => d.parameters.length) = some 2 := ⟨rfl, hdn_X2_setVariable⟩
set_option maxHeartbeats 4000000 in
set_option maxRecDepth 100000 in
theorem c_X2_setVariable (l : Launch) (dC : Nat → ClassId) (dI : Nat → Nat → Nat) (adK adV : Nat → Nat) (h_this h_this_variables : Nat) (k_this_variables : ClassId) (u_this_temporaries u_this_pile u_this_size u_this_calls u_this_hasRun : Value) (sz : Nat) (v_this_variables : Nat → Int64) (a_p1 : Int32) (a_p2 : Int64) (res : (Nat → Int64)) (hd : f_X2_setVariable v_this_variables a_p1 a_p2 = some res) : Met l yX2_setVariable wsX2_setVariable ({ frames := 1, cells := 0, slots := 0, locals := 20 }) (va_Pc [.ref h_this, .int a_p1, .long a_p2] (fun U => mPre dC dI (W_X2_setVariable h_this h_this_variables k_this_variables u_this_temporaries u_this_pile u_this_size u_this_calls u_this_hasRun v_this_variables) [(k_this_variables, .long)] sz U ∧ env adK adV (va_A (W_X2_setVariable h_this h_this_variables k_this_variables u_this_temporaries u_this_pile u_this_size u_this_calls u_this_hasRun v_this_variables) sz) U U.heap)) (va_Qv (fun (u : (Nat → Int64)) => u = res) (fun (u : (Nat → Int64)) t => mPost dC dI (va_A (W_X2_setVariable h_this h_this_variables k_this_variables u_this_temporaries u_this_pile u_this_size u_this_calls u_this_hasRun v_this_variables) sz) (W_X2_setVariable h_this h_this_variables k_this_variables u_this_temporaries u_this_pile u_this_size u_this_calls u_this_hasRun u) [(k_this_variables, .long)] t) (va_A (W_X2_setVariable h_this h_this_variables k_this_variables u_this_temporaries u_this_pile u_this_size u_this_calls u_this_hasRun v_this_variables) sz)) 0 0 (va_A (W_X2_setVariable h_this h_this_variables k_this_variables u_this_temporaries u_this_pile u_this_size u_this_calls u_this_hasRun v_this_variables) sz) := by
  refine Met.ofW (cc := cX2_setVariable) (maxL := 4) (ret := none) (by decide) rfl ?_
  intro p e s m args below meth c s₁ B hml hv
  obtain ⟨rfl, ⟨hsz, hP, hK, hD0⟩, hE⟩ := hv
  have hx := B.exec
  have hb := B.bytes
  have hr := B.returns
  have hts := atoms_spec (ws := wsX2_setVariable) B.pre
  have hown : s.vm.findClass RX2 = some m.cls := findClass_of_methodNamed B.named
  have hlocks := B.notSynchronized
  have w_1 := hts (.initialized RX5) (by decide +kernel)
  have w_2 := hts (.static yX5_isVariable) (by decide +kernel)
  have w_3 := hts (.fieldLink RX2 9 "TermPile$Machine" "variables" "[J") (by decide +kernel)
  have in_X2 : ∀ w ∈ wsX20, w ∈ wsX2_setVariable := by decide +kernel
  subst hsz
  have hD := hD0.self (sz := s.heap.size)
  generalize hAe : va_A (W_X2_setVariable h_this h_this_variables k_this_variables u_this_temporaries u_this_pile u_this_size u_this_calls u_this_hasRun v_this_variables) s.heap.size = A at hD hE ⊢
  have hA : ∀ q : Nat, s.heap.size ≤ q → A q := fun q h => by rw [← hAe]; exact Or.inr h
  clear hAe hD0
  have hS : va_S A s.heap s.heap [] := va_S.rf
  have hP : va_P (dC, dI) vwCl [(h_this, .inr (2, [.ref h_this_variables, u_this_temporaries, u_this_pile, u_this_size, u_this_calls, u_this_hasRun])), (h_this_variables, .inl (k_this_variables, 10, .inr (.inl (v_this_variables))))] s.heap := hP
  have hD : va_D A [(h_this, .inr (2, [.ref h_this_variables, u_this_temporaries, u_this_pile, u_this_size, u_this_calls, u_this_hasRun])), (h_this_variables, .inl (k_this_variables, 10, .inr (.inl (v_this_variables))))] := hD
  have hl := lv_entry ([.ref h_this, .int a_p1, .long a_p2]) (n := 4) (Nat.le_of_ble_eq_true rfl)
  rw [lg_entry_eq]
  generalize (lg_sl ([.ref h_this, .int a_p1, .long a_p2]) ++ List.replicate (4 - (lg_sl ([.ref h_this, .int a_p1, .long a_p2])).length) Slot.unset).toArray = ls at hl ⊢
  have hl : lv_has ls 4 [(0, .ref h_this), (1, .int a_p1), (2, .long a_p2)] := hl
  have h := hd
  unfold f_X2_setVariable at h
  obtain ⟨H, hHe⟩ : ∃ H, H = s.heap := ⟨_, rfl⟩
  obtain ⟨locs, hLe⟩ : ∃ L : List Loc, L = [] := ⟨_, rfl⟩
  have hS : va_S A s.heap H locs := by rw [hHe, hLe]; exact hS
  have hP : va_P (dC, dI) vwCl [(h_this, .inr (2, [.ref h_this_variables, u_this_temporaries, u_this_pile, u_this_size, u_this_calls, u_this_hasRun])), (h_this_variables, .inl (k_this_variables, 10, .inr (.inl (v_this_variables))))] H := by rw [hHe]; exact hP
  rw [show W p l e (headSpec wsX2_setVariable ({ frames := 1, cells := 0, slots := 0, locals := 20 })).room s m [.ref h_this, .int a_p1, .long a_p2].toArray below meth c s.heap [] 0 0 = W p l e (headSpec wsX2_setVariable ({ frames := 1, cells := 0, slots := 0, locals := 20 })).room s m [.ref h_this, .int a_p1, .long a_p2].toArray below meth c H locs 0 0 by rw [hHe, hLe]]
  clear hHe hLe
  refine lv_iload_n hx hb dX2_setVariable_0 rfl (lv_at hl 1 rfl) ?_
  obtain ⟨⟨r1, ⟨⟩⟩, gr1, h⟩ := Option.bind_eq_some_iff.mp h
  try dsimp only at h
  have hPc := hP.sub (ws' := []) [] rfl
  have hDc := hD.sub (ws' := []) [] (by decide) rfl
  have hKc := hK.sub (tys' := []) [] rfl
  have hFc := va_free (wc := []) hD hS hA [] rfl
  refine va_calli (va_runSN (As := [.int a_p1]) (rest := []) ⟨hx, hb, hml, hown, hts⟩ (c_X5_isVariable l dC dI H.size a_p1 (r1, ()) gr1) ⟨va_cnB 1 hts gX2_setVariable_X5_isVariable_n50 rfl rfl rfl (hE.1 _ (nz_X2_50 : _ ∈ nzL)) w_1 hdn_X5_isVariable ⟨Nat.le_of_ble_eq_true rfl, Nat.le_of_ble_eq_true rfl⟩, w_2, trivial⟩ (preS hKc hPc hDc) rfl rfl hl.1 rfl (lv_room (Nat.le_of_ble_eq_true rfl)) dX2_setVariable_1 ⟨Nat.zero_le _, Nat.zero_le _⟩) hS (fun q _ h => hFc q h) hFc (fun ar1 ur1 tr1 H1 locs htr1 hvmr1 hw hB hz1 hk1 hS => ?_)
  obtain ⟨rfl, rfl⟩ := And.intro hw.1.symm hw.2.symm
  obtain ⟨hP1, hK1, hD1⟩ := hB
  rw [htr1] at hP1
  have hP : va_P (dC, dI) vwCl [(h_this, .inr (2, [.ref h_this_variables, u_this_temporaries, u_this_pile, u_this_size, u_this_calls, u_this_hasRun])), (h_this_variables, .inl (k_this_variables, 10, .inr (.inl (v_this_variables))))] H1 := keep0 hP hk1
  generalize H1 = H at hP hS ⊢
  clear hk1 hz1
  refine lv_if_eq (tgt := 14) hx hb dX2_setVariable_4 (by decide) (fun c3 => ?_) (fun c3 => ?_)
  · have h := it_t h c3
    obtain rfl := Option.some.inj h
    exact W.vret hx hb hr (fun t ht hW => ⟨⟨v_this_variables, rfl, rfl, by rw [ht]; exact hP, va_K.moved hW.alike hK, hD⟩, hS.F ht⟩) hS.2.2 dX2_setVariable_14
  · have h := it_f h c3
    refine lv_aload_n hx hb dX2_setVariable_7 rfl (lv_at hl 0 rfl) ?_
    refine va_get (D := (dC, dI)) (ci := 2) (v := .ref h_this_variables) (C := RX2) (T := TX2) (N := 6) hx hb hts in_X2 hown hK hP 0 rfl rfl 0 (by decide) w_3 (fun _ h9 => h9) rfl dX2_setVariable_8 ?_
    refine lv_iload_n hx hb dX2_setVariable_11 rfl (lv_at hl 1 rfl) ?_
    refine lv_lload_n hx hb dX2_setVariable_12 rfl (lv_at hl 2 rfl) ?_
    obtain ⟨i4, h⟩ := ixd_ok h
    refine va_last hx hb hK hP hD hS 1 0 rfl rfl i4 dX2_setVariable_13 (fun H locs hP hD hS => ?_)
    have hP : va_P (dC, dI) vwCl [(h_this, .inr (2, [.ref h_this_variables, u_this_temporaries, u_this_pile, u_this_size, u_this_calls, u_this_hasRun])), (h_this_variables, .inl (k_this_variables, 10, .inr (.inl (vp_updL v_this_variables a_p1.toNatClampNeg a_p2))))] H := hP
    have hD : va_D A [(h_this, .inr (2, [.ref h_this_variables, u_this_temporaries, u_this_pile, u_this_size, u_this_calls, u_this_hasRun])), (h_this_variables, .inl (k_this_variables, 10, .inr (.inl (vp_updL v_this_variables a_p1.toNatClampNeg a_p2))))] := hD
    obtain rfl := Option.some.inj h
    exact W.vret hx hb hr (fun t ht hW => ⟨⟨vp_updL v_this_variables a_p1.toNatClampNeg a_p2, rfl, rfl, by rw [ht]; exact hP, va_K.moved hW.alike hK, hD⟩, hS.F ht⟩) hS.2.2 dX2_setVariable_14
abbrev W_X2_growVariable (h_this h_this_variables : Nat) (k_this_variables : ClassId) (u_this_temporaries u_this_pile u_this_size u_this_calls u_this_hasRun : Value) (v_this_variables : Nat → Int64) : va_W := [(h_this, .inr (2, [.ref h_this_variables, u_this_temporaries, u_this_pile, u_this_size, u_this_calls, u_this_hasRun])), (h_this_variables, .inl (k_this_variables, 10, .inr (.inl (v_this_variables))))]
def f_X2_growVariable (v_this_variables : Nat → Int64) (a_p1 : Int32) (a_p2 : Int32) : Option ((Nat → Int64)) := (f_X5_isVariable a_p1).bind fun q2 => if q2.1 = 0 then some (v_this_variables) else ixd a_p1 10 (ixd a_p1 10 (some (vp_updL v_this_variables a_p1.toNatClampNeg ((v_this_variables a_p1.toNatClampNeg) + a_p2.toInt64))))
theorem hdn_X2_growVariable : yX2_growVariable.cls ≠ "java/lang/invoke/MethodHandle" ∧ yX2_growVariable.cls ≠ "java/lang/invoke/VarHandle" ∧ (parseMethodDescriptor yX2_growVariable.desc).map (fun d => d.parameters.length) = some 2 := by decide +kernel
theorem hd_X2_growVariable : yX2_growVariable.cls = RX2 ∧ yX2_growVariable.cls ≠ "java/lang/invoke/MethodHandle" ∧ yX2_growVariable.cls ≠ "java/lang/invoke/VarHandle" ∧ (parseMethodDescriptor yX2_growVariable.desc).map (fun d => d.parameters.length) = some 2 := ⟨rfl, hdn_X2_growVariable⟩
set_option maxHeartbeats 4000000 in
set_option maxRecDepth 100000 in
theorem c_X2_growVariable (l : Launch) (dC : Nat → ClassId) (dI : Nat → Nat → Nat) (adK adV : Nat → Nat) (h_this h_this_variables : Nat) (k_this_variables : ClassId) (u_this_temporaries u_this_pile u_this_size u_this_calls u_this_hasRun : Value) (sz : Nat) (v_this_variables : Nat → Int64) (a_p1 : Int32) (a_p2 : Int32) (res : (Nat → Int64)) (hd : f_X2_growVariable v_this_variables a_p1 a_p2 = some res) : Met l yX2_growVariable wsX2_growVariable ({ frames := 1, cells := 0, slots := 0, locals := 20 }) (va_Pc [.ref h_this, .int a_p1, .int a_p2] (fun U => mPre dC dI (W_X2_growVariable h_this h_this_variables k_this_variables u_this_temporaries u_this_pile u_this_size u_this_calls u_this_hasRun v_this_variables) [(k_this_variables, .long)] sz U ∧ env adK adV (va_A (W_X2_growVariable h_this h_this_variables k_this_variables u_this_temporaries u_this_pile u_this_size u_this_calls u_this_hasRun v_this_variables) sz) U U.heap)) (va_Qv (fun (u : (Nat → Int64)) => u = res) (fun (u : (Nat → Int64)) t => mPost dC dI (va_A (W_X2_growVariable h_this h_this_variables k_this_variables u_this_temporaries u_this_pile u_this_size u_this_calls u_this_hasRun v_this_variables) sz) (W_X2_growVariable h_this h_this_variables k_this_variables u_this_temporaries u_this_pile u_this_size u_this_calls u_this_hasRun u) [(k_this_variables, .long)] t) (va_A (W_X2_growVariable h_this h_this_variables k_this_variables u_this_temporaries u_this_pile u_this_size u_this_calls u_this_hasRun v_this_variables) sz)) 0 0 (va_A (W_X2_growVariable h_this h_this_variables k_this_variables u_this_temporaries u_this_pile u_this_size u_this_calls u_this_hasRun v_this_variables) sz) := by
  refine Met.ofW (cc := cX2_growVariable) (maxL := 3) (ret := none) (by decide) rfl ?_
  intro p e s m args below meth c s₁ B hml hv
  obtain ⟨rfl, ⟨hsz, hP, hK, hD0⟩, hE⟩ := hv
  have hx := B.exec
  have hb := B.bytes
  have hr := B.returns
  have hts := atoms_spec (ws := wsX2_growVariable) B.pre
  have hown : s.vm.findClass RX2 = some m.cls := findClass_of_methodNamed B.named
  have hlocks := B.notSynchronized
  have w_1 := hts (.initialized RX5) (by decide +kernel)
  have w_2 := hts (.static yX5_isVariable) (by decide +kernel)
  have w_3 := hts (.fieldLink RX2 9 "TermPile$Machine" "variables" "[J") (by decide +kernel)
  have in_X2 : ∀ w ∈ wsX20, w ∈ wsX2_growVariable := by decide +kernel
  subst hsz
  have hD := hD0.self (sz := s.heap.size)
  generalize hAe : va_A (W_X2_growVariable h_this h_this_variables k_this_variables u_this_temporaries u_this_pile u_this_size u_this_calls u_this_hasRun v_this_variables) s.heap.size = A at hD hE ⊢
  have hA : ∀ q : Nat, s.heap.size ≤ q → A q := fun q h => by rw [← hAe]; exact Or.inr h
  clear hAe hD0
  have hS : va_S A s.heap s.heap [] := va_S.rf
  have hP : va_P (dC, dI) vwCl [(h_this, .inr (2, [.ref h_this_variables, u_this_temporaries, u_this_pile, u_this_size, u_this_calls, u_this_hasRun])), (h_this_variables, .inl (k_this_variables, 10, .inr (.inl (v_this_variables))))] s.heap := hP
  have hD : va_D A [(h_this, .inr (2, [.ref h_this_variables, u_this_temporaries, u_this_pile, u_this_size, u_this_calls, u_this_hasRun])), (h_this_variables, .inl (k_this_variables, 10, .inr (.inl (v_this_variables))))] := hD
  have hl := lv_entry ([.ref h_this, .int a_p1, .int a_p2]) (n := 3) (Nat.le_of_ble_eq_true rfl)
  rw [lg_entry_eq]
  generalize (lg_sl ([.ref h_this, .int a_p1, .int a_p2]) ++ List.replicate (3 - (lg_sl ([.ref h_this, .int a_p1, .int a_p2])).length) Slot.unset).toArray = ls at hl ⊢
  have hl : lv_has ls 3 [(0, .ref h_this), (1, .int a_p1), (2, .int a_p2)] := hl
  have h := hd
  unfold f_X2_growVariable at h
  obtain ⟨H, hHe⟩ : ∃ H, H = s.heap := ⟨_, rfl⟩
  obtain ⟨locs, hLe⟩ : ∃ L : List Loc, L = [] := ⟨_, rfl⟩
  have hS : va_S A s.heap H locs := by rw [hHe, hLe]; exact hS
  have hP : va_P (dC, dI) vwCl [(h_this, .inr (2, [.ref h_this_variables, u_this_temporaries, u_this_pile, u_this_size, u_this_calls, u_this_hasRun])), (h_this_variables, .inl (k_this_variables, 10, .inr (.inl (v_this_variables))))] H := by rw [hHe]; exact hP
  rw [show W p l e (headSpec wsX2_growVariable ({ frames := 1, cells := 0, slots := 0, locals := 20 })).room s m [.ref h_this, .int a_p1, .int a_p2].toArray below meth c s.heap [] 0 0 = W p l e (headSpec wsX2_growVariable ({ frames := 1, cells := 0, slots := 0, locals := 20 })).room s m [.ref h_this, .int a_p1, .int a_p2].toArray below meth c H locs 0 0 by rw [hHe, hLe]]
  clear hHe hLe
  refine lv_iload_n hx hb dX2_growVariable_0 rfl (lv_at hl 1 rfl) ?_
  obtain ⟨⟨r1, ⟨⟩⟩, gr1, h⟩ := Option.bind_eq_some_iff.mp h
  try dsimp only at h
  have hPc := hP.sub (ws' := []) [] rfl
  have hDc := hD.sub (ws' := []) [] (by decide) rfl
  have hKc := hK.sub (tys' := []) [] rfl
  have hFc := va_free (wc := []) hD hS hA [] rfl
  refine va_calli (va_runSN (As := [.int a_p1]) (rest := []) ⟨hx, hb, hml, hown, hts⟩ (c_X5_isVariable l dC dI H.size a_p1 (r1, ()) gr1) ⟨va_cnB 1 hts gX2_growVariable_X5_isVariable_n50 rfl rfl rfl (hE.1 _ (nz_X2_50 : _ ∈ nzL)) w_1 hdn_X5_isVariable ⟨Nat.le_of_ble_eq_true rfl, Nat.le_of_ble_eq_true rfl⟩, w_2, trivial⟩ (preS hKc hPc hDc) rfl rfl hl.1 rfl (lv_room (Nat.le_of_ble_eq_true rfl)) dX2_growVariable_1 ⟨Nat.zero_le _, Nat.zero_le _⟩) hS (fun q _ h => hFc q h) hFc (fun ar1 ur1 tr1 H1 locs htr1 hvmr1 hw hB hz1 hk1 hS => ?_)
  obtain ⟨rfl, rfl⟩ := And.intro hw.1.symm hw.2.symm
  obtain ⟨hP1, hK1, hD1⟩ := hB
  rw [htr1] at hP1
  have hP : va_P (dC, dI) vwCl [(h_this, .inr (2, [.ref h_this_variables, u_this_temporaries, u_this_pile, u_this_size, u_this_calls, u_this_hasRun])), (h_this_variables, .inl (k_this_variables, 10, .inr (.inl (v_this_variables))))] H1 := keep0 hP hk1
  generalize H1 = H at hP hS ⊢
  clear hk1 hz1
  refine lv_if_eq (tgt := 18) hx hb dX2_growVariable_4 (by decide) (fun c3 => ?_) (fun c3 => ?_)
  · have h := it_t h c3
    obtain rfl := Option.some.inj h
    exact W.vret hx hb hr (fun t ht hW => ⟨⟨v_this_variables, rfl, rfl, by rw [ht]; exact hP, va_K.moved hW.alike hK, hD⟩, hS.F ht⟩) hS.2.2 dX2_growVariable_18
  · have h := it_f h c3
    refine lv_aload_n hx hb dX2_growVariable_7 rfl (lv_at hl 0 rfl) ?_
    refine va_get (D := (dC, dI)) (ci := 2) (v := .ref h_this_variables) (C := RX2) (T := TX2) (N := 6) hx hb hts in_X2 hown hK hP 0 rfl rfl 0 (by decide) w_3 (fun _ h9 => h9) rfl dX2_growVariable_8 ?_
    refine lv_iload_n hx hb dX2_growVariable_11 rfl (lv_at hl 1 rfl) ?_
    refine lv_dup2_11 hx hb dX2_growVariable_12 rfl rfl ?_
    obtain ⟨i4, h⟩ := ixd_ok h
    refine va_lald hx hb hK hP 1 0 rfl rfl i4 dX2_growVariable_13 ?_
    refine lv_iload_n hx hb dX2_growVariable_14 rfl (lv_at hl 2 rfl) ?_
    refine lv_i2l hx hb dX2_growVariable_15 rfl ?_
    refine lv_ladd hx hb dX2_growVariable_16 ?_
    obtain ⟨i5, h⟩ := ixd_ok h
    refine va_last hx hb hK hP hD hS 1 0 rfl rfl i5 dX2_growVariable_17 (fun H locs hP hD hS => ?_)
    have hP : va_P (dC, dI) vwCl [(h_this, .inr (2, [.ref h_this_variables, u_this_temporaries, u_this_pile, u_this_size, u_this_calls, u_this_hasRun])), (h_this_variables, .inl (k_this_variables, 10, .inr (.inl (vp_updL v_this_variables a_p1.toNatClampNeg ((v_this_variables a_p1.toNatClampNeg) + a_p2.toInt64)))))] H := hP
    have hD : va_D A [(h_this, .inr (2, [.ref h_this_variables, u_this_temporaries, u_this_pile, u_this_size, u_this_calls, u_this_hasRun])), (h_this_variables, .inl (k_this_variables, 10, .inr (.inl (vp_updL v_this_variables a_p1.toNatClampNeg ((v_this_variables a_p1.toNatClampNeg) + a_p2.toInt64)))))] := hD
    obtain rfl := Option.some.inj h
    exact W.vret hx hb hr (fun t ht hW => ⟨⟨vp_updL v_this_variables a_p1.toNatClampNeg ((v_this_variables a_p1.toNatClampNeg) + a_p2.toInt64), rfl, rfl, by rw [ht]; exact hP, va_K.moved hW.alike hK, hD⟩, hS.F ht⟩) hS.2.2 dX2_growVariable_18
abbrev W_X2_setTemporary (h_this h_this_temporaries : Nat) (k_this_temporaries : ClassId) (u_this_variables u_this_pile u_this_size u_this_calls u_this_hasRun : Value) (v_this_temporaries : Nat → Int64) : va_W := [(h_this, .inr (2, [u_this_variables, .ref h_this_temporaries, u_this_pile, u_this_size, u_this_calls, u_this_hasRun])), (h_this_temporaries, .inl (k_this_temporaries, 100, .inr (.inl (v_this_temporaries))))]
def f_X2_setTemporary (v_this_temporaries : Nat → Int64) (a_p1 : Int32) (a_p2 : Int64) : Option ((Nat → Int64)) := (f_X2_isTemporary a_p1).bind fun q2 => if q2.1 = 0 then some (v_this_temporaries) else ixd a_p1 100 (some (vp_updL v_this_temporaries a_p1.toNatClampNeg a_p2))
theorem hdn_X2_setTemporary : yX2_setTemporary.cls ≠ "java/lang/invoke/MethodHandle" ∧ yX2_setTemporary.cls ≠ "java/lang/invoke/VarHandle" ∧ (parseMethodDescriptor yX2_setTemporary.desc).map (fun d => d.parameters.length) = some 2 := by decide +kernel
theorem hd_X2_setTemporary : yX2_setTemporary.cls = RX2 ∧ yX2_setTemporary.cls ≠ "java/lang/invoke/MethodHandle" ∧ yX2_setTemporary.cls ≠ "java/lang/invoke/VarHandle" ∧ (parseMethodDescriptor yX2_setTemporary.desc).map (fun d => d.parameters.length) = some 2 := ⟨rfl, hdn_X2_setTemporary⟩
set_option maxHeartbeats 4000000 in
set_option maxRecDepth 100000 in
theorem c_X2_setTemporary (l : Launch) (dC : Nat → ClassId) (dI : Nat → Nat → Nat) (h_this h_this_temporaries : Nat) (k_this_temporaries : ClassId) (u_this_variables u_this_pile u_this_size u_this_calls u_this_hasRun : Value) (sz : Nat) (v_this_temporaries : Nat → Int64) (a_p1 : Int32) (a_p2 : Int64) (res : (Nat → Int64)) (hd : f_X2_setTemporary v_this_temporaries a_p1 a_p2 = some res) : Met l yX2_setTemporary wsX2_setTemporary ({ frames := 1, cells := 0, slots := 0, locals := 20 }) (va_Pc [.ref h_this, .int a_p1, .long a_p2] (fun U => mPre dC dI (W_X2_setTemporary h_this h_this_temporaries k_this_temporaries u_this_variables u_this_pile u_this_size u_this_calls u_this_hasRun v_this_temporaries) [(k_this_temporaries, .long)] sz U)) (va_Qv (fun (u : (Nat → Int64)) => u = res) (fun (u : (Nat → Int64)) t => mPost dC dI (va_A (W_X2_setTemporary h_this h_this_temporaries k_this_temporaries u_this_variables u_this_pile u_this_size u_this_calls u_this_hasRun v_this_temporaries) sz) (W_X2_setTemporary h_this h_this_temporaries k_this_temporaries u_this_variables u_this_pile u_this_size u_this_calls u_this_hasRun u) [(k_this_temporaries, .long)] t) (va_A (W_X2_setTemporary h_this h_this_temporaries k_this_temporaries u_this_variables u_this_pile u_this_size u_this_calls u_this_hasRun v_this_temporaries) sz)) 0 0 (va_A (W_X2_setTemporary h_this h_this_temporaries k_this_temporaries u_this_variables u_this_pile u_this_size u_this_calls u_this_hasRun v_this_temporaries) sz) := by
  refine Met.ofW (cc := cX2_setTemporary) (maxL := 4) (ret := none) (by decide) rfl ?_
  intro p e s m args below meth c s₁ B hml hv
  obtain ⟨rfl, ⟨hsz, hP, hK, hD0⟩⟩ := hv
  have hx := B.exec
  have hb := B.bytes
  have hr := B.returns
  have hts := atoms_spec (ws := wsX2_setTemporary) B.pre
  have hown : s.vm.findClass RX2 = some m.cls := findClass_of_methodNamed B.named
  have hlocks := B.notSynchronized
  have w_1 := hts (.fieldLink RX2 15 "TermPile$Machine" "temporaries" "[J") (by decide +kernel)
  have in_X2 : ∀ w ∈ wsX20, w ∈ wsX2_setTemporary := by decide +kernel
  subst hsz
  have hD := hD0.self (sz := s.heap.size)
  generalize hAe : va_A (W_X2_setTemporary h_this h_this_temporaries k_this_temporaries u_this_variables u_this_pile u_this_size u_this_calls u_this_hasRun v_this_temporaries) s.heap.size = A at hD ⊢
  have hA : ∀ q : Nat, s.heap.size ≤ q → A q := fun q h => by rw [← hAe]; exact Or.inr h
  clear hAe hD0
  have hS : va_S A s.heap s.heap [] := va_S.rf
  have hP : va_P (dC, dI) vwCl [(h_this, .inr (2, [u_this_variables, .ref h_this_temporaries, u_this_pile, u_this_size, u_this_calls, u_this_hasRun])), (h_this_temporaries, .inl (k_this_temporaries, 100, .inr (.inl (v_this_temporaries))))] s.heap := hP
  have hD : va_D A [(h_this, .inr (2, [u_this_variables, .ref h_this_temporaries, u_this_pile, u_this_size, u_this_calls, u_this_hasRun])), (h_this_temporaries, .inl (k_this_temporaries, 100, .inr (.inl (v_this_temporaries))))] := hD
  have hl := lv_entry ([.ref h_this, .int a_p1, .long a_p2]) (n := 4) (Nat.le_of_ble_eq_true rfl)
  rw [lg_entry_eq]
  generalize (lg_sl ([.ref h_this, .int a_p1, .long a_p2]) ++ List.replicate (4 - (lg_sl ([.ref h_this, .int a_p1, .long a_p2])).length) Slot.unset).toArray = ls at hl ⊢
  have hl : lv_has ls 4 [(0, .ref h_this), (1, .int a_p1), (2, .long a_p2)] := hl
  have h := hd
  unfold f_X2_setTemporary at h
  obtain ⟨H, hHe⟩ : ∃ H, H = s.heap := ⟨_, rfl⟩
  obtain ⟨locs, hLe⟩ : ∃ L : List Loc, L = [] := ⟨_, rfl⟩
  have hS : va_S A s.heap H locs := by rw [hHe, hLe]; exact hS
  have hP : va_P (dC, dI) vwCl [(h_this, .inr (2, [u_this_variables, .ref h_this_temporaries, u_this_pile, u_this_size, u_this_calls, u_this_hasRun])), (h_this_temporaries, .inl (k_this_temporaries, 100, .inr (.inl (v_this_temporaries))))] H := by rw [hHe]; exact hP
  rw [show W p l e (headSpec wsX2_setTemporary ({ frames := 1, cells := 0, slots := 0, locals := 20 })).room s m [.ref h_this, .int a_p1, .long a_p2].toArray below meth c s.heap [] 0 0 = W p l e (headSpec wsX2_setTemporary ({ frames := 1, cells := 0, slots := 0, locals := 20 })).room s m [.ref h_this, .int a_p1, .long a_p2].toArray below meth c H locs 0 0 by rw [hHe, hLe]]
  clear hHe hLe
  refine lv_iload_n hx hb dX2_setTemporary_0 rfl (lv_at hl 1 rfl) ?_
  obtain ⟨⟨r1, ⟨⟩⟩, gr1, h⟩ := Option.bind_eq_some_iff.mp h
  try dsimp only at h
  have hPc := hP.sub (ws' := []) [] rfl
  have hDc := hD.sub (ws' := []) [] (by decide) rfl
  have hKc := hK.sub (tys' := []) [] rfl
  have hFc := va_free (wc := []) hD hS hA [] rfl
  refine va_calli (va_runS (As := [.int a_p1]) (rest := []) ⟨hx, hb, hml, hown, hts⟩ (c_X2_isTemporary l dC dI H.size a_p1 (r1, ()) gr1) (va_cwS 1 hts gX2_setTemporary_X2_isTemporary rfl rfl rfl hdn_X2_isTemporary ⟨Nat.le_of_ble_eq_true rfl, Nat.le_of_ble_eq_true rfl⟩) (preS hKc hPc hDc) rfl rfl hl.1 rfl (lv_room (Nat.le_of_ble_eq_true rfl)) dX2_setTemporary_1 ⟨Nat.zero_le _, Nat.zero_le _⟩) hS (fun q _ h => hFc q h) hFc (fun ar1 ur1 tr1 H1 locs htr1 hvmr1 hw hB hz1 hk1 hS => ?_)
  obtain ⟨rfl, rfl⟩ := And.intro hw.1.symm hw.2.symm
  obtain ⟨hP1, hK1, hD1⟩ := hB
  rw [htr1] at hP1
  have hP : va_P (dC, dI) vwCl [(h_this, .inr (2, [u_this_variables, .ref h_this_temporaries, u_this_pile, u_this_size, u_this_calls, u_this_hasRun])), (h_this_temporaries, .inl (k_this_temporaries, 100, .inr (.inl (v_this_temporaries))))] H1 := keep0 hP hk1
  generalize H1 = H at hP hS ⊢
  clear hk1 hz1
  refine lv_if_eq (tgt := 14) hx hb dX2_setTemporary_4 (by decide) (fun c3 => ?_) (fun c3 => ?_)
  · have h := it_t h c3
    obtain rfl := Option.some.inj h
    exact W.vret hx hb hr (fun t ht hW => ⟨⟨v_this_temporaries, rfl, rfl, by rw [ht]; exact hP, va_K.moved hW.alike hK, hD⟩, hS.F ht⟩) hS.2.2 dX2_setTemporary_14
  · have h := it_f h c3
    refine lv_aload_n hx hb dX2_setTemporary_7 rfl (lv_at hl 0 rfl) ?_
    refine va_get (D := (dC, dI)) (ci := 2) (v := .ref h_this_temporaries) (C := RX2) (T := TX2) (N := 6) hx hb hts in_X2 hown hK hP 0 rfl rfl 1 (by decide) w_1 (fun _ h9 => h9) rfl dX2_setTemporary_8 ?_
    refine lv_iload_n hx hb dX2_setTemporary_11 rfl (lv_at hl 1 rfl) ?_
    refine lv_lload_n hx hb dX2_setTemporary_12 rfl (lv_at hl 2 rfl) ?_
    obtain ⟨i4, h⟩ := ixd_ok h
    refine va_last hx hb hK hP hD hS 1 0 rfl rfl i4 dX2_setTemporary_13 (fun H locs hP hD hS => ?_)
    have hP : va_P (dC, dI) vwCl [(h_this, .inr (2, [u_this_variables, .ref h_this_temporaries, u_this_pile, u_this_size, u_this_calls, u_this_hasRun])), (h_this_temporaries, .inl (k_this_temporaries, 100, .inr (.inl (vp_updL v_this_temporaries a_p1.toNatClampNeg a_p2))))] H := hP
    have hD : va_D A [(h_this, .inr (2, [u_this_variables, .ref h_this_temporaries, u_this_pile, u_this_size, u_this_calls, u_this_hasRun])), (h_this_temporaries, .inl (k_this_temporaries, 100, .inr (.inl (vp_updL v_this_temporaries a_p1.toNatClampNeg a_p2))))] := hD
    obtain rfl := Option.some.inj h
    exact W.vret hx hb hr (fun t ht hW => ⟨⟨vp_updL v_this_temporaries a_p1.toNatClampNeg a_p2, rfl, rfl, by rw [ht]; exact hP, va_K.moved hW.alike hK, hD⟩, hS.F ht⟩) hS.2.2 dX2_setTemporary_14
abbrev W_X2_turn (h_this h_this_pile : Nat) (k_this_pile : ClassId) (u_this_variables u_this_temporaries u_this_calls u_this_hasRun : Value) (v_this_pile : Nat → Int64) (v_this_size : Int32) : va_W := [(h_this, .inr (2, [u_this_variables, u_this_temporaries, .ref h_this_pile, .int v_this_size, u_this_calls, u_this_hasRun])), (h_this_pile, .inl (k_this_pile, 20, .inr (.inl (v_this_pile))))]
def f_X2_turn (v_this_pile : Nat → Int64) (v_this_size : Int32) (a_p1 : Int32) : Option ((Nat → Int64) × Int32) := (f_X2_pop v_this_pile v_this_size).bind fun q2 => if a_p1 = 7 then (f_X2_push v_this_pile q2.2 q2.1).bind fun q14 => (f_X2_push q14.1 q14.2 q2.1).bind fun q16 => some ((q16.1, q16.2)) else (f_X2_pop v_this_pile q2.2).bind fun q5 => (f_X2_push v_this_pile q5.2 q2.1).bind fun q7 => (f_X2_push q7.1 q7.2 q5.1).bind fun q9 => if a_p1 = 9 then (f_X2_push q9.1 q9.2 q2.1).bind fun q12 => some ((q12.1, q12.2)) else some ((q9.1, q9.2))
theorem hdn_X2_turn : yX2_turn.cls ≠ "java/lang/invoke/MethodHandle" ∧ yX2_turn.cls ≠ "java/lang/invoke/VarHandle" ∧ (parseMethodDescriptor yX2_turn.desc).map (fun d => d.parameters.length) = some 1 := by decide +kernel
theorem hd_X2_turn : yX2_turn.cls = RX2 ∧ yX2_turn.cls ≠ "java/lang/invoke/MethodHandle" ∧ yX2_turn.cls ≠ "java/lang/invoke/VarHandle" ∧ (parseMethodDescriptor yX2_turn.desc).map (fun d => d.parameters.length) = some 1 := ⟨rfl, hdn_X2_turn⟩
set_option maxHeartbeats 4000000 in
set_option maxRecDepth 100000 in
theorem c_X2_turn (l : Launch) (dC : Nat → ClassId) (dI : Nat → Nat → Nat) (h_this h_this_pile : Nat) (k_this_pile : ClassId) (u_this_variables u_this_temporaries u_this_calls u_this_hasRun : Value) (sz : Nat) (v_this_pile : Nat → Int64) (v_this_size : Int32) (a_p1 : Int32) (res : (Nat → Int64) × Int32) (hd : f_X2_turn v_this_pile v_this_size a_p1 = some res) : Met l yX2_turn wsX2_turn ({ frames := 1, cells := 0, slots := 0, locals := 22 }) (va_Pc [.ref h_this, .int a_p1] (fun U => mPre dC dI (W_X2_turn h_this h_this_pile k_this_pile u_this_variables u_this_temporaries u_this_calls u_this_hasRun v_this_pile v_this_size) [(k_this_pile, .long)] sz U)) (va_Qv (fun (u : (Nat → Int64) × Int32) => u = res) (fun (u : (Nat → Int64) × Int32) t => mPost dC dI (va_A (W_X2_turn h_this h_this_pile k_this_pile u_this_variables u_this_temporaries u_this_calls u_this_hasRun v_this_pile v_this_size) sz) (W_X2_turn h_this h_this_pile k_this_pile u_this_variables u_this_temporaries u_this_calls u_this_hasRun u.1 u.2) [(k_this_pile, .long)] t) (va_A (W_X2_turn h_this h_this_pile k_this_pile u_this_variables u_this_temporaries u_this_calls u_this_hasRun v_this_pile v_this_size) sz)) 0 0 (va_A (W_X2_turn h_this h_this_pile k_this_pile u_this_variables u_this_temporaries u_this_calls u_this_hasRun v_this_pile v_this_size) sz) := by
  refine Met.ofW (cc := cX2_turn) (maxL := 6) (ret := none) (by decide) rfl ?_
  intro p e s m args below meth c s₁ B hml hv
  obtain ⟨rfl, ⟨hsz, hP, hK, hD0⟩⟩ := hv
  have hx := B.exec
  have hb := B.bytes
  have hr := B.returns
  have hts := atoms_spec (ws := wsX2_turn) B.pre
  have hown : s.vm.findClass RX2 = some m.cls := findClass_of_methodNamed B.named
  have hlocks := B.notSynchronized
  subst hsz
  have hD := hD0.self (sz := s.heap.size)
  generalize hAe : va_A (W_X2_turn h_this h_this_pile k_this_pile u_this_variables u_this_temporaries u_this_calls u_this_hasRun v_this_pile v_this_size) s.heap.size = A at hD ⊢
  have hA : ∀ q : Nat, s.heap.size ≤ q → A q := fun q h => by rw [← hAe]; exact Or.inr h
  clear hAe hD0
  have hS : va_S A s.heap s.heap [] := va_S.rf
  have hP : va_P (dC, dI) vwCl [(h_this, .inr (2, [u_this_variables, u_this_temporaries, .ref h_this_pile, .int v_this_size, u_this_calls, u_this_hasRun])), (h_this_pile, .inl (k_this_pile, 20, .inr (.inl (v_this_pile))))] s.heap := hP
  have hD : va_D A [(h_this, .inr (2, [u_this_variables, u_this_temporaries, .ref h_this_pile, .int v_this_size, u_this_calls, u_this_hasRun])), (h_this_pile, .inl (k_this_pile, 20, .inr (.inl (v_this_pile))))] := hD
  have hl := lv_entry ([.ref h_this, .int a_p1]) (n := 6) (Nat.le_of_ble_eq_true rfl)
  rw [lg_entry_eq]
  generalize (lg_sl ([.ref h_this, .int a_p1]) ++ List.replicate (6 - (lg_sl ([.ref h_this, .int a_p1])).length) Slot.unset).toArray = ls at hl ⊢
  have hl : lv_has ls 6 [(0, .ref h_this), (1, .int a_p1)] := hl
  have h := hd
  unfold f_X2_turn at h
  obtain ⟨H, hHe⟩ : ∃ H, H = s.heap := ⟨_, rfl⟩
  obtain ⟨locs, hLe⟩ : ∃ L : List Loc, L = [] := ⟨_, rfl⟩
  have hS : va_S A s.heap H locs := by rw [hHe, hLe]; exact hS
  have hP : va_P (dC, dI) vwCl [(h_this, .inr (2, [u_this_variables, u_this_temporaries, .ref h_this_pile, .int v_this_size, u_this_calls, u_this_hasRun])), (h_this_pile, .inl (k_this_pile, 20, .inr (.inl (v_this_pile))))] H := by rw [hHe]; exact hP
  rw [show W p l e (headSpec wsX2_turn ({ frames := 1, cells := 0, slots := 0, locals := 22 })).room s m [.ref h_this, .int a_p1].toArray below meth c s.heap [] 0 0 = W p l e (headSpec wsX2_turn ({ frames := 1, cells := 0, slots := 0, locals := 22 })).room s m [.ref h_this, .int a_p1].toArray below meth c H locs 0 0 by rw [hHe, hLe]]
  clear hHe hLe
  refine lv_aload_n hx hb dX2_turn_0 rfl (lv_at hl 0 rfl) ?_
  obtain ⟨⟨r1, r1_this_size⟩, gr1, h⟩ := Option.bind_eq_some_iff.mp h
  try dsimp only at h
  have hPc := hP.sub (ws' := W_X2_pop h_this h_this_pile k_this_pile u_this_variables u_this_temporaries u_this_calls u_this_hasRun v_this_pile v_this_size) [0, 1] rfl
  have hDc := hD.sub (ws' := W_X2_pop h_this h_this_pile k_this_pile u_this_variables u_this_temporaries u_this_calls u_this_hasRun v_this_pile v_this_size) [0, 1] (by decide) rfl
  have hKc := hK.sub (tys' := [(k_this_pile, .long)]) [0] rfl
  have hFc := va_free (wc := W_X2_pop h_this h_this_pile k_this_pile u_this_variables u_this_temporaries u_this_calls u_this_hasRun v_this_pile v_this_size) hD hS hA [0, 1] rfl
  refine va_calll (va_runV (As := []) (rest := []) ⟨hx, hb, hml, hown, hts⟩ (c_X2_pop l dC dI h_this h_this_pile k_this_pile u_this_variables u_this_temporaries u_this_calls u_this_hasRun H.size v_this_pile v_this_size (r1, r1_this_size) gr1) (cwV 0 hts gX2_turn_X2_pop rfl rfl rfl hd_X2_pop ⟨Nat.le_of_ble_eq_true rfl, Nat.le_of_ble_eq_true rfl⟩) (preV hKc hPc hDc (va_recv hK hP (ci := 2) (q0 := 0) rfl rfl)) rfl rfl hl.1 rfl (lv_room (Nat.le_of_ble_eq_true rfl)) dX2_turn_1 ⟨Nat.zero_le _, Nat.zero_le _⟩) hS (fun q _ h => hFc q h) hFc (fun ar1 ur1 tr1 H1 locs htr1 hvmr1 hw hB hz1 hk1 hS => ?_)
  obtain ⟨rfl, rfl⟩ := And.intro hw.1.symm hw.2.symm
  obtain ⟨hP1, hK1, hD1⟩ := hB
  rw [htr1] at hP1
  obtain ⟨hP, hD⟩ := va_join (wr := []) (w1 := W_X2_pop h_this h_this_pile k_this_pile u_this_variables u_this_temporaries u_this_calls u_this_hasRun v_this_pile r1_this_size) hP hD [0, 1] [] rfl rfl (by decide) (by decide) hk1 hFc hP1 hD1
  have hP := hP.sub (ws' := [(h_this, .inr (2, [u_this_variables, u_this_temporaries, .ref h_this_pile, .int r1_this_size, u_this_calls, u_this_hasRun])), (h_this_pile, .inl (k_this_pile, 20, .inr (.inl (v_this_pile))))]) [0, 1] rfl
  have hD := hD.sub (ws' := [(h_this, .inr (2, [u_this_variables, u_this_temporaries, .ref h_this_pile, .int r1_this_size, u_this_calls, u_this_hasRun])), (h_this_pile, .inl (k_this_pile, 20, .inr (.inl (v_this_pile))))]) [0, 1] (by decide) rfl
  generalize H1 = H at hP hS ⊢
  clear hk1 hz1
  refine lv_lstore_n (lv' := [(2, .long r1), (0, .ref h_this), (1, .int a_p1)]) hx hb dX2_turn_4 rfl hl (by decide) rfl (fun ls hl => ?_)
  refine lv_iload_n hx hb dX2_turn_5 rfl (lv_at hl 2 rfl) ?_
  refine lv_bipush (v := 7) hx hb dX2_turn_6 (by decide) ?_
  refine lv_icmp_ne (tgt := 22) hx hb dX2_turn_8 (by decide) (fun c3 => ?_) (fun c3 => ?_)
  · have h := it_f h c3
    refine lv_aload_n hx hb dX2_turn_22 rfl (lv_at hl 1 rfl) ?_
    obtain ⟨⟨r4, r4_this_size⟩, gr4, h⟩ := Option.bind_eq_some_iff.mp h
    try dsimp only at h
    have hPc := hP.sub (ws' := W_X2_pop h_this h_this_pile k_this_pile u_this_variables u_this_temporaries u_this_calls u_this_hasRun v_this_pile r1_this_size) [0, 1] rfl
    have hDc := hD.sub (ws' := W_X2_pop h_this h_this_pile k_this_pile u_this_variables u_this_temporaries u_this_calls u_this_hasRun v_this_pile r1_this_size) [0, 1] (by decide) rfl
    have hKc := hK.sub (tys' := [(k_this_pile, .long)]) [0] rfl
    have hFc := va_free (wc := W_X2_pop h_this h_this_pile k_this_pile u_this_variables u_this_temporaries u_this_calls u_this_hasRun v_this_pile r1_this_size) hD hS hA [0, 1] rfl
    refine va_calll (va_runV (As := []) (rest := []) ⟨hx, hb, hml, hown, hts⟩ (c_X2_pop l dC dI h_this h_this_pile k_this_pile u_this_variables u_this_temporaries u_this_calls u_this_hasRun H.size v_this_pile r1_this_size (r4, r4_this_size) gr4) (cwV 0 hts gX2_turn_X2_pop rfl rfl rfl hd_X2_pop ⟨Nat.le_of_ble_eq_true rfl, Nat.le_of_ble_eq_true rfl⟩) (preV hKc hPc hDc (va_recv hK hP (ci := 2) (q0 := 0) rfl rfl)) rfl rfl hl.1 rfl (lv_room (Nat.le_of_ble_eq_true rfl)) dX2_turn_23 ⟨Nat.zero_le _, Nat.zero_le _⟩) hS (fun q _ h => hFc q h) hFc (fun ar4 ur4 tr4 H1 locs htr4 hvmr4 hw hB hz1 hk1 hS => ?_)
    obtain ⟨rfl, rfl⟩ := And.intro hw.1.symm hw.2.symm
    obtain ⟨hP1, hK1, hD1⟩ := hB
    rw [htr4] at hP1
    obtain ⟨hP, hD⟩ := va_join (wr := []) (w1 := W_X2_pop h_this h_this_pile k_this_pile u_this_variables u_this_temporaries u_this_calls u_this_hasRun v_this_pile r4_this_size) hP hD [0, 1] [] rfl rfl (by decide) (by decide) hk1 hFc hP1 hD1
    have hP := hP.sub (ws' := [(h_this, .inr (2, [u_this_variables, u_this_temporaries, .ref h_this_pile, .int r4_this_size, u_this_calls, u_this_hasRun])), (h_this_pile, .inl (k_this_pile, 20, .inr (.inl (v_this_pile))))]) [0, 1] rfl
    have hD := hD.sub (ws' := [(h_this, .inr (2, [u_this_variables, u_this_temporaries, .ref h_this_pile, .int r4_this_size, u_this_calls, u_this_hasRun])), (h_this_pile, .inl (k_this_pile, 20, .inr (.inl (v_this_pile))))]) [0, 1] (by decide) rfl
    generalize H1 = H at hP hS ⊢
    clear hk1 hz1
    refine lv_lstore (lv' := [(4, .long r4), (2, .long r1), (0, .ref h_this), (1, .int a_p1)]) hx hb dX2_turn_26 hl (by decide) rfl (fun ls hl => ?_)
    refine lv_aload_n hx hb dX2_turn_28 rfl (lv_at hl 2 rfl) ?_
    refine lv_lload_n hx hb dX2_turn_29 rfl (lv_at hl 1 rfl) ?_
    obtain ⟨⟨r6_this_pile, r6_this_size⟩, gr6, h⟩ := Option.bind_eq_some_iff.mp h
    try dsimp only at h
    have hPc := hP.sub (ws' := W_X2_push h_this h_this_pile k_this_pile u_this_variables u_this_temporaries u_this_calls u_this_hasRun v_this_pile r4_this_size) [0, 1] rfl
    have hDc := hD.sub (ws' := W_X2_push h_this h_this_pile k_this_pile u_this_variables u_this_temporaries u_this_calls u_this_hasRun v_this_pile r4_this_size) [0, 1] (by decide) rfl
    have hKc := hK.sub (tys' := [(k_this_pile, .long)]) [0] rfl
    have hFc := va_free (wc := W_X2_push h_this h_this_pile k_this_pile u_this_variables u_this_temporaries u_this_calls u_this_hasRun v_this_pile r4_this_size) hD hS hA [0, 1] rfl
    refine va_callv (va_runV (As := [.long r1]) (rest := []) ⟨hx, hb, hml, hown, hts⟩ (c_X2_push l dC dI h_this h_this_pile k_this_pile u_this_variables u_this_temporaries u_this_calls u_this_hasRun H.size v_this_pile r4_this_size r1 (r6_this_pile, r6_this_size) gr6) (cwV 1 hts gX2_turn_X2_push rfl rfl rfl hd_X2_push ⟨Nat.le_of_ble_eq_true rfl, Nat.le_of_ble_eq_true rfl⟩) (preV hKc hPc hDc (va_recv hK hP (ci := 2) (q0 := 0) rfl rfl)) rfl rfl hl.1 rfl (lv_room (Nat.le_of_ble_eq_true rfl)) dX2_turn_30 ⟨Nat.zero_le _, Nat.zero_le _⟩) hS (fun q _ h => hFc q h) hFc (fun ur6 tr6 H1 locs htr6 hvmr6 hw hB hz1 hk1 hS => ?_)
    obtain rfl := hw.symm
    obtain ⟨hP1, hK1, hD1⟩ := hB
    rw [htr6] at hP1
    obtain ⟨hP, hD⟩ := va_join (wr := []) (w1 := W_X2_push h_this h_this_pile k_this_pile u_this_variables u_this_temporaries u_this_calls u_this_hasRun r6_this_pile r6_this_size) hP hD [0, 1] [] rfl rfl (by decide) (by decide) hk1 hFc hP1 hD1
    have hP := hP.sub (ws' := [(h_this, .inr (2, [u_this_variables, u_this_temporaries, .ref h_this_pile, .int r6_this_size, u_this_calls, u_this_hasRun])), (h_this_pile, .inl (k_this_pile, 20, .inr (.inl (r6_this_pile))))]) [0, 1] rfl
    have hD := hD.sub (ws' := [(h_this, .inr (2, [u_this_variables, u_this_temporaries, .ref h_this_pile, .int r6_this_size, u_this_calls, u_this_hasRun])), (h_this_pile, .inl (k_this_pile, 20, .inr (.inl (r6_this_pile))))]) [0, 1] (by decide) rfl
    generalize H1 = H at hP hS ⊢
    clear hk1 hz1
    refine lv_aload_n hx hb dX2_turn_33 rfl (lv_at hl 2 rfl) ?_
    refine lv_lload hx hb dX2_turn_34 (lv_at hl 0 rfl) ?_
    obtain ⟨⟨r8_this_pile, r8_this_size⟩, gr8, h⟩ := Option.bind_eq_some_iff.mp h
    try dsimp only at h
    have hPc := hP.sub (ws' := W_X2_push h_this h_this_pile k_this_pile u_this_variables u_this_temporaries u_this_calls u_this_hasRun r6_this_pile r6_this_size) [0, 1] rfl
    have hDc := hD.sub (ws' := W_X2_push h_this h_this_pile k_this_pile u_this_variables u_this_temporaries u_this_calls u_this_hasRun r6_this_pile r6_this_size) [0, 1] (by decide) rfl
    have hKc := hK.sub (tys' := [(k_this_pile, .long)]) [0] rfl
    have hFc := va_free (wc := W_X2_push h_this h_this_pile k_this_pile u_this_variables u_this_temporaries u_this_calls u_this_hasRun r6_this_pile r6_this_size) hD hS hA [0, 1] rfl
    refine va_callv (va_runV (As := [.long r4]) (rest := []) ⟨hx, hb, hml, hown, hts⟩ (c_X2_push l dC dI h_this h_this_pile k_this_pile u_this_variables u_this_temporaries u_this_calls u_this_hasRun H.size r6_this_pile r6_this_size r4 (r8_this_pile, r8_this_size) gr8) (cwV 1 hts gX2_turn_X2_push rfl rfl rfl hd_X2_push ⟨Nat.le_of_ble_eq_true rfl, Nat.le_of_ble_eq_true rfl⟩) (preV hKc hPc hDc (va_recv hK hP (ci := 2) (q0 := 0) rfl rfl)) rfl rfl hl.1 rfl (lv_room (Nat.le_of_ble_eq_true rfl)) dX2_turn_36 ⟨Nat.zero_le _, Nat.zero_le _⟩) hS (fun q _ h => hFc q h) hFc (fun ur8 tr8 H1 locs htr8 hvmr8 hw hB hz1 hk1 hS => ?_)
    obtain rfl := hw.symm
    obtain ⟨hP1, hK1, hD1⟩ := hB
    rw [htr8] at hP1
    obtain ⟨hP, hD⟩ := va_join (wr := []) (w1 := W_X2_push h_this h_this_pile k_this_pile u_this_variables u_this_temporaries u_this_calls u_this_hasRun r8_this_pile r8_this_size) hP hD [0, 1] [] rfl rfl (by decide) (by decide) hk1 hFc hP1 hD1
    have hP := hP.sub (ws' := [(h_this, .inr (2, [u_this_variables, u_this_temporaries, .ref h_this_pile, .int r8_this_size, u_this_calls, u_this_hasRun])), (h_this_pile, .inl (k_this_pile, 20, .inr (.inl (r8_this_pile))))]) [0, 1] rfl
    have hD := hD.sub (ws' := [(h_this, .inr (2, [u_this_variables, u_this_temporaries, .ref h_this_pile, .int r8_this_size, u_this_calls, u_this_hasRun])), (h_this_pile, .inl (k_this_pile, 20, .inr (.inl (r8_this_pile))))]) [0, 1] (by decide) rfl
    generalize H1 = H at hP hS ⊢
    clear hk1 hz1
    refine lv_iload_n hx hb dX2_turn_39 rfl (lv_at hl 3 rfl) ?_
    refine lv_bipush (v := 9) hx hb dX2_turn_40 (by decide) ?_
    refine lv_icmp_ne (tgt := 50) hx hb dX2_turn_42 (by decide) (fun c10 => ?_) (fun c10 => ?_)
    · have h := it_f h c10
      obtain rfl := Option.some.inj h
      exact W.vret hx hb hr (fun t ht hW => ⟨⟨(r8_this_pile, r8_this_size), rfl, rfl, by rw [ht]; exact hP, va_K.moved hW.alike hK, hD⟩, hS.F ht⟩) hS.2.2 dX2_turn_50
    · have h := it_t h c10
      refine lv_aload_n hx hb dX2_turn_45 rfl (lv_at hl 2 rfl) ?_
      refine lv_lload_n hx hb dX2_turn_46 rfl (lv_at hl 1 rfl) ?_
      obtain ⟨⟨r11_this_pile, r11_this_size⟩, gr11, h⟩ := Option.bind_eq_some_iff.mp h
      try dsimp only at h
      have hPc := hP.sub (ws' := W_X2_push h_this h_this_pile k_this_pile u_this_variables u_this_temporaries u_this_calls u_this_hasRun r8_this_pile r8_this_size) [0, 1] rfl
      have hDc := hD.sub (ws' := W_X2_push h_this h_this_pile k_this_pile u_this_variables u_this_temporaries u_this_calls u_this_hasRun r8_this_pile r8_this_size) [0, 1] (by decide) rfl
      have hKc := hK.sub (tys' := [(k_this_pile, .long)]) [0] rfl
      have hFc := va_free (wc := W_X2_push h_this h_this_pile k_this_pile u_this_variables u_this_temporaries u_this_calls u_this_hasRun r8_this_pile r8_this_size) hD hS hA [0, 1] rfl
      refine va_callv (va_runV (As := [.long r1]) (rest := []) ⟨hx, hb, hml, hown, hts⟩ (c_X2_push l dC dI h_this h_this_pile k_this_pile u_this_variables u_this_temporaries u_this_calls u_this_hasRun H.size r8_this_pile r8_this_size r1 (r11_this_pile, r11_this_size) gr11) (cwV 1 hts gX2_turn_X2_push rfl rfl rfl hd_X2_push ⟨Nat.le_of_ble_eq_true rfl, Nat.le_of_ble_eq_true rfl⟩) (preV hKc hPc hDc (va_recv hK hP (ci := 2) (q0 := 0) rfl rfl)) rfl rfl hl.1 rfl (lv_room (Nat.le_of_ble_eq_true rfl)) dX2_turn_47 ⟨Nat.zero_le _, Nat.zero_le _⟩) hS (fun q _ h => hFc q h) hFc (fun ur11 tr11 H1 locs htr11 hvmr11 hw hB hz1 hk1 hS => ?_)
      obtain rfl := hw.symm
      obtain ⟨hP1, hK1, hD1⟩ := hB
      rw [htr11] at hP1
      obtain ⟨hP, hD⟩ := va_join (wr := []) (w1 := W_X2_push h_this h_this_pile k_this_pile u_this_variables u_this_temporaries u_this_calls u_this_hasRun r11_this_pile r11_this_size) hP hD [0, 1] [] rfl rfl (by decide) (by decide) hk1 hFc hP1 hD1
      have hP := hP.sub (ws' := [(h_this, .inr (2, [u_this_variables, u_this_temporaries, .ref h_this_pile, .int r11_this_size, u_this_calls, u_this_hasRun])), (h_this_pile, .inl (k_this_pile, 20, .inr (.inl (r11_this_pile))))]) [0, 1] rfl
      have hD := hD.sub (ws' := [(h_this, .inr (2, [u_this_variables, u_this_temporaries, .ref h_this_pile, .int r11_this_size, u_this_calls, u_this_hasRun])), (h_this_pile, .inl (k_this_pile, 20, .inr (.inl (r11_this_pile))))]) [0, 1] (by decide) rfl
      generalize H1 = H at hP hS ⊢
      clear hk1 hz1
      obtain rfl := Option.some.inj h
      exact W.vret hx hb hr (fun t ht hW => ⟨⟨(r11_this_pile, r11_this_size), rfl, rfl, by rw [ht]; exact hP, va_K.moved hW.alike hK, hD⟩, hS.F ht⟩) hS.2.2 dX2_turn_50
  · have h := it_t h c3
    refine lv_aload_n hx hb dX2_turn_11 rfl (lv_at hl 1 rfl) ?_
    refine lv_lload_n hx hb dX2_turn_12 rfl (lv_at hl 0 rfl) ?_
    obtain ⟨⟨r13_this_pile, r13_this_size⟩, gr13, h⟩ := Option.bind_eq_some_iff.mp h
    try dsimp only at h
    have hPc := hP.sub (ws' := W_X2_push h_this h_this_pile k_this_pile u_this_variables u_this_temporaries u_this_calls u_this_hasRun v_this_pile r1_this_size) [0, 1] rfl
    have hDc := hD.sub (ws' := W_X2_push h_this h_this_pile k_this_pile u_this_variables u_this_temporaries u_this_calls u_this_hasRun v_this_pile r1_this_size) [0, 1] (by decide) rfl
    have hKc := hK.sub (tys' := [(k_this_pile, .long)]) [0] rfl
    have hFc := va_free (wc := W_X2_push h_this h_this_pile k_this_pile u_this_variables u_this_temporaries u_this_calls u_this_hasRun v_this_pile r1_this_size) hD hS hA [0, 1] rfl
    refine va_callv (va_runV (As := [.long r1]) (rest := []) ⟨hx, hb, hml, hown, hts⟩ (c_X2_push l dC dI h_this h_this_pile k_this_pile u_this_variables u_this_temporaries u_this_calls u_this_hasRun H.size v_this_pile r1_this_size r1 (r13_this_pile, r13_this_size) gr13) (cwV 1 hts gX2_turn_X2_push rfl rfl rfl hd_X2_push ⟨Nat.le_of_ble_eq_true rfl, Nat.le_of_ble_eq_true rfl⟩) (preV hKc hPc hDc (va_recv hK hP (ci := 2) (q0 := 0) rfl rfl)) rfl rfl hl.1 rfl (lv_room (Nat.le_of_ble_eq_true rfl)) dX2_turn_13 ⟨Nat.zero_le _, Nat.zero_le _⟩) hS (fun q _ h => hFc q h) hFc (fun ur13 tr13 H1 locs htr13 hvmr13 hw hB hz1 hk1 hS => ?_)
    obtain rfl := hw.symm
    obtain ⟨hP1, hK1, hD1⟩ := hB
    rw [htr13] at hP1
    obtain ⟨hP, hD⟩ := va_join (wr := []) (w1 := W_X2_push h_this h_this_pile k_this_pile u_this_variables u_this_temporaries u_this_calls u_this_hasRun r13_this_pile r13_this_size) hP hD [0, 1] [] rfl rfl (by decide) (by decide) hk1 hFc hP1 hD1
    have hP := hP.sub (ws' := [(h_this, .inr (2, [u_this_variables, u_this_temporaries, .ref h_this_pile, .int r13_this_size, u_this_calls, u_this_hasRun])), (h_this_pile, .inl (k_this_pile, 20, .inr (.inl (r13_this_pile))))]) [0, 1] rfl
    have hD := hD.sub (ws' := [(h_this, .inr (2, [u_this_variables, u_this_temporaries, .ref h_this_pile, .int r13_this_size, u_this_calls, u_this_hasRun])), (h_this_pile, .inl (k_this_pile, 20, .inr (.inl (r13_this_pile))))]) [0, 1] (by decide) rfl
    generalize H1 = H at hP hS ⊢
    clear hk1 hz1
    refine lv_aload_n hx hb dX2_turn_16 rfl (lv_at hl 1 rfl) ?_
    refine lv_lload_n hx hb dX2_turn_17 rfl (lv_at hl 0 rfl) ?_
    obtain ⟨⟨r15_this_pile, r15_this_size⟩, gr15, h⟩ := Option.bind_eq_some_iff.mp h
    try dsimp only at h
    have hPc := hP.sub (ws' := W_X2_push h_this h_this_pile k_this_pile u_this_variables u_this_temporaries u_this_calls u_this_hasRun r13_this_pile r13_this_size) [0, 1] rfl
    have hDc := hD.sub (ws' := W_X2_push h_this h_this_pile k_this_pile u_this_variables u_this_temporaries u_this_calls u_this_hasRun r13_this_pile r13_this_size) [0, 1] (by decide) rfl
    have hKc := hK.sub (tys' := [(k_this_pile, .long)]) [0] rfl
    have hFc := va_free (wc := W_X2_push h_this h_this_pile k_this_pile u_this_variables u_this_temporaries u_this_calls u_this_hasRun r13_this_pile r13_this_size) hD hS hA [0, 1] rfl
    refine va_callv (va_runV (As := [.long r1]) (rest := []) ⟨hx, hb, hml, hown, hts⟩ (c_X2_push l dC dI h_this h_this_pile k_this_pile u_this_variables u_this_temporaries u_this_calls u_this_hasRun H.size r13_this_pile r13_this_size r1 (r15_this_pile, r15_this_size) gr15) (cwV 1 hts gX2_turn_X2_push rfl rfl rfl hd_X2_push ⟨Nat.le_of_ble_eq_true rfl, Nat.le_of_ble_eq_true rfl⟩) (preV hKc hPc hDc (va_recv hK hP (ci := 2) (q0 := 0) rfl rfl)) rfl rfl hl.1 rfl (lv_room (Nat.le_of_ble_eq_true rfl)) dX2_turn_18 ⟨Nat.zero_le _, Nat.zero_le _⟩) hS (fun q _ h => hFc q h) hFc (fun ur15 tr15 H1 locs htr15 hvmr15 hw hB hz1 hk1 hS => ?_)
    obtain rfl := hw.symm
    obtain ⟨hP1, hK1, hD1⟩ := hB
    rw [htr15] at hP1
    obtain ⟨hP, hD⟩ := va_join (wr := []) (w1 := W_X2_push h_this h_this_pile k_this_pile u_this_variables u_this_temporaries u_this_calls u_this_hasRun r15_this_pile r15_this_size) hP hD [0, 1] [] rfl rfl (by decide) (by decide) hk1 hFc hP1 hD1
    have hP := hP.sub (ws' := [(h_this, .inr (2, [u_this_variables, u_this_temporaries, .ref h_this_pile, .int r15_this_size, u_this_calls, u_this_hasRun])), (h_this_pile, .inl (k_this_pile, 20, .inr (.inl (r15_this_pile))))]) [0, 1] rfl
    have hD := hD.sub (ws' := [(h_this, .inr (2, [u_this_variables, u_this_temporaries, .ref h_this_pile, .int r15_this_size, u_this_calls, u_this_hasRun])), (h_this_pile, .inl (k_this_pile, 20, .inr (.inl (r15_this_pile))))]) [0, 1] (by decide) rfl
    generalize H1 = H at hP hS ⊢
    clear hk1 hz1
    obtain rfl := Option.some.inj h
    exact W.vret hx hb hr (fun t ht hW => ⟨⟨(r15_this_pile, r15_this_size), rfl, rfl, by rw [ht]; exact hP, va_K.moved hW.alike hK, hD⟩, hS.F ht⟩) hS.2.2 dX2_turn_21
abbrev W_X2_worked : va_W := []
def f_X2_worked (a_p1 : Int32) (a_p2 : Int64) (a_p3 : Int64) : Option (Int64 × Unit) := if a_p1 = 0 then some (a_p2 + a_p3, ()) else if a_p1 = 1 then some (a_p2 - a_p3, ()) else if a_p1 = 2 then some (a_p2 * a_p3, ()) else if a_p1 = 3 then some (a_p2 &&& a_p3, ()) else if a_p1 = 4 then some (a_p2 ||| a_p3, ()) else some (a_p2 ^^^ a_p3, ())
theorem hdn_X2_worked : yX2_worked.cls ≠ "java/lang/invoke/MethodHandle" ∧ yX2_worked.cls ≠ "java/lang/invoke/VarHandle" ∧ (parseMethodDescriptor yX2_worked.desc).map (fun d => d.parameters.length) = some 3 := by decide +kernel
set_option maxHeartbeats 4000000 in
set_option maxRecDepth 100000 in
theorem c_X2_worked (l : Launch) (dC : Nat → ClassId) (dI : Nat → Nat → Nat) (sz : Nat) (a_p1 : Int32) (a_p2 : Int64) (a_p3 : Int64) (res : Int64 × Unit) (hd : f_X2_worked a_p1 a_p2 a_p3 = some res) : Met l yX2_worked wsX2_worked ({ frames := 0, cells := 0, slots := 0, locals := 0 }) (va_Pc [.int a_p1, .long a_p2, .long a_p3] (fun U => mPre dC dI ([]) [] sz U)) (va_Ql (fun (r : Int64) (u : Unit) => r = res.1 ∧ u = res.2) (fun (u : Unit) t => mPost dC dI (va_A ([]) sz) ([]) [] t) (va_A ([]) sz)) 0 0 (va_A ([]) sz) := by
  refine Met.ofW (cc := cX2_worked) (maxL := 5) (ret := (some .long)) (by decide) rfl ?_
  intro p e s m args below meth c s₁ B hml hv
  obtain ⟨rfl, ⟨hsz, hP, hK, hD0⟩⟩ := hv
  have hx := B.exec
  have hb := B.bytes
  have hr := B.returns
  have hts := atoms_spec (ws := wsX2_worked) B.pre
  have hown : s.vm.findClass RX2 = some m.cls := findClass_of_methodNamed B.named
  have hlocks := B.notSynchronized
  subst hsz
  have hD := hD0.self (sz := s.heap.size)
  generalize hAe : va_A ([]) s.heap.size = A at hD ⊢
  have hA : ∀ q : Nat, s.heap.size ≤ q → A q := fun q h => by rw [← hAe]; exact Or.inr h
  clear hAe hD0
  have hS : va_S A s.heap s.heap [] := va_S.rf
  have hl := lv_entry ([.int a_p1, .long a_p2, .long a_p3]) (n := 5) (Nat.le_of_ble_eq_true rfl)
  rw [lg_entry_eq]
  generalize (lg_sl ([.int a_p1, .long a_p2, .long a_p3]) ++ List.replicate (5 - (lg_sl ([.int a_p1, .long a_p2, .long a_p3])).length) Slot.unset).toArray = ls at hl ⊢
  have hl : lv_has ls 5 [(0, .int a_p1), (1, .long a_p2), (3, .long a_p3)] := hl
  have h := hd
  unfold f_X2_worked at h
  obtain ⟨H, hHe⟩ : ∃ H, H = s.heap := ⟨_, rfl⟩
  obtain ⟨locs, hLe⟩ : ∃ L : List Loc, L = [] := ⟨_, rfl⟩
  have hS : va_S A s.heap H locs := by rw [hHe, hLe]; exact hS
  have hP : va_P (dC, dI) vwCl [] H := by rw [hHe]; exact hP
  rw [show W p l e (headSpec wsX2_worked ({ frames := 0, cells := 0, slots := 0, locals := 0 })).room s m [.int a_p1, .long a_p2, .long a_p3].toArray below meth c s.heap [] 0 0 = W p l e (headSpec wsX2_worked ({ frames := 0, cells := 0, slots := 0, locals := 0 })).room s m [.int a_p1, .long a_p2, .long a_p3].toArray below meth c H locs 0 0 by rw [hHe, hLe]]
  clear hHe hLe
  refine lv_iload_n hx hb dX2_worked_0 rfl (lv_at hl 0 rfl) ?_
  by_cases s1 : a_p1 = 0
  · have h := it_t h s1
    refine lv_tableIn (tgt := 36) hx hb dX2_worked_1 (by rw [s1]; decide) (by rw [s1]; decide) (by rw [s1]; rfl) (by decide) ?_
    refine lv_lload_n hx hb dX2_worked_36 rfl (lv_at hl 1 rfl) ?_
    refine lv_lload_n hx hb dX2_worked_37 rfl (lv_at hl 2 rfl) ?_
    refine lv_ladd hx hb dX2_worked_38 ?_
    obtain rfl := Option.some.inj h
    exact W.lret (v := a_p2 + a_p3) hx hb hr (fun t ht hW => ⟨⟨a_p2 + a_p3, (), rfl, ⟨rfl, rfl⟩, by rw [ht]; exact hP, va_K.moved hW.alike hK, hD⟩, hS.F ht⟩) hS.2.2 dX2_worked_39
  have h := it_f h s1
  by_cases s2 : a_p1 = 1
  · have h := it_t h s2
    refine lv_tableIn (tgt := 40) hx hb dX2_worked_1 (by rw [s2]; decide) (by rw [s2]; decide) (by rw [s2]; rfl) (by decide) ?_
    refine lv_lload_n hx hb dX2_worked_40 rfl (lv_at hl 1 rfl) ?_
    refine lv_lload_n hx hb dX2_worked_41 rfl (lv_at hl 2 rfl) ?_
    refine lv_lsub hx hb dX2_worked_42 ?_
    obtain rfl := Option.some.inj h
    exact W.lret (v := a_p2 - a_p3) hx hb hr (fun t ht hW => ⟨⟨a_p2 - a_p3, (), rfl, ⟨rfl, rfl⟩, by rw [ht]; exact hP, va_K.moved hW.alike hK, hD⟩, hS.F ht⟩) hS.2.2 dX2_worked_43
  have h := it_f h s2
  by_cases s3 : a_p1 = 2
  · have h := it_t h s3
    refine lv_tableIn (tgt := 44) hx hb dX2_worked_1 (by rw [s3]; decide) (by rw [s3]; decide) (by rw [s3]; rfl) (by decide) ?_
    refine lv_lload_n hx hb dX2_worked_44 rfl (lv_at hl 1 rfl) ?_
    refine lv_lload_n hx hb dX2_worked_45 rfl (lv_at hl 2 rfl) ?_
    refine lv_lmul hx hb dX2_worked_46 ?_
    obtain rfl := Option.some.inj h
    exact W.lret (v := a_p2 * a_p3) hx hb hr (fun t ht hW => ⟨⟨a_p2 * a_p3, (), rfl, ⟨rfl, rfl⟩, by rw [ht]; exact hP, va_K.moved hW.alike hK, hD⟩, hS.F ht⟩) hS.2.2 dX2_worked_47
  have h := it_f h s3
  by_cases s4 : a_p1 = 3
  · have h := it_t h s4
    refine lv_tableIn (tgt := 48) hx hb dX2_worked_1 (by rw [s4]; decide) (by rw [s4]; decide) (by rw [s4]; rfl) (by decide) ?_
    refine lv_lload_n hx hb dX2_worked_48 rfl (lv_at hl 1 rfl) ?_
    refine lv_lload_n hx hb dX2_worked_49 rfl (lv_at hl 2 rfl) ?_
    refine lv_land hx hb dX2_worked_50 ?_
    obtain rfl := Option.some.inj h
    exact W.lret (v := a_p2 &&& a_p3) hx hb hr (fun t ht hW => ⟨⟨a_p2 &&& a_p3, (), rfl, ⟨rfl, rfl⟩, by rw [ht]; exact hP, va_K.moved hW.alike hK, hD⟩, hS.F ht⟩) hS.2.2 dX2_worked_51
  have h := it_f h s4
  by_cases s5 : a_p1 = 4
  · have h := it_t h s5
    refine lv_tableIn (tgt := 52) hx hb dX2_worked_1 (by rw [s5]; decide) (by rw [s5]; decide) (by rw [s5]; rfl) (by decide) ?_
    refine lv_lload_n hx hb dX2_worked_52 rfl (lv_at hl 1 rfl) ?_
    refine lv_lload_n hx hb dX2_worked_53 rfl (lv_at hl 2 rfl) ?_
    refine lv_lor hx hb dX2_worked_54 ?_
    obtain rfl := Option.some.inj h
    exact W.lret (v := a_p2 ||| a_p3) hx hb hr (fun t ht hW => ⟨⟨a_p2 ||| a_p3, (), rfl, ⟨rfl, rfl⟩, by rw [ht]; exact hP, va_K.moved hW.alike hK, hD⟩, hS.F ht⟩) hS.2.2 dX2_worked_55
  have h := it_f h s5
  refine lv_tableD (tgt := 56) hx hb dX2_worked_1 (by decide) (fun h1 h2 => by have es1 := lv_neT (a := 0) s1 rfl; have es2 := lv_neT (a := 1) s2 rfl; have es3 := lv_neT (a := 2) s3 rfl; have es4 := lv_neT (a := 3) s4 rfl; have es5 := lv_neT (a := 4) s5 rfl; exact absurd h1 (by omega)) ?_
  refine lv_lload_n hx hb dX2_worked_56 rfl (lv_at hl 1 rfl) ?_
  refine lv_lload_n hx hb dX2_worked_57 rfl (lv_at hl 2 rfl) ?_
  refine lv_lxor hx hb dX2_worked_58 ?_
  obtain rfl := Option.some.inj h
  exact W.lret (v := a_p2 ^^^ a_p3) hx hb hr (fun t ht hW => ⟨⟨a_p2 ^^^ a_p3, (), rfl, ⟨rfl, rfl⟩, by rw [ht]; exact hP, va_K.moved hW.alike hK, hD⟩, hS.F ht⟩) hS.2.2 dX2_worked_59
abbrev W_X2_workOp (h_this h_this_pile : Nat) (k_this_pile : ClassId) (u_this_variables u_this_temporaries u_this_calls u_this_hasRun : Value) (v_this_pile : Nat → Int64) (v_this_size : Int32) : va_W := [(h_this, .inr (2, [u_this_variables, u_this_temporaries, .ref h_this_pile, .int v_this_size, u_this_calls, u_this_hasRun])), (h_this_pile, .inl (k_this_pile, 20, .inr (.inl (v_this_pile))))]
def f_X2_workOp (v_this_pile : Nat → Int64) (v_this_size : Int32) (a_p1 : Int32) : Option (Int32 × ((Nat → Int64) × Int32)) := (f_X2_pop v_this_pile v_this_size).bind fun q2 => (f_X2_pop v_this_pile q2.2).bind fun q4 => if a_p1 = 6 then if (lg_cmp q2.1 0) = 0 then some (0, (v_this_pile, q4.2)) else if a_p1 = 6 then nzl q2.1 ((f_X2_push v_this_pile q4.2 (q4.1 / q2.1)).bind fun q13 => some (1, (q13.1, q13.2))) else nzl q2.1 ((f_X2_push v_this_pile q4.2 (q4.1 - q4.1 / q2.1 * q2.1)).bind fun q10 => some (1, (q10.1, q10.2))) else if a_p1 = 7 then if (lg_cmp q2.1 0) = 0 then some (0, (v_this_pile, q4.2)) else if a_p1 = 6 then nzl q2.1 ((f_X2_push v_this_pile q4.2 (q4.1 / q2.1)).bind fun q26 => some (1, (q26.1, q26.2))) else nzl q2.1 ((f_X2_push v_this_pile q4.2 (q4.1 - q4.1 / q2.1 * q2.1)).bind fun q23 => some (1, (q23.1, q23.2))) else (f_X2_worked a_p1 q4.1 q2.1).bind fun q16 => (f_X2_push v_this_pile q4.2 q16.1).bind fun q18 => some (1, (q18.1, q18.2))
theorem hdn_X2_workOp : yX2_workOp.cls ≠ "java/lang/invoke/MethodHandle" ∧ yX2_workOp.cls ≠ "java/lang/invoke/VarHandle" ∧ (parseMethodDescriptor yX2_workOp.desc).map (fun d => d.parameters.length) = some 1 := by decide +kernel
theorem hd_X2_workOp : yX2_workOp.cls = RX2 ∧ yX2_workOp.cls ≠ "java/lang/invoke/MethodHandle" ∧ yX2_workOp.cls ≠ "java/lang/invoke/VarHandle" ∧ (parseMethodDescriptor yX2_workOp.desc).map (fun d => d.parameters.length) = some 1 := ⟨rfl, hdn_X2_workOp⟩
set_option maxHeartbeats 4000000 in
set_option maxRecDepth 100000 in
theorem c_X2_workOp (l : Launch) (dC : Nat → ClassId) (dI : Nat → Nat → Nat) (h_this h_this_pile : Nat) (k_this_pile : ClassId) (u_this_variables u_this_temporaries u_this_calls u_this_hasRun : Value) (sz : Nat) (v_this_pile : Nat → Int64) (v_this_size : Int32) (a_p1 : Int32) (res : Int32 × ((Nat → Int64) × Int32)) (hd : f_X2_workOp v_this_pile v_this_size a_p1 = some res) : Met l yX2_workOp wsX2_workOp ({ frames := 1, cells := 0, slots := 0, locals := 24 }) (va_Pc [.ref h_this, .int a_p1] (fun U => mPre dC dI (W_X2_workOp h_this h_this_pile k_this_pile u_this_variables u_this_temporaries u_this_calls u_this_hasRun v_this_pile v_this_size) [(k_this_pile, .long)] sz U)) (va_Qi (fun (r : Int32) (u : (Nat → Int64) × Int32) => r = res.1 ∧ u = res.2) (fun (u : (Nat → Int64) × Int32) t => mPost dC dI (va_A (W_X2_workOp h_this h_this_pile k_this_pile u_this_variables u_this_temporaries u_this_calls u_this_hasRun v_this_pile v_this_size) sz) (W_X2_workOp h_this h_this_pile k_this_pile u_this_variables u_this_temporaries u_this_calls u_this_hasRun u.1 u.2) [(k_this_pile, .long)] t) (va_A (W_X2_workOp h_this h_this_pile k_this_pile u_this_variables u_this_temporaries u_this_calls u_this_hasRun v_this_pile v_this_size) sz)) 0 0 (va_A (W_X2_workOp h_this h_this_pile k_this_pile u_this_variables u_this_temporaries u_this_calls u_this_hasRun v_this_pile v_this_size) sz) := by
  refine Met.ofW (cc := cX2_workOp) (maxL := 6) (ret := (some .boolean)) (by decide) rfl ?_
  intro p e s m args below meth c s₁ B hml hv
  obtain ⟨rfl, ⟨hsz, hP, hK, hD0⟩⟩ := hv
  have hx := B.exec
  have hb := B.bytes
  have hr := B.returns
  have hts := atoms_spec (ws := wsX2_workOp) B.pre
  have hown : s.vm.findClass RX2 = some m.cls := findClass_of_methodNamed B.named
  have hlocks := B.notSynchronized
  subst hsz
  have hD := hD0.self (sz := s.heap.size)
  generalize hAe : va_A (W_X2_workOp h_this h_this_pile k_this_pile u_this_variables u_this_temporaries u_this_calls u_this_hasRun v_this_pile v_this_size) s.heap.size = A at hD ⊢
  have hA : ∀ q : Nat, s.heap.size ≤ q → A q := fun q h => by rw [← hAe]; exact Or.inr h
  clear hAe hD0
  have hS : va_S A s.heap s.heap [] := va_S.rf
  have hP : va_P (dC, dI) vwCl [(h_this, .inr (2, [u_this_variables, u_this_temporaries, .ref h_this_pile, .int v_this_size, u_this_calls, u_this_hasRun])), (h_this_pile, .inl (k_this_pile, 20, .inr (.inl (v_this_pile))))] s.heap := hP
  have hD : va_D A [(h_this, .inr (2, [u_this_variables, u_this_temporaries, .ref h_this_pile, .int v_this_size, u_this_calls, u_this_hasRun])), (h_this_pile, .inl (k_this_pile, 20, .inr (.inl (v_this_pile))))] := hD
  have hl := lv_entry ([.ref h_this, .int a_p1]) (n := 6) (Nat.le_of_ble_eq_true rfl)
  rw [lg_entry_eq]
  generalize (lg_sl ([.ref h_this, .int a_p1]) ++ List.replicate (6 - (lg_sl ([.ref h_this, .int a_p1])).length) Slot.unset).toArray = ls at hl ⊢
  have hl : lv_has ls 6 [(0, .ref h_this), (1, .int a_p1)] := hl
  have h := hd
  unfold f_X2_workOp at h
  obtain ⟨H, hHe⟩ : ∃ H, H = s.heap := ⟨_, rfl⟩
  obtain ⟨locs, hLe⟩ : ∃ L : List Loc, L = [] := ⟨_, rfl⟩
  have hS : va_S A s.heap H locs := by rw [hHe, hLe]; exact hS
  have hP : va_P (dC, dI) vwCl [(h_this, .inr (2, [u_this_variables, u_this_temporaries, .ref h_this_pile, .int v_this_size, u_this_calls, u_this_hasRun])), (h_this_pile, .inl (k_this_pile, 20, .inr (.inl (v_this_pile))))] H := by rw [hHe]; exact hP
  rw [show W p l e (headSpec wsX2_workOp ({ frames := 1, cells := 0, slots := 0, locals := 24 })).room s m [.ref h_this, .int a_p1].toArray below meth c s.heap [] 0 0 = W p l e (headSpec wsX2_workOp ({ frames := 1, cells := 0, slots := 0, locals := 24 })).room s m [.ref h_this, .int a_p1].toArray below meth c H locs 0 0 by rw [hHe, hLe]]
  clear hHe hLe
  refine lv_aload_n hx hb dX2_workOp_0 rfl (lv_at hl 0 rfl) ?_
  obtain ⟨⟨r1, r1_this_size⟩, gr1, h⟩ := Option.bind_eq_some_iff.mp h
  try dsimp only at h
  have hPc := hP.sub (ws' := W_X2_pop h_this h_this_pile k_this_pile u_this_variables u_this_temporaries u_this_calls u_this_hasRun v_this_pile v_this_size) [0, 1] rfl
  have hDc := hD.sub (ws' := W_X2_pop h_this h_this_pile k_this_pile u_this_variables u_this_temporaries u_this_calls u_this_hasRun v_this_pile v_this_size) [0, 1] (by decide) rfl
  have hKc := hK.sub (tys' := [(k_this_pile, .long)]) [0] rfl
  have hFc := va_free (wc := W_X2_pop h_this h_this_pile k_this_pile u_this_variables u_this_temporaries u_this_calls u_this_hasRun v_this_pile v_this_size) hD hS hA [0, 1] rfl
  refine va_calll (va_runV (As := []) (rest := []) ⟨hx, hb, hml, hown, hts⟩ (c_X2_pop l dC dI h_this h_this_pile k_this_pile u_this_variables u_this_temporaries u_this_calls u_this_hasRun H.size v_this_pile v_this_size (r1, r1_this_size) gr1) (cwV 0 hts gX2_workOp_X2_pop rfl rfl rfl hd_X2_pop ⟨Nat.le_of_ble_eq_true rfl, Nat.le_of_ble_eq_true rfl⟩) (preV hKc hPc hDc (va_recv hK hP (ci := 2) (q0 := 0) rfl rfl)) rfl rfl hl.1 rfl (lv_room (Nat.le_of_ble_eq_true rfl)) dX2_workOp_1 ⟨Nat.zero_le _, Nat.zero_le _⟩) hS (fun q _ h => hFc q h) hFc (fun ar1 ur1 tr1 H1 locs htr1 hvmr1 hw hB hz1 hk1 hS => ?_)
  obtain ⟨rfl, rfl⟩ := And.intro hw.1.symm hw.2.symm
  obtain ⟨hP1, hK1, hD1⟩ := hB
  rw [htr1] at hP1
  obtain ⟨hP, hD⟩ := va_join (wr := []) (w1 := W_X2_pop h_this h_this_pile k_this_pile u_this_variables u_this_temporaries u_this_calls u_this_hasRun v_this_pile r1_this_size) hP hD [0, 1] [] rfl rfl (by decide) (by decide) hk1 hFc hP1 hD1
  have hP := hP.sub (ws' := [(h_this, .inr (2, [u_this_variables, u_this_temporaries, .ref h_this_pile, .int r1_this_size, u_this_calls, u_this_hasRun])), (h_this_pile, .inl (k_this_pile, 20, .inr (.inl (v_this_pile))))]) [0, 1] rfl
  have hD := hD.sub (ws' := [(h_this, .inr (2, [u_this_variables, u_this_temporaries, .ref h_this_pile, .int r1_this_size, u_this_calls, u_this_hasRun])), (h_this_pile, .inl (k_this_pile, 20, .inr (.inl (v_this_pile))))]) [0, 1] (by decide) rfl
  generalize H1 = H at hP hS ⊢
  clear hk1 hz1
  refine lv_lstore_n (lv' := [(2, .long r1), (0, .ref h_this), (1, .int a_p1)]) hx hb dX2_workOp_4 rfl hl (by decide) rfl (fun ls hl => ?_)
  refine lv_aload_n hx hb dX2_workOp_5 rfl (lv_at hl 1 rfl) ?_
  obtain ⟨⟨r3, r3_this_size⟩, gr3, h⟩ := Option.bind_eq_some_iff.mp h
  try dsimp only at h
  have hPc := hP.sub (ws' := W_X2_pop h_this h_this_pile k_this_pile u_this_variables u_this_temporaries u_this_calls u_this_hasRun v_this_pile r1_this_size) [0, 1] rfl
  have hDc := hD.sub (ws' := W_X2_pop h_this h_this_pile k_this_pile u_this_variables u_this_temporaries u_this_calls u_this_hasRun v_this_pile r1_this_size) [0, 1] (by decide) rfl
  have hKc := hK.sub (tys' := [(k_this_pile, .long)]) [0] rfl
  have hFc := va_free (wc := W_X2_pop h_this h_this_pile k_this_pile u_this_variables u_this_temporaries u_this_calls u_this_hasRun v_this_pile r1_this_size) hD hS hA [0, 1] rfl
  refine va_calll (va_runV (As := []) (rest := []) ⟨hx, hb, hml, hown, hts⟩ (c_X2_pop l dC dI h_this h_this_pile k_this_pile u_this_variables u_this_temporaries u_this_calls u_this_hasRun H.size v_this_pile r1_this_size (r3, r3_this_size) gr3) (cwV 0 hts gX2_workOp_X2_pop rfl rfl rfl hd_X2_pop ⟨Nat.le_of_ble_eq_true rfl, Nat.le_of_ble_eq_true rfl⟩) (preV hKc hPc hDc (va_recv hK hP (ci := 2) (q0 := 0) rfl rfl)) rfl rfl hl.1 rfl (lv_room (Nat.le_of_ble_eq_true rfl)) dX2_workOp_6 ⟨Nat.zero_le _, Nat.zero_le _⟩) hS (fun q _ h => hFc q h) hFc (fun ar3 ur3 tr3 H1 locs htr3 hvmr3 hw hB hz1 hk1 hS => ?_)
  obtain ⟨rfl, rfl⟩ := And.intro hw.1.symm hw.2.symm
  obtain ⟨hP1, hK1, hD1⟩ := hB
  rw [htr3] at hP1
  obtain ⟨hP, hD⟩ := va_join (wr := []) (w1 := W_X2_pop h_this h_this_pile k_this_pile u_this_variables u_this_temporaries u_this_calls u_this_hasRun v_this_pile r3_this_size) hP hD [0, 1] [] rfl rfl (by decide) (by decide) hk1 hFc hP1 hD1
  have hP := hP.sub (ws' := [(h_this, .inr (2, [u_this_variables, u_this_temporaries, .ref h_this_pile, .int r3_this_size, u_this_calls, u_this_hasRun])), (h_this_pile, .inl (k_this_pile, 20, .inr (.inl (v_this_pile))))]) [0, 1] rfl
  have hD := hD.sub (ws' := [(h_this, .inr (2, [u_this_variables, u_this_temporaries, .ref h_this_pile, .int r3_this_size, u_this_calls, u_this_hasRun])), (h_this_pile, .inl (k_this_pile, 20, .inr (.inl (v_this_pile))))]) [0, 1] (by decide) rfl
  generalize H1 = H at hP hS ⊢
  clear hk1 hz1
  refine lv_lstore (lv' := [(4, .long r3), (2, .long r1), (0, .ref h_this), (1, .int a_p1)]) hx hb dX2_workOp_9 hl (by decide) rfl (fun ls hl => ?_)
  refine lv_iload_n hx hb dX2_workOp_11 rfl (lv_at hl 3 rfl) ?_
  refine lv_bipush (v := 6) hx hb dX2_workOp_12 (by decide) ?_
  refine lv_icmp_eq (tgt := 23) hx hb dX2_workOp_14 (by decide) (fun c5 => ?_) (fun c5 => ?_)
  · have h := it_t h c5
    refine lv_lload_n hx hb dX2_workOp_23 rfl (lv_at hl 1 rfl) ?_
    refine lv_lconst (v := 0) hx hb dX2_workOp_24 (by decide) ?_
    refine W.lcmp hx hb dX2_workOp_25 ?_
    refine lv_if_ne (tgt := 31) hx hb dX2_workOp_26 (by decide) (fun c6 => ?_) (fun c6 => ?_)
    · have h := it_f h c6
      refine lv_aload_n hx hb dX2_workOp_31 rfl (lv_at hl 2 rfl) ?_
      refine lv_iload_n hx hb dX2_workOp_32 rfl (lv_at hl 3 rfl) ?_
      refine lv_bipush (v := 6) hx hb dX2_workOp_33 (by decide) ?_
      refine lv_icmp_ne (tgt := 45) hx hb dX2_workOp_35 (by decide) (fun c7 => ?_) (fun c7 => ?_)
      · have h := it_f h c7
        refine lv_lload hx hb dX2_workOp_45 (lv_at hl 0 rfl) ?_
        refine lv_lload_n hx hb dX2_workOp_47 rfl (lv_at hl 1 rfl) ?_
        obtain ⟨z8, h⟩ := nzl_ok h
        refine lv_lrem hx hb dX2_workOp_48 z8 ?_
        obtain ⟨⟨r9_this_pile, r9_this_size⟩, gr9, h⟩ := Option.bind_eq_some_iff.mp h
        try dsimp only at h
        have hPc := hP.sub (ws' := W_X2_push h_this h_this_pile k_this_pile u_this_variables u_this_temporaries u_this_calls u_this_hasRun v_this_pile r3_this_size) [0, 1] rfl
        have hDc := hD.sub (ws' := W_X2_push h_this h_this_pile k_this_pile u_this_variables u_this_temporaries u_this_calls u_this_hasRun v_this_pile r3_this_size) [0, 1] (by decide) rfl
        have hKc := hK.sub (tys' := [(k_this_pile, .long)]) [0] rfl
        have hFc := va_free (wc := W_X2_push h_this h_this_pile k_this_pile u_this_variables u_this_temporaries u_this_calls u_this_hasRun v_this_pile r3_this_size) hD hS hA [0, 1] rfl
        refine va_callv (va_runV (As := [.long (r3 - r3 / r1 * r1)]) (rest := []) ⟨hx, hb, hml, hown, hts⟩ (c_X2_push l dC dI h_this h_this_pile k_this_pile u_this_variables u_this_temporaries u_this_calls u_this_hasRun H.size v_this_pile r3_this_size (r3 - r3 / r1 * r1) (r9_this_pile, r9_this_size) gr9) (cwV 1 hts gX2_workOp_X2_push rfl rfl rfl hd_X2_push ⟨Nat.le_of_ble_eq_true rfl, Nat.le_of_ble_eq_true rfl⟩) (preV hKc hPc hDc (va_recv hK hP (ci := 2) (q0 := 0) rfl rfl)) rfl rfl hl.1 rfl (lv_room (Nat.le_of_ble_eq_true rfl)) dX2_workOp_49 ⟨Nat.zero_le _, Nat.zero_le _⟩) hS (fun q _ h => hFc q h) hFc (fun ur9 tr9 H1 locs htr9 hvmr9 hw hB hz1 hk1 hS => ?_)
        obtain rfl := hw.symm
        obtain ⟨hP1, hK1, hD1⟩ := hB
        rw [htr9] at hP1
        obtain ⟨hP, hD⟩ := va_join (wr := []) (w1 := W_X2_push h_this h_this_pile k_this_pile u_this_variables u_this_temporaries u_this_calls u_this_hasRun r9_this_pile r9_this_size) hP hD [0, 1] [] rfl rfl (by decide) (by decide) hk1 hFc hP1 hD1
        have hP := hP.sub (ws' := [(h_this, .inr (2, [u_this_variables, u_this_temporaries, .ref h_this_pile, .int r9_this_size, u_this_calls, u_this_hasRun])), (h_this_pile, .inl (k_this_pile, 20, .inr (.inl (r9_this_pile))))]) [0, 1] rfl
        have hD := hD.sub (ws' := [(h_this, .inr (2, [u_this_variables, u_this_temporaries, .ref h_this_pile, .int r9_this_size, u_this_calls, u_this_hasRun])), (h_this_pile, .inl (k_this_pile, 20, .inr (.inl (r9_this_pile))))]) [0, 1] (by decide) rfl
        generalize H1 = H at hP hS ⊢
        clear hk1 hz1
        refine lv_iconst (v := 1) hx hb dX2_workOp_52 (by decide) ?_
        obtain rfl := Option.some.inj h
        exact W.zret (v := 1) hx hb hr (by decide) (fun t ht hW => ⟨⟨1, (r9_this_pile, r9_this_size), rfl, ⟨rfl, rfl⟩, by rw [ht]; exact hP, va_K.moved hW.alike hK, hD⟩, hS.F ht⟩) hS.2.2 dX2_workOp_53
      · have h := it_t h c7
        refine lv_lload hx hb dX2_workOp_38 (lv_at hl 0 rfl) ?_
        refine lv_lload_n hx hb dX2_workOp_40 rfl (lv_at hl 1 rfl) ?_
        obtain ⟨z11, h⟩ := nzl_ok h
        refine lv_ldiv hx hb dX2_workOp_41 z11 ?_
        refine lv_goto (tgt := 49) hx hb dX2_workOp_42 (by decide) ?_
        obtain ⟨⟨r12_this_pile, r12_this_size⟩, gr12, h⟩ := Option.bind_eq_some_iff.mp h
        try dsimp only at h
        have hPc := hP.sub (ws' := W_X2_push h_this h_this_pile k_this_pile u_this_variables u_this_temporaries u_this_calls u_this_hasRun v_this_pile r3_this_size) [0, 1] rfl
        have hDc := hD.sub (ws' := W_X2_push h_this h_this_pile k_this_pile u_this_variables u_this_temporaries u_this_calls u_this_hasRun v_this_pile r3_this_size) [0, 1] (by decide) rfl
        have hKc := hK.sub (tys' := [(k_this_pile, .long)]) [0] rfl
        have hFc := va_free (wc := W_X2_push h_this h_this_pile k_this_pile u_this_variables u_this_temporaries u_this_calls u_this_hasRun v_this_pile r3_this_size) hD hS hA [0, 1] rfl
        refine va_callv (va_runV (As := [.long (r3 / r1)]) (rest := []) ⟨hx, hb, hml, hown, hts⟩ (c_X2_push l dC dI h_this h_this_pile k_this_pile u_this_variables u_this_temporaries u_this_calls u_this_hasRun H.size v_this_pile r3_this_size (r3 / r1) (r12_this_pile, r12_this_size) gr12) (cwV 1 hts gX2_workOp_X2_push rfl rfl rfl hd_X2_push ⟨Nat.le_of_ble_eq_true rfl, Nat.le_of_ble_eq_true rfl⟩) (preV hKc hPc hDc (va_recv hK hP (ci := 2) (q0 := 0) rfl rfl)) rfl rfl hl.1 rfl (lv_room (Nat.le_of_ble_eq_true rfl)) dX2_workOp_49 ⟨Nat.zero_le _, Nat.zero_le _⟩) hS (fun q _ h => hFc q h) hFc (fun ur12 tr12 H1 locs htr12 hvmr12 hw hB hz1 hk1 hS => ?_)
        obtain rfl := hw.symm
        obtain ⟨hP1, hK1, hD1⟩ := hB
        rw [htr12] at hP1
        obtain ⟨hP, hD⟩ := va_join (wr := []) (w1 := W_X2_push h_this h_this_pile k_this_pile u_this_variables u_this_temporaries u_this_calls u_this_hasRun r12_this_pile r12_this_size) hP hD [0, 1] [] rfl rfl (by decide) (by decide) hk1 hFc hP1 hD1
        have hP := hP.sub (ws' := [(h_this, .inr (2, [u_this_variables, u_this_temporaries, .ref h_this_pile, .int r12_this_size, u_this_calls, u_this_hasRun])), (h_this_pile, .inl (k_this_pile, 20, .inr (.inl (r12_this_pile))))]) [0, 1] rfl
        have hD := hD.sub (ws' := [(h_this, .inr (2, [u_this_variables, u_this_temporaries, .ref h_this_pile, .int r12_this_size, u_this_calls, u_this_hasRun])), (h_this_pile, .inl (k_this_pile, 20, .inr (.inl (r12_this_pile))))]) [0, 1] (by decide) rfl
        generalize H1 = H at hP hS ⊢
        clear hk1 hz1
        refine lv_iconst (v := 1) hx hb dX2_workOp_52 (by decide) ?_
        obtain rfl := Option.some.inj h
        exact W.zret (v := 1) hx hb hr (by decide) (fun t ht hW => ⟨⟨1, (r12_this_pile, r12_this_size), rfl, ⟨rfl, rfl⟩, by rw [ht]; exact hP, va_K.moved hW.alike hK, hD⟩, hS.F ht⟩) hS.2.2 dX2_workOp_53
    · have h := it_t h c6
      refine lv_iconst (v := 0) hx hb dX2_workOp_29 (by decide) ?_
      obtain rfl := Option.some.inj h
      exact W.zret (v := 0) hx hb hr (by decide) (fun t ht hW => ⟨⟨0, (v_this_pile, r3_this_size), rfl, ⟨rfl, rfl⟩, by rw [ht]; exact hP, va_K.moved hW.alike hK, hD⟩, hS.F ht⟩) hS.2.2 dX2_workOp_30
  · have h := it_f h c5
    refine lv_iload_n hx hb dX2_workOp_17 rfl (lv_at hl 3 rfl) ?_
    refine lv_bipush (v := 7) hx hb dX2_workOp_18 (by decide) ?_
    refine lv_icmp_ne (tgt := 54) hx hb dX2_workOp_20 (by decide) (fun c14 => ?_) (fun c14 => ?_)
    · have h := it_f h c14
      refine lv_aload_n hx hb dX2_workOp_54 rfl (lv_at hl 2 rfl) ?_
      refine lv_iload_n hx hb dX2_workOp_55 rfl (lv_at hl 3 rfl) ?_
      refine lv_lload hx hb dX2_workOp_56 (lv_at hl 0 rfl) ?_
      refine lv_lload_n hx hb dX2_workOp_58 rfl (lv_at hl 1 rfl) ?_
      obtain ⟨⟨r15, ⟨⟩⟩, gr15, h⟩ := Option.bind_eq_some_iff.mp h
      try dsimp only at h
      have hPc := hP.sub (ws' := []) [] rfl
      have hDc := hD.sub (ws' := []) [] (by decide) rfl
      have hKc := hK.sub (tys' := []) [] rfl
      have hFc := va_free (wc := []) hD hS hA [] rfl
      refine va_calll (va_runS (As := [.int a_p1, .long r3, .long r1]) (rest := [.ref h_this]) ⟨hx, hb, hml, hown, hts⟩ (c_X2_worked l dC dI H.size a_p1 r3 r1 (r15, ()) gr15) (va_cwS 3 hts gX2_workOp_X2_worked rfl rfl rfl hdn_X2_worked ⟨Nat.le_of_ble_eq_true rfl, Nat.le_of_ble_eq_true rfl⟩) (preS hKc hPc hDc) rfl rfl hl.1 rfl (lv_room (Nat.le_of_ble_eq_true rfl)) dX2_workOp_59 ⟨Nat.zero_le _, Nat.zero_le _⟩) hS (fun q _ h => hFc q h) hFc (fun ar15 ur15 tr15 H1 locs htr15 hvmr15 hw hB hz1 hk1 hS => ?_)
      obtain ⟨rfl, rfl⟩ := And.intro hw.1.symm hw.2.symm
      obtain ⟨hP1, hK1, hD1⟩ := hB
      rw [htr15] at hP1
      have hP : va_P (dC, dI) vwCl [(h_this, .inr (2, [u_this_variables, u_this_temporaries, .ref h_this_pile, .int r3_this_size, u_this_calls, u_this_hasRun])), (h_this_pile, .inl (k_this_pile, 20, .inr (.inl (v_this_pile))))] H1 := keep0 hP hk1
      generalize H1 = H at hP hS ⊢
      clear hk1 hz1
      obtain ⟨⟨r17_this_pile, r17_this_size⟩, gr17, h⟩ := Option.bind_eq_some_iff.mp h
      try dsimp only at h
      have hPc := hP.sub (ws' := W_X2_push h_this h_this_pile k_this_pile u_this_variables u_this_temporaries u_this_calls u_this_hasRun v_this_pile r3_this_size) [0, 1] rfl
      have hDc := hD.sub (ws' := W_X2_push h_this h_this_pile k_this_pile u_this_variables u_this_temporaries u_this_calls u_this_hasRun v_this_pile r3_this_size) [0, 1] (by decide) rfl
      have hKc := hK.sub (tys' := [(k_this_pile, .long)]) [0] rfl
      have hFc := va_free (wc := W_X2_push h_this h_this_pile k_this_pile u_this_variables u_this_temporaries u_this_calls u_this_hasRun v_this_pile r3_this_size) hD hS hA [0, 1] rfl
      refine va_callv (va_runV (As := [.long r15]) (rest := []) ⟨hx, hb, hml, hown, hts⟩ (c_X2_push l dC dI h_this h_this_pile k_this_pile u_this_variables u_this_temporaries u_this_calls u_this_hasRun H.size v_this_pile r3_this_size r15 (r17_this_pile, r17_this_size) gr17) (cwV 1 hts gX2_workOp_X2_push rfl rfl rfl hd_X2_push ⟨Nat.le_of_ble_eq_true rfl, Nat.le_of_ble_eq_true rfl⟩) (preV hKc hPc hDc (va_recv hK hP (ci := 2) (q0 := 0) rfl rfl)) rfl rfl hl.1 rfl (lv_room (Nat.le_of_ble_eq_true rfl)) dX2_workOp_62 ⟨Nat.zero_le _, Nat.zero_le _⟩) hS (fun q _ h => hFc q h) hFc (fun ur17 tr17 H1 locs htr17 hvmr17 hw hB hz1 hk1 hS => ?_)
      obtain rfl := hw.symm
      obtain ⟨hP1, hK1, hD1⟩ := hB
      rw [htr17] at hP1
      obtain ⟨hP, hD⟩ := va_join (wr := []) (w1 := W_X2_push h_this h_this_pile k_this_pile u_this_variables u_this_temporaries u_this_calls u_this_hasRun r17_this_pile r17_this_size) hP hD [0, 1] [] rfl rfl (by decide) (by decide) hk1 hFc hP1 hD1
      have hP := hP.sub (ws' := [(h_this, .inr (2, [u_this_variables, u_this_temporaries, .ref h_this_pile, .int r17_this_size, u_this_calls, u_this_hasRun])), (h_this_pile, .inl (k_this_pile, 20, .inr (.inl (r17_this_pile))))]) [0, 1] rfl
      have hD := hD.sub (ws' := [(h_this, .inr (2, [u_this_variables, u_this_temporaries, .ref h_this_pile, .int r17_this_size, u_this_calls, u_this_hasRun])), (h_this_pile, .inl (k_this_pile, 20, .inr (.inl (r17_this_pile))))]) [0, 1] (by decide) rfl
      generalize H1 = H at hP hS ⊢
      clear hk1 hz1
      refine lv_iconst (v := 1) hx hb dX2_workOp_65 (by decide) ?_
      obtain rfl := Option.some.inj h
      exact W.zret (v := 1) hx hb hr (by decide) (fun t ht hW => ⟨⟨1, (r17_this_pile, r17_this_size), rfl, ⟨rfl, rfl⟩, by rw [ht]; exact hP, va_K.moved hW.alike hK, hD⟩, hS.F ht⟩) hS.2.2 dX2_workOp_66
    · have h := it_t h c14
      refine lv_lload_n hx hb dX2_workOp_23 rfl (lv_at hl 1 rfl) ?_
      refine lv_lconst (v := 0) hx hb dX2_workOp_24 (by decide) ?_
      refine W.lcmp hx hb dX2_workOp_25 ?_
      refine lv_if_ne (tgt := 31) hx hb dX2_workOp_26 (by decide) (fun c19 => ?_) (fun c19 => ?_)
      · have h := it_f h c19
        refine lv_aload_n hx hb dX2_workOp_31 rfl (lv_at hl 2 rfl) ?_
        refine lv_iload_n hx hb dX2_workOp_32 rfl (lv_at hl 3 rfl) ?_
        refine lv_bipush (v := 6) hx hb dX2_workOp_33 (by decide) ?_
        refine lv_icmp_ne (tgt := 45) hx hb dX2_workOp_35 (by decide) (fun c20 => ?_) (fun c20 => ?_)
        · have h := it_f h c20
          refine lv_lload hx hb dX2_workOp_45 (lv_at hl 0 rfl) ?_
          refine lv_lload_n hx hb dX2_workOp_47 rfl (lv_at hl 1 rfl) ?_
          obtain ⟨z21, h⟩ := nzl_ok h
          refine lv_lrem hx hb dX2_workOp_48 z21 ?_
          obtain ⟨⟨r22_this_pile, r22_this_size⟩, gr22, h⟩ := Option.bind_eq_some_iff.mp h
          try dsimp only at h
          have hPc := hP.sub (ws' := W_X2_push h_this h_this_pile k_this_pile u_this_variables u_this_temporaries u_this_calls u_this_hasRun v_this_pile r3_this_size) [0, 1] rfl
          have hDc := hD.sub (ws' := W_X2_push h_this h_this_pile k_this_pile u_this_variables u_this_temporaries u_this_calls u_this_hasRun v_this_pile r3_this_size) [0, 1] (by decide) rfl
          have hKc := hK.sub (tys' := [(k_this_pile, .long)]) [0] rfl
          have hFc := va_free (wc := W_X2_push h_this h_this_pile k_this_pile u_this_variables u_this_temporaries u_this_calls u_this_hasRun v_this_pile r3_this_size) hD hS hA [0, 1] rfl
          refine va_callv (va_runV (As := [.long (r3 - r3 / r1 * r1)]) (rest := []) ⟨hx, hb, hml, hown, hts⟩ (c_X2_push l dC dI h_this h_this_pile k_this_pile u_this_variables u_this_temporaries u_this_calls u_this_hasRun H.size v_this_pile r3_this_size (r3 - r3 / r1 * r1) (r22_this_pile, r22_this_size) gr22) (cwV 1 hts gX2_workOp_X2_push rfl rfl rfl hd_X2_push ⟨Nat.le_of_ble_eq_true rfl, Nat.le_of_ble_eq_true rfl⟩) (preV hKc hPc hDc (va_recv hK hP (ci := 2) (q0 := 0) rfl rfl)) rfl rfl hl.1 rfl (lv_room (Nat.le_of_ble_eq_true rfl)) dX2_workOp_49 ⟨Nat.zero_le _, Nat.zero_le _⟩) hS (fun q _ h => hFc q h) hFc (fun ur22 tr22 H1 locs htr22 hvmr22 hw hB hz1 hk1 hS => ?_)
          obtain rfl := hw.symm
          obtain ⟨hP1, hK1, hD1⟩ := hB
          rw [htr22] at hP1
          obtain ⟨hP, hD⟩ := va_join (wr := []) (w1 := W_X2_push h_this h_this_pile k_this_pile u_this_variables u_this_temporaries u_this_calls u_this_hasRun r22_this_pile r22_this_size) hP hD [0, 1] [] rfl rfl (by decide) (by decide) hk1 hFc hP1 hD1
          have hP := hP.sub (ws' := [(h_this, .inr (2, [u_this_variables, u_this_temporaries, .ref h_this_pile, .int r22_this_size, u_this_calls, u_this_hasRun])), (h_this_pile, .inl (k_this_pile, 20, .inr (.inl (r22_this_pile))))]) [0, 1] rfl
          have hD := hD.sub (ws' := [(h_this, .inr (2, [u_this_variables, u_this_temporaries, .ref h_this_pile, .int r22_this_size, u_this_calls, u_this_hasRun])), (h_this_pile, .inl (k_this_pile, 20, .inr (.inl (r22_this_pile))))]) [0, 1] (by decide) rfl
          generalize H1 = H at hP hS ⊢
          clear hk1 hz1
          refine lv_iconst (v := 1) hx hb dX2_workOp_52 (by decide) ?_
          obtain rfl := Option.some.inj h
          exact W.zret (v := 1) hx hb hr (by decide) (fun t ht hW => ⟨⟨1, (r22_this_pile, r22_this_size), rfl, ⟨rfl, rfl⟩, by rw [ht]; exact hP, va_K.moved hW.alike hK, hD⟩, hS.F ht⟩) hS.2.2 dX2_workOp_53
        · have h := it_t h c20
          refine lv_lload hx hb dX2_workOp_38 (lv_at hl 0 rfl) ?_
          refine lv_lload_n hx hb dX2_workOp_40 rfl (lv_at hl 1 rfl) ?_
          obtain ⟨z24, h⟩ := nzl_ok h
          refine lv_ldiv hx hb dX2_workOp_41 z24 ?_
          refine lv_goto (tgt := 49) hx hb dX2_workOp_42 (by decide) ?_
          obtain ⟨⟨r25_this_pile, r25_this_size⟩, gr25, h⟩ := Option.bind_eq_some_iff.mp h
          try dsimp only at h
          have hPc := hP.sub (ws' := W_X2_push h_this h_this_pile k_this_pile u_this_variables u_this_temporaries u_this_calls u_this_hasRun v_this_pile r3_this_size) [0, 1] rfl
          have hDc := hD.sub (ws' := W_X2_push h_this h_this_pile k_this_pile u_this_variables u_this_temporaries u_this_calls u_this_hasRun v_this_pile r3_this_size) [0, 1] (by decide) rfl
          have hKc := hK.sub (tys' := [(k_this_pile, .long)]) [0] rfl
          have hFc := va_free (wc := W_X2_push h_this h_this_pile k_this_pile u_this_variables u_this_temporaries u_this_calls u_this_hasRun v_this_pile r3_this_size) hD hS hA [0, 1] rfl
          refine va_callv (va_runV (As := [.long (r3 / r1)]) (rest := []) ⟨hx, hb, hml, hown, hts⟩ (c_X2_push l dC dI h_this h_this_pile k_this_pile u_this_variables u_this_temporaries u_this_calls u_this_hasRun H.size v_this_pile r3_this_size (r3 / r1) (r25_this_pile, r25_this_size) gr25) (cwV 1 hts gX2_workOp_X2_push rfl rfl rfl hd_X2_push ⟨Nat.le_of_ble_eq_true rfl, Nat.le_of_ble_eq_true rfl⟩) (preV hKc hPc hDc (va_recv hK hP (ci := 2) (q0 := 0) rfl rfl)) rfl rfl hl.1 rfl (lv_room (Nat.le_of_ble_eq_true rfl)) dX2_workOp_49 ⟨Nat.zero_le _, Nat.zero_le _⟩) hS (fun q _ h => hFc q h) hFc (fun ur25 tr25 H1 locs htr25 hvmr25 hw hB hz1 hk1 hS => ?_)
          obtain rfl := hw.symm
          obtain ⟨hP1, hK1, hD1⟩ := hB
          rw [htr25] at hP1
          obtain ⟨hP, hD⟩ := va_join (wr := []) (w1 := W_X2_push h_this h_this_pile k_this_pile u_this_variables u_this_temporaries u_this_calls u_this_hasRun r25_this_pile r25_this_size) hP hD [0, 1] [] rfl rfl (by decide) (by decide) hk1 hFc hP1 hD1
          have hP := hP.sub (ws' := [(h_this, .inr (2, [u_this_variables, u_this_temporaries, .ref h_this_pile, .int r25_this_size, u_this_calls, u_this_hasRun])), (h_this_pile, .inl (k_this_pile, 20, .inr (.inl (r25_this_pile))))]) [0, 1] rfl
          have hD := hD.sub (ws' := [(h_this, .inr (2, [u_this_variables, u_this_temporaries, .ref h_this_pile, .int r25_this_size, u_this_calls, u_this_hasRun])), (h_this_pile, .inl (k_this_pile, 20, .inr (.inl (r25_this_pile))))]) [0, 1] (by decide) rfl
          generalize H1 = H at hP hS ⊢
          clear hk1 hz1
          refine lv_iconst (v := 1) hx hb dX2_workOp_52 (by decide) ?_
          obtain rfl := Option.some.inj h
          exact W.zret (v := 1) hx hb hr (by decide) (fun t ht hW => ⟨⟨1, (r25_this_pile, r25_this_size), rfl, ⟨rfl, rfl⟩, by rw [ht]; exact hP, va_K.moved hW.alike hK, hD⟩, hS.F ht⟩) hS.2.2 dX2_workOp_53
      · have h := it_t h c19
        refine lv_iconst (v := 0) hx hb dX2_workOp_29 (by decide) ?_
        obtain rfl := Option.some.inj h
        exact W.zret (v := 0) hx hb hr (by decide) (fun t ht hW => ⟨⟨0, (v_this_pile, r3_this_size), rfl, ⟨rfl, rfl⟩, by rw [ht]; exact hP, va_K.moved hW.alike hK, hD⟩, hS.F ht⟩) hS.2.2 dX2_workOp_30
abbrev W_X2_callWith (h_this h_this_pile : Nat) (k_this_pile : ClassId) (u_this_variables u_this_temporaries u_this_hasRun : Value) (v_this_calls : Int32) (v_this_pile : Nat → Int64) (v_this_size : Int32) : va_W := [(h_this, .inr (2, [u_this_variables, u_this_temporaries, .ref h_this_pile, .int v_this_size, .int v_this_calls, u_this_hasRun])), (h_this_pile, .inl (k_this_pile, 20, .inr (.inl (v_this_pile))))]
def f_X2_callWith_B41 (v_this_calls : Int32) (v_this_pile : Nat → Int64) (v_this_size : Int32) (l2 : Int64) (l4 : Int64) (s0 : Int64) : Option (Int32 × (Nat → Int64) × Int32) := (f_X2_push v_this_pile v_this_size ((((31 * ((v_this_calls + 1).toInt64)) + s0) + (3 * l4)) + (9 * l2))).bind fun q11 => some ((v_this_calls + 1, q11.1, q11.2))
def f_X2_callWith_B27 (v_this_calls : Int32) (v_this_pile : Nat → Int64) (v_this_size : Int32) (l1 : Int32) (l2 : Int64) (s0 : Int64) : Option (Int32 × (Nat → Int64) × Int32) := if l1 ≤ 0 then f_X2_callWith_B41 v_this_calls v_this_pile v_this_size l2 s0 0 else (f_X2_pop v_this_pile v_this_size).bind fun q9 => f_X2_callWith_B41 v_this_calls v_this_pile q9.2 l2 s0 q9.1
def f_X2_callWith_B13 (v_this_calls : Int32) (v_this_pile : Nat → Int64) (v_this_size : Int32) (l1 : Int32) (s0 : Int64) : Option (Int32 × (Nat → Int64) × Int32) := if l1 ≤ 1 then f_X2_callWith_B27 v_this_calls v_this_pile v_this_size l1 s0 0 else (f_X2_pop v_this_pile v_this_size).bind fun q6 => f_X2_callWith_B27 v_this_calls v_this_pile q6.2 l1 s0 q6.1
def f_X2_callWith (v_this_calls : Int32) (v_this_pile : Nat → Int64) (v_this_size : Int32) (a_p1 : Int32) : Option (Int32 × (Nat → Int64) × Int32) := if a_p1 ≤ 2 then f_X2_callWith_B13 v_this_calls v_this_pile v_this_size a_p1 0 else (f_X2_pop v_this_pile v_this_size).bind fun q3 => f_X2_callWith_B13 v_this_calls v_this_pile q3.2 a_p1 q3.1
theorem hdn_X2_callWith : yX2_callWith.cls ≠ "java/lang/invoke/MethodHandle" ∧ yX2_callWith.cls ≠ "java/lang/invoke/VarHandle" ∧ (parseMethodDescriptor yX2_callWith.desc).map (fun d => d.parameters.length) = some 1 := by decide +kernel
theorem hd_X2_callWith : yX2_callWith.cls = RX2 ∧ yX2_callWith.cls ≠ "java/lang/invoke/MethodHandle" ∧ yX2_callWith.cls ≠ "java/lang/invoke/VarHandle" ∧ (parseMethodDescriptor yX2_callWith.desc).map (fun d => d.parameters.length) = some 1 := ⟨rfl, hdn_X2_callWith⟩
set_option maxHeartbeats 4000000 in
set_option maxRecDepth 100000 in
theorem c_X2_callWith (l : Launch) (dC : Nat → ClassId) (dI : Nat → Nat → Nat) (h_this h_this_pile : Nat) (k_this_pile : ClassId) (u_this_variables u_this_temporaries u_this_hasRun : Value) (sz : Nat) (v_this_calls : Int32) (v_this_pile : Nat → Int64) (v_this_size : Int32) (a_p1 : Int32) (res : Int32 × (Nat → Int64) × Int32) (hd : f_X2_callWith v_this_calls v_this_pile v_this_size a_p1 = some res) : Met l yX2_callWith wsX2_callWith ({ frames := 1, cells := 0, slots := 0, locals := 22 }) (va_Pc [.ref h_this, .int a_p1] (fun U => mPre dC dI (W_X2_callWith h_this h_this_pile k_this_pile u_this_variables u_this_temporaries u_this_hasRun v_this_calls v_this_pile v_this_size) [(k_this_pile, .long)] sz U)) (va_Qv (fun (u : Int32 × (Nat → Int64) × Int32) => u = res) (fun (u : Int32 × (Nat → Int64) × Int32) t => mPost dC dI (va_A (W_X2_callWith h_this h_this_pile k_this_pile u_this_variables u_this_temporaries u_this_hasRun v_this_calls v_this_pile v_this_size) sz) (W_X2_callWith h_this h_this_pile k_this_pile u_this_variables u_this_temporaries u_this_hasRun u.1 u.2.1 u.2.2) [(k_this_pile, .long)] t) (va_A (W_X2_callWith h_this h_this_pile k_this_pile u_this_variables u_this_temporaries u_this_hasRun v_this_calls v_this_pile v_this_size) sz)) 0 0 (va_A (W_X2_callWith h_this h_this_pile k_this_pile u_this_variables u_this_temporaries u_this_hasRun v_this_calls v_this_pile v_this_size) sz) := by
  refine Met.ofW (cc := cX2_callWith) (maxL := 8) (ret := none) (by decide) rfl ?_
  intro p e s m args below meth c s₁ B hml hv
  obtain ⟨rfl, ⟨hsz, hP, hK, hD0⟩⟩ := hv
  have hx := B.exec
  have hb := B.bytes
  have hr := B.returns
  have hts := atoms_spec (ws := wsX2_callWith) B.pre
  have hown : s.vm.findClass RX2 = some m.cls := findClass_of_methodNamed B.named
  have hlocks := B.notSynchronized
  have w_1 := hts (.fieldLink RX2 25 "TermPile$Machine" "calls" "I") (by decide +kernel)
  have w_2 := hts (.constantLong RX2 92 (31)) (by decide +kernel)
  have w_3 := hts (.constantLong RX2 94 (3)) (by decide +kernel)
  have w_4 := hts (.constantLong RX2 96 (9)) (by decide +kernel)
  have in_X2 : ∀ w ∈ wsX20, w ∈ wsX2_callWith := by decide +kernel
  subst hsz
  have hD := hD0.self (sz := s.heap.size)
  generalize hAe : va_A (W_X2_callWith h_this h_this_pile k_this_pile u_this_variables u_this_temporaries u_this_hasRun v_this_calls v_this_pile v_this_size) s.heap.size = A at hD ⊢
  have hA : ∀ q : Nat, s.heap.size ≤ q → A q := fun q h => by rw [← hAe]; exact Or.inr h
  clear hAe hD0
  have hS : va_S A s.heap s.heap [] := va_S.rf
  have hP : va_P (dC, dI) vwCl [(h_this, .inr (2, [u_this_variables, u_this_temporaries, .ref h_this_pile, .int v_this_size, .int v_this_calls, u_this_hasRun])), (h_this_pile, .inl (k_this_pile, 20, .inr (.inl (v_this_pile))))] s.heap := hP
  have hD : va_D A [(h_this, .inr (2, [u_this_variables, u_this_temporaries, .ref h_this_pile, .int v_this_size, .int v_this_calls, u_this_hasRun])), (h_this_pile, .inl (k_this_pile, 20, .inr (.inl (v_this_pile))))] := hD
  have B41 : ∀ (v_this_calls : Int32) (v_this_pile : Nat → Int64) (v_this_size : Int32) (l2 : Int64) (l4 : Int64) (s0 : Int64) (H : Heap) (locs : List Loc) (ls : Array Slot), f_X2_callWith_B41 v_this_calls v_this_pile v_this_size l2 l4 s0 = some res → va_P (dC, dI) vwCl [(h_this, .inr (2, [u_this_variables, u_this_temporaries, .ref h_this_pile, .int v_this_size, .int v_this_calls, u_this_hasRun])), (h_this_pile, .inl (k_this_pile, 20, .inr (.inl (v_this_pile))))] H → va_D A [(h_this, .inr (2, [u_this_variables, u_this_temporaries, .ref h_this_pile, .int v_this_size, .int v_this_calls, u_this_hasRun])), (h_this_pile, .inl (k_this_pile, 20, .inr (.inl (v_this_pile))))] → va_S A s.heap H locs → lv_has ls 8 [(0, .ref h_this), (2, .long l2), (4, .long l4)] → W p l e (headSpec wsX2_callWith ({ frames := 1, cells := 0, slots := 0, locals := 22 })).room s m [.ref h_this, .int a_p1].toArray below meth c H locs 0 0 (MQ below (va_Qv (fun (u : Int32 × (Nat → Int64) × Int32) => u = res) (fun (u : Int32 × (Nat → Int64) × Int32) t => mPost dC dI A (W_X2_callWith h_this h_this_pile k_this_pile u_this_variables u_this_temporaries u_this_hasRun u.1 u.2.1 u.2.2) [(k_this_pile, .long)] t) A) [.ref h_this, .int a_p1].toArray s 0 0 A) (F0 m 41 ls [.long s0]) := by
    clear hP hD hS hd
    intro v_this_calls v_this_pile v_this_size l2 l4 s0 H locs ls h hP hD hS hl
    unfold f_X2_callWith_B41 at h
    refine lv_lstore (lv' := [(6, .long s0), (0, .ref h_this), (2, .long l2), (4, .long l4)]) hx hb dX2_callWith_41 hl (by decide) rfl (fun ls hl => ?_)
    refine lv_aload_n hx hb dX2_callWith_43 rfl (lv_at hl 1 rfl) ?_
    refine lv_dup hx hb dX2_callWith_44 rfl ?_
    refine va_get (D := (dC, dI)) (ci := 2) (v := .int v_this_calls) (C := RX2) (T := TX2) (N := 6) hx hb hts in_X2 hown hK hP 0 rfl rfl 4 (by decide) w_1 (fun _ h9 => h9) rfl dX2_callWith_45 ?_
    refine lv_iconst (v := 1) hx hb dX2_callWith_48 (by decide) ?_
    refine lv_iadd hx hb dX2_callWith_49 ?_
    refine va_put (D := (dC, dI)) (ci := 2) (v := .int (v_this_calls + 1)) (ty := .int) (C := RX2) (T := TX2) (N := 6) hx hb hts in_X2 tyX2 tyX2_ok nmX2 hown hK hP hD hS 0 rfl rfl 4 (by decide) w_1 (fun _ h9 => h9) rfl (by decide +kernel) rfl rfl (Nat.le_of_ble_eq_true rfl) dX2_callWith_50 (fun H locs hP hD hS => ?_)
    have hP : va_P (dC, dI) vwCl [(h_this, .inr (2, [u_this_variables, u_this_temporaries, .ref h_this_pile, .int v_this_size, .int (v_this_calls + 1), u_this_hasRun])), (h_this_pile, .inl (k_this_pile, 20, .inr (.inl (v_this_pile))))] H := hP
    have hD : va_D A [(h_this, .inr (2, [u_this_variables, u_this_temporaries, .ref h_this_pile, .int v_this_size, .int (v_this_calls + 1), u_this_hasRun])), (h_this_pile, .inl (k_this_pile, 20, .inr (.inl (v_this_pile))))] := hD
    refine lv_aload_n hx hb dX2_callWith_53 rfl (lv_at hl 1 rfl) ?_
    refine lv_ldc2 hx hb hown w_2 dX2_callWith_54 ?_
    refine lv_aload_n hx hb dX2_callWith_57 rfl (lv_at hl 1 rfl) ?_
    refine va_get (D := (dC, dI)) (ci := 2) (v := .int (v_this_calls + 1)) (C := RX2) (T := TX2) (N := 6) hx hb hts in_X2 hown hK hP 0 rfl rfl 4 (by decide) w_1 (fun _ h9 => h9) rfl dX2_callWith_58 ?_
    refine lv_i2l hx hb dX2_callWith_61 rfl ?_
    refine lv_lmul hx hb dX2_callWith_62 ?_
    refine lv_lload hx hb dX2_callWith_63 (lv_at hl 0 rfl) ?_
    refine lv_ladd hx hb dX2_callWith_65 ?_
    refine lv_ldc2 hx hb hown w_3 dX2_callWith_66 ?_
    refine lv_lload hx hb dX2_callWith_69 (lv_at hl 3 rfl) ?_
    refine lv_lmul hx hb dX2_callWith_71 ?_
    refine lv_ladd hx hb dX2_callWith_72 ?_
    refine lv_ldc2 hx hb hown w_4 dX2_callWith_73 ?_
    refine lv_lload_n hx hb dX2_callWith_76 rfl (lv_at hl 2 rfl) ?_
    refine lv_lmul hx hb dX2_callWith_77 ?_
    refine lv_ladd hx hb dX2_callWith_78 ?_
    obtain ⟨⟨r10_this_pile, r10_this_size⟩, gr10, h⟩ := Option.bind_eq_some_iff.mp h
    try dsimp only at h
    have hPc := hP.sub (ws' := W_X2_push h_this h_this_pile k_this_pile u_this_variables u_this_temporaries (.int (v_this_calls + 1)) u_this_hasRun v_this_pile v_this_size) [0, 1] rfl
    have hDc := hD.sub (ws' := W_X2_push h_this h_this_pile k_this_pile u_this_variables u_this_temporaries (.int (v_this_calls + 1)) u_this_hasRun v_this_pile v_this_size) [0, 1] (by decide) rfl
    have hKc := hK.sub (tys' := [(k_this_pile, .long)]) [0] rfl
    have hFc := va_free (wc := W_X2_push h_this h_this_pile k_this_pile u_this_variables u_this_temporaries (.int (v_this_calls + 1)) u_this_hasRun v_this_pile v_this_size) hD hS hA [0, 1] rfl
    refine va_callv (va_runV (As := [.long ((((31 * ((v_this_calls + 1).toInt64)) + s0) + (3 * l4)) + (9 * l2))]) (rest := []) ⟨hx, hb, hml, hown, hts⟩ (c_X2_push l dC dI h_this h_this_pile k_this_pile u_this_variables u_this_temporaries (.int (v_this_calls + 1)) u_this_hasRun H.size v_this_pile v_this_size ((((31 * ((v_this_calls + 1).toInt64)) + s0) + (3 * l4)) + (9 * l2)) (r10_this_pile, r10_this_size) gr10) (cwV 1 hts gX2_callWith_X2_push rfl rfl rfl hd_X2_push ⟨Nat.le_of_ble_eq_true rfl, Nat.le_of_ble_eq_true rfl⟩) (preV hKc hPc hDc (va_recv hK hP (ci := 2) (q0 := 0) rfl rfl)) rfl rfl hl.1 rfl (lv_room (Nat.le_of_ble_eq_true rfl)) dX2_callWith_79 ⟨Nat.zero_le _, Nat.zero_le _⟩) hS (fun q _ h => hFc q h) hFc (fun ur10 tr10 H1 locs htr10 hvmr10 hw hB hz1 hk1 hS => ?_)
    obtain rfl := hw.symm
    obtain ⟨hP1, hK1, hD1⟩ := hB
    rw [htr10] at hP1
    obtain ⟨hP, hD⟩ := va_join (wr := []) (w1 := W_X2_push h_this h_this_pile k_this_pile u_this_variables u_this_temporaries (.int (v_this_calls + 1)) u_this_hasRun r10_this_pile r10_this_size) hP hD [0, 1] [] rfl rfl (by decide) (by decide) hk1 hFc hP1 hD1
    have hP := hP.sub (ws' := [(h_this, .inr (2, [u_this_variables, u_this_temporaries, .ref h_this_pile, .int r10_this_size, .int (v_this_calls + 1), u_this_hasRun])), (h_this_pile, .inl (k_this_pile, 20, .inr (.inl (r10_this_pile))))]) [0, 1] rfl
    have hD := hD.sub (ws' := [(h_this, .inr (2, [u_this_variables, u_this_temporaries, .ref h_this_pile, .int r10_this_size, .int (v_this_calls + 1), u_this_hasRun])), (h_this_pile, .inl (k_this_pile, 20, .inr (.inl (r10_this_pile))))]) [0, 1] (by decide) rfl
    generalize H1 = H at hP hS ⊢
    clear hk1 hz1
    obtain rfl := Option.some.inj h
    exact W.vret hx hb hr (fun t ht hW => ⟨⟨(v_this_calls + 1, r10_this_pile, r10_this_size), rfl, rfl, by rw [ht]; exact hP, va_K.moved hW.alike hK, hD⟩, hS.F ht⟩) hS.2.2 dX2_callWith_82
  have B27 : ∀ (v_this_calls : Int32) (v_this_pile : Nat → Int64) (v_this_size : Int32) (l1 : Int32) (l2 : Int64) (s0 : Int64) (H : Heap) (locs : List Loc) (ls : Array Slot), f_X2_callWith_B27 v_this_calls v_this_pile v_this_size l1 l2 s0 = some res → va_P (dC, dI) vwCl [(h_this, .inr (2, [u_this_variables, u_this_temporaries, .ref h_this_pile, .int v_this_size, .int v_this_calls, u_this_hasRun])), (h_this_pile, .inl (k_this_pile, 20, .inr (.inl (v_this_pile))))] H → va_D A [(h_this, .inr (2, [u_this_variables, u_this_temporaries, .ref h_this_pile, .int v_this_size, .int v_this_calls, u_this_hasRun])), (h_this_pile, .inl (k_this_pile, 20, .inr (.inl (v_this_pile))))] → va_S A s.heap H locs → lv_has ls 8 [(0, .ref h_this), (1, .int l1), (2, .long l2)] → W p l e (headSpec wsX2_callWith ({ frames := 1, cells := 0, slots := 0, locals := 22 })).room s m [.ref h_this, .int a_p1].toArray below meth c H locs 0 0 (MQ below (va_Qv (fun (u : Int32 × (Nat → Int64) × Int32) => u = res) (fun (u : Int32 × (Nat → Int64) × Int32) t => mPost dC dI A (W_X2_callWith h_this h_this_pile k_this_pile u_this_variables u_this_temporaries u_this_hasRun u.1 u.2.1 u.2.2) [(k_this_pile, .long)] t) A) [.ref h_this, .int a_p1].toArray s 0 0 A) (F0 m 27 ls [.long s0]) := by
    clear hP hD hS hd
    intro v_this_calls v_this_pile v_this_size l1 l2 s0 H locs ls h hP hD hS hl
    unfold f_X2_callWith_B27 at h
    refine lv_lstore (lv' := [(4, .long s0), (0, .ref h_this), (1, .int l1), (2, .long l2)]) hx hb dX2_callWith_27 hl (by decide) rfl (fun ls hl => ?_)
    refine lv_iload_n hx hb dX2_callWith_29 rfl (lv_at hl 2 rfl) ?_
    refine lv_if_le (tgt := 40) hx hb dX2_callWith_30 (by decide) (fun c7 => ?_) (fun c7 => ?_)
    · have h := it_t h c7
      refine lv_lconst (v := 0) hx hb dX2_callWith_40 (by decide) ?_
      exact B41 v_this_calls v_this_pile v_this_size l2 s0 0 H locs ls h hP hD hS (lv_sub hl [1, 3, 0] rfl)
    · have h := it_f h c7
      refine lv_aload_n hx hb dX2_callWith_33 rfl (lv_at hl 1 rfl) ?_
      obtain ⟨⟨r8, r8_this_size⟩, gr8, h⟩ := Option.bind_eq_some_iff.mp h
      try dsimp only at h
      have hPc := hP.sub (ws' := W_X2_pop h_this h_this_pile k_this_pile u_this_variables u_this_temporaries (.int v_this_calls) u_this_hasRun v_this_pile v_this_size) [0, 1] rfl
      have hDc := hD.sub (ws' := W_X2_pop h_this h_this_pile k_this_pile u_this_variables u_this_temporaries (.int v_this_calls) u_this_hasRun v_this_pile v_this_size) [0, 1] (by decide) rfl
      have hKc := hK.sub (tys' := [(k_this_pile, .long)]) [0] rfl
      have hFc := va_free (wc := W_X2_pop h_this h_this_pile k_this_pile u_this_variables u_this_temporaries (.int v_this_calls) u_this_hasRun v_this_pile v_this_size) hD hS hA [0, 1] rfl
      refine va_calll (va_runV (As := []) (rest := []) ⟨hx, hb, hml, hown, hts⟩ (c_X2_pop l dC dI h_this h_this_pile k_this_pile u_this_variables u_this_temporaries (.int v_this_calls) u_this_hasRun H.size v_this_pile v_this_size (r8, r8_this_size) gr8) (cwV 0 hts gX2_callWith_X2_pop rfl rfl rfl hd_X2_pop ⟨Nat.le_of_ble_eq_true rfl, Nat.le_of_ble_eq_true rfl⟩) (preV hKc hPc hDc (va_recv hK hP (ci := 2) (q0 := 0) rfl rfl)) rfl rfl hl.1 rfl (lv_room (Nat.le_of_ble_eq_true rfl)) dX2_callWith_34 ⟨Nat.zero_le _, Nat.zero_le _⟩) hS (fun q _ h => hFc q h) hFc (fun ar8 ur8 tr8 H1 locs htr8 hvmr8 hw hB hz1 hk1 hS => ?_)
      obtain ⟨rfl, rfl⟩ := And.intro hw.1.symm hw.2.symm
      obtain ⟨hP1, hK1, hD1⟩ := hB
      rw [htr8] at hP1
      obtain ⟨hP, hD⟩ := va_join (wr := []) (w1 := W_X2_pop h_this h_this_pile k_this_pile u_this_variables u_this_temporaries (.int v_this_calls) u_this_hasRun v_this_pile r8_this_size) hP hD [0, 1] [] rfl rfl (by decide) (by decide) hk1 hFc hP1 hD1
      have hP := hP.sub (ws' := [(h_this, .inr (2, [u_this_variables, u_this_temporaries, .ref h_this_pile, .int r8_this_size, .int v_this_calls, u_this_hasRun])), (h_this_pile, .inl (k_this_pile, 20, .inr (.inl (v_this_pile))))]) [0, 1] rfl
      have hD := hD.sub (ws' := [(h_this, .inr (2, [u_this_variables, u_this_temporaries, .ref h_this_pile, .int r8_this_size, .int v_this_calls, u_this_hasRun])), (h_this_pile, .inl (k_this_pile, 20, .inr (.inl (v_this_pile))))]) [0, 1] (by decide) rfl
      generalize H1 = H at hP hS ⊢
      clear hk1 hz1
      refine lv_goto (tgt := 41) hx hb dX2_callWith_37 (by decide) ?_
      exact B41 v_this_calls v_this_pile r8_this_size l2 s0 r8 H locs ls h hP hD hS (lv_sub hl [1, 3, 0] rfl)
  have B13 : ∀ (v_this_calls : Int32) (v_this_pile : Nat → Int64) (v_this_size : Int32) (l1 : Int32) (s0 : Int64) (H : Heap) (locs : List Loc) (ls : Array Slot), f_X2_callWith_B13 v_this_calls v_this_pile v_this_size l1 s0 = some res → va_P (dC, dI) vwCl [(h_this, .inr (2, [u_this_variables, u_this_temporaries, .ref h_this_pile, .int v_this_size, .int v_this_calls, u_this_hasRun])), (h_this_pile, .inl (k_this_pile, 20, .inr (.inl (v_this_pile))))] H → va_D A [(h_this, .inr (2, [u_this_variables, u_this_temporaries, .ref h_this_pile, .int v_this_size, .int v_this_calls, u_this_hasRun])), (h_this_pile, .inl (k_this_pile, 20, .inr (.inl (v_this_pile))))] → va_S A s.heap H locs → lv_has ls 8 [(0, .ref h_this), (1, .int l1)] → W p l e (headSpec wsX2_callWith ({ frames := 1, cells := 0, slots := 0, locals := 22 })).room s m [.ref h_this, .int a_p1].toArray below meth c H locs 0 0 (MQ below (va_Qv (fun (u : Int32 × (Nat → Int64) × Int32) => u = res) (fun (u : Int32 × (Nat → Int64) × Int32) t => mPost dC dI A (W_X2_callWith h_this h_this_pile k_this_pile u_this_variables u_this_temporaries u_this_hasRun u.1 u.2.1 u.2.2) [(k_this_pile, .long)] t) A) [.ref h_this, .int a_p1].toArray s 0 0 A) (F0 m 13 ls [.long s0]) := by
    clear hP hD hS hd
    intro v_this_calls v_this_pile v_this_size l1 s0 H locs ls h hP hD hS hl
    unfold f_X2_callWith_B13 at h
    refine lv_lstore_n (lv' := [(2, .long s0), (0, .ref h_this), (1, .int l1)]) hx hb dX2_callWith_13 rfl hl (by decide) rfl (fun ls hl => ?_)
    refine lv_iload_n hx hb dX2_callWith_14 rfl (lv_at hl 2 rfl) ?_
    refine lv_iconst (v := 1) hx hb dX2_callWith_15 (by decide) ?_
    refine lv_icmp_le (tgt := 26) hx hb dX2_callWith_16 (by decide) (fun c4 => ?_) (fun c4 => ?_)
    · have h := it_t h c4
      refine lv_lconst (v := 0) hx hb dX2_callWith_26 (by decide) ?_
      exact B27 v_this_calls v_this_pile v_this_size l1 s0 0 H locs ls h hP hD hS (lv_sub hl [1, 2, 0] rfl)
    · have h := it_f h c4
      refine lv_aload_n hx hb dX2_callWith_19 rfl (lv_at hl 1 rfl) ?_
      obtain ⟨⟨r5, r5_this_size⟩, gr5, h⟩ := Option.bind_eq_some_iff.mp h
      try dsimp only at h
      have hPc := hP.sub (ws' := W_X2_pop h_this h_this_pile k_this_pile u_this_variables u_this_temporaries (.int v_this_calls) u_this_hasRun v_this_pile v_this_size) [0, 1] rfl
      have hDc := hD.sub (ws' := W_X2_pop h_this h_this_pile k_this_pile u_this_variables u_this_temporaries (.int v_this_calls) u_this_hasRun v_this_pile v_this_size) [0, 1] (by decide) rfl
      have hKc := hK.sub (tys' := [(k_this_pile, .long)]) [0] rfl
      have hFc := va_free (wc := W_X2_pop h_this h_this_pile k_this_pile u_this_variables u_this_temporaries (.int v_this_calls) u_this_hasRun v_this_pile v_this_size) hD hS hA [0, 1] rfl
      refine va_calll (va_runV (As := []) (rest := []) ⟨hx, hb, hml, hown, hts⟩ (c_X2_pop l dC dI h_this h_this_pile k_this_pile u_this_variables u_this_temporaries (.int v_this_calls) u_this_hasRun H.size v_this_pile v_this_size (r5, r5_this_size) gr5) (cwV 0 hts gX2_callWith_X2_pop rfl rfl rfl hd_X2_pop ⟨Nat.le_of_ble_eq_true rfl, Nat.le_of_ble_eq_true rfl⟩) (preV hKc hPc hDc (va_recv hK hP (ci := 2) (q0 := 0) rfl rfl)) rfl rfl hl.1 rfl (lv_room (Nat.le_of_ble_eq_true rfl)) dX2_callWith_20 ⟨Nat.zero_le _, Nat.zero_le _⟩) hS (fun q _ h => hFc q h) hFc (fun ar5 ur5 tr5 H1 locs htr5 hvmr5 hw hB hz1 hk1 hS => ?_)
      obtain ⟨rfl, rfl⟩ := And.intro hw.1.symm hw.2.symm
      obtain ⟨hP1, hK1, hD1⟩ := hB
      rw [htr5] at hP1
      obtain ⟨hP, hD⟩ := va_join (wr := []) (w1 := W_X2_pop h_this h_this_pile k_this_pile u_this_variables u_this_temporaries (.int v_this_calls) u_this_hasRun v_this_pile r5_this_size) hP hD [0, 1] [] rfl rfl (by decide) (by decide) hk1 hFc hP1 hD1
      have hP := hP.sub (ws' := [(h_this, .inr (2, [u_this_variables, u_this_temporaries, .ref h_this_pile, .int r5_this_size, .int v_this_calls, u_this_hasRun])), (h_this_pile, .inl (k_this_pile, 20, .inr (.inl (v_this_pile))))]) [0, 1] rfl
      have hD := hD.sub (ws' := [(h_this, .inr (2, [u_this_variables, u_this_temporaries, .ref h_this_pile, .int r5_this_size, .int v_this_calls, u_this_hasRun])), (h_this_pile, .inl (k_this_pile, 20, .inr (.inl (v_this_pile))))]) [0, 1] (by decide) rfl
      generalize H1 = H at hP hS ⊢
      clear hk1 hz1
      refine lv_goto (tgt := 27) hx hb dX2_callWith_23 (by decide) ?_
      exact B27 v_this_calls v_this_pile r5_this_size l1 s0 r5 H locs ls h hP hD hS (lv_sub hl [1, 2, 0] rfl)
  have hl := lv_entry ([.ref h_this, .int a_p1]) (n := 8) (Nat.le_of_ble_eq_true rfl)
  rw [lg_entry_eq]
  generalize (lg_sl ([.ref h_this, .int a_p1]) ++ List.replicate (8 - (lg_sl ([.ref h_this, .int a_p1])).length) Slot.unset).toArray = ls at hl ⊢
  have hl : lv_has ls 8 [(0, .ref h_this), (1, .int a_p1)] := hl
  have h := hd
  unfold f_X2_callWith at h
  obtain ⟨H, hHe⟩ : ∃ H, H = s.heap := ⟨_, rfl⟩
  obtain ⟨locs, hLe⟩ : ∃ L : List Loc, L = [] := ⟨_, rfl⟩
  have hS : va_S A s.heap H locs := by rw [hHe, hLe]; exact hS
  have hP : va_P (dC, dI) vwCl [(h_this, .inr (2, [u_this_variables, u_this_temporaries, .ref h_this_pile, .int v_this_size, .int v_this_calls, u_this_hasRun])), (h_this_pile, .inl (k_this_pile, 20, .inr (.inl (v_this_pile))))] H := by rw [hHe]; exact hP
  rw [show W p l e (headSpec wsX2_callWith ({ frames := 1, cells := 0, slots := 0, locals := 22 })).room s m [.ref h_this, .int a_p1].toArray below meth c s.heap [] 0 0 = W p l e (headSpec wsX2_callWith ({ frames := 1, cells := 0, slots := 0, locals := 22 })).room s m [.ref h_this, .int a_p1].toArray below meth c H locs 0 0 by rw [hHe, hLe]]
  clear hHe hLe
  refine lv_iload_n hx hb dX2_callWith_0 rfl (lv_at hl 1 rfl) ?_
  refine lv_iconst (v := 2) hx hb dX2_callWith_1 (by decide) ?_
  refine lv_icmp_le (tgt := 12) hx hb dX2_callWith_2 (by decide) (fun c1 => ?_) (fun c1 => ?_)
  · have h := it_t h c1
    refine lv_lconst (v := 0) hx hb dX2_callWith_12 (by decide) ?_
    exact B13 v_this_calls v_this_pile v_this_size a_p1 0 H locs ls h hP hD hS (lv_sub hl [0, 1] rfl)
  · have h := it_f h c1
    refine lv_aload_n hx hb dX2_callWith_5 rfl (lv_at hl 0 rfl) ?_
    obtain ⟨⟨r2, r2_this_size⟩, gr2, h⟩ := Option.bind_eq_some_iff.mp h
    try dsimp only at h
    have hPc := hP.sub (ws' := W_X2_pop h_this h_this_pile k_this_pile u_this_variables u_this_temporaries (.int v_this_calls) u_this_hasRun v_this_pile v_this_size) [0, 1] rfl
    have hDc := hD.sub (ws' := W_X2_pop h_this h_this_pile k_this_pile u_this_variables u_this_temporaries (.int v_this_calls) u_this_hasRun v_this_pile v_this_size) [0, 1] (by decide) rfl
    have hKc := hK.sub (tys' := [(k_this_pile, .long)]) [0] rfl
    have hFc := va_free (wc := W_X2_pop h_this h_this_pile k_this_pile u_this_variables u_this_temporaries (.int v_this_calls) u_this_hasRun v_this_pile v_this_size) hD hS hA [0, 1] rfl
    refine va_calll (va_runV (As := []) (rest := []) ⟨hx, hb, hml, hown, hts⟩ (c_X2_pop l dC dI h_this h_this_pile k_this_pile u_this_variables u_this_temporaries (.int v_this_calls) u_this_hasRun H.size v_this_pile v_this_size (r2, r2_this_size) gr2) (cwV 0 hts gX2_callWith_X2_pop rfl rfl rfl hd_X2_pop ⟨Nat.le_of_ble_eq_true rfl, Nat.le_of_ble_eq_true rfl⟩) (preV hKc hPc hDc (va_recv hK hP (ci := 2) (q0 := 0) rfl rfl)) rfl rfl hl.1 rfl (lv_room (Nat.le_of_ble_eq_true rfl)) dX2_callWith_6 ⟨Nat.zero_le _, Nat.zero_le _⟩) hS (fun q _ h => hFc q h) hFc (fun ar2 ur2 tr2 H1 locs htr2 hvmr2 hw hB hz1 hk1 hS => ?_)
    obtain ⟨rfl, rfl⟩ := And.intro hw.1.symm hw.2.symm
    obtain ⟨hP1, hK1, hD1⟩ := hB
    rw [htr2] at hP1
    obtain ⟨hP, hD⟩ := va_join (wr := []) (w1 := W_X2_pop h_this h_this_pile k_this_pile u_this_variables u_this_temporaries (.int v_this_calls) u_this_hasRun v_this_pile r2_this_size) hP hD [0, 1] [] rfl rfl (by decide) (by decide) hk1 hFc hP1 hD1
    have hP := hP.sub (ws' := [(h_this, .inr (2, [u_this_variables, u_this_temporaries, .ref h_this_pile, .int r2_this_size, .int v_this_calls, u_this_hasRun])), (h_this_pile, .inl (k_this_pile, 20, .inr (.inl (v_this_pile))))]) [0, 1] rfl
    have hD := hD.sub (ws' := [(h_this, .inr (2, [u_this_variables, u_this_temporaries, .ref h_this_pile, .int r2_this_size, .int v_this_calls, u_this_hasRun])), (h_this_pile, .inl (k_this_pile, 20, .inr (.inl (v_this_pile))))]) [0, 1] (by decide) rfl
    generalize H1 = H at hP hS ⊢
    clear hk1 hz1
    refine lv_goto (tgt := 13) hx hb dX2_callWith_9 (by decide) ?_
    exact B13 v_this_calls v_this_pile r2_this_size a_p1 r2 H locs ls h hP hD hS (lv_sub hl [0, 1] rfl)
abbrev W_X2_step (h_this h_this_pile h_this_temporaries h_this_variables : Nat) (k_this_pile k_this_temporaries k_this_variables : ClassId) (u_this_hasRun : Value) (v_this_calls : Int32) (v_this_pile : Nat → Int64) (v_this_size : Int32) (v_this_temporaries : Nat → Int64) (v_this_variables : Nat → Int64) : va_W := [(h_this, .inr (2, [.ref h_this_variables, .ref h_this_temporaries, .ref h_this_pile, .int v_this_size, .int v_this_calls, u_this_hasRun])), (h_this_pile, .inl (k_this_pile, 20, .inr (.inl (v_this_pile)))), (h_this_temporaries, .inl (k_this_temporaries, 100, .inr (.inl (v_this_temporaries)))), (h_this_variables, .inl (k_this_variables, 10, .inr (.inl (v_this_variables))))]
def f_X2_step (v_this_calls : Int32) (v_this_pile : Nat → Int64) (v_this_size : Int32) (v_this_temporaries : Nat → Int64) (v_this_variables : Nat → Int64) (a_p1 : Int32) (a_p2 : Int32) : Option (Int32 × (Int32 × (Nat → Int64) × Int32 × (Nat → Int64) × (Nat → Int64))) := if a_p1 = 0 then (f_X2_push v_this_pile v_this_size a_p2.toInt64).bind fun q3 => some (1, (v_this_calls, q3.1, q3.2, v_this_temporaries, v_this_variables)) else if a_p1 = 1 then (f_X5_isVariable a_p2).bind fun q6 => if q6.1 = 0 then (f_X2_push v_this_pile v_this_size 0).bind fun q9 => some (1, (v_this_calls, q9.1, q9.2, v_this_temporaries, v_this_variables)) else ixd a_p2 10 ((f_X2_push v_this_pile v_this_size (v_this_variables a_p2.toNatClampNeg)).bind fun q12 => some (1, (v_this_calls, q12.1, q12.2, v_this_temporaries, v_this_variables))) else if a_p1 = 2 then (f_X2_pop v_this_pile v_this_size).bind fun q15 => (f_X2_setVariable v_this_variables a_p2 q15.1).bind fun q17 => some (1, (v_this_calls, v_this_pile, q15.2, v_this_temporaries, q17)) else if a_p1 = 3 then (f_X5_grownVariableIn a_p2).bind fun q20 => (f_X5_growthIn a_p2).bind fun q22 => (f_X2_growVariable v_this_variables q20.1 q22.1).bind fun q24 => some (1, (v_this_calls, v_this_pile, v_this_size, v_this_temporaries, q24)) else if a_p1 = 4 then (f_X2_workOp v_this_pile v_this_size a_p2).bind fun q27 => ckz q27.1 (some (q27.1, (v_this_calls, q27.2.1, q27.2.2, v_this_temporaries, v_this_variables))) else if a_p1 = 5 then (f_X2_pop v_this_pile v_this_size).bind fun q31 => (f_X2_push v_this_pile q31.2 (-q31.1)).bind fun q33 => some (1, (v_this_calls, q33.1, q33.2, v_this_temporaries, v_this_variables)) else if a_p1 = 6 then (f_X2_pop v_this_pile v_this_size).bind fun q36 => some (1, (v_this_calls, v_this_pile, q36.2, v_this_temporaries, v_this_variables)) else if a_p1 = 10 then (f_X2_callWith v_this_calls v_this_pile v_this_size a_p2).bind fun q39 => some (1, (q39.1, q39.2.1, q39.2.2, v_this_temporaries, v_this_variables)) else if a_p1 = 11 then (f_X2_isTemporary a_p2).bind fun q42 => if q42.1 = 0 then (f_X2_push v_this_pile v_this_size 0).bind fun q45 => some (1, (v_this_calls, q45.1, q45.2, v_this_temporaries, v_this_variables)) else ixd a_p2 100 ((f_X2_push v_this_pile v_this_size (v_this_temporaries a_p2.toNatClampNeg)).bind fun q48 => some (1, (v_this_calls, q48.1, q48.2, v_this_temporaries, v_this_variables))) else if a_p1 = 12 then (f_X2_pop v_this_pile v_this_size).bind fun q51 => (f_X2_setTemporary v_this_temporaries a_p2 q51.1).bind fun q53 => some (1, (v_this_calls, v_this_pile, q51.2, q53, v_this_variables)) else (f_X2_turn v_this_pile v_this_size a_p1).bind fun q55 => some (1, (v_this_calls, q55.1, q55.2, v_this_temporaries, v_this_variables))
theorem hdn_X2_step : yX2_step.cls ≠ "java/lang/invoke/MethodHandle" ∧ yX2_step.cls ≠ "java/lang/invoke/VarHandle" ∧ (parseMethodDescriptor yX2_step.desc).map (fun d => d.parameters.length) = some 2 := by decide +kernel
theorem hd_X2_step : yX2_step.cls = RX2 ∧ yX2_step.cls ≠ "java/lang/invoke/MethodHandle" ∧ yX2_step.cls ≠ "java/lang/invoke/VarHandle" ∧ (parseMethodDescriptor yX2_step.desc).map (fun d => d.parameters.length) = some 2 := ⟨rfl, hdn_X2_step⟩
set_option maxHeartbeats 4000000 in
set_option maxRecDepth 100000 in
theorem c_X2_step (l : Launch) (dC : Nat → ClassId) (dI : Nat → Nat → Nat) (adK adV : Nat → Nat) (h_this h_this_pile h_this_temporaries h_this_variables : Nat) (k_this_pile k_this_temporaries k_this_variables : ClassId) (u_this_hasRun : Value) (sz : Nat) (v_this_calls : Int32) (v_this_pile : Nat → Int64) (v_this_size : Int32) (v_this_temporaries : Nat → Int64) (v_this_variables : Nat → Int64) (a_p1 : Int32) (a_p2 : Int32) (res : Int32 × (Int32 × (Nat → Int64) × Int32 × (Nat → Int64) × (Nat → Int64))) (hd : f_X2_step v_this_calls v_this_pile v_this_size v_this_temporaries v_this_variables a_p1 a_p2 = some res) : Met l yX2_step wsX2_step ({ frames := 2, cells := 0, slots := 0, locals := 49 }) (va_Pc [.ref h_this, .int a_p1, .int a_p2] (fun U => mPre dC dI (W_X2_step h_this h_this_pile h_this_temporaries h_this_variables k_this_pile k_this_temporaries k_this_variables u_this_hasRun v_this_calls v_this_pile v_this_size v_this_temporaries v_this_variables) [(k_this_pile, .long), (k_this_temporaries, .long), (k_this_variables, .long)] sz U ∧ env adK adV (va_A (W_X2_step h_this h_this_pile h_this_temporaries h_this_variables k_this_pile k_this_temporaries k_this_variables u_this_hasRun v_this_calls v_this_pile v_this_size v_this_temporaries v_this_variables) sz) U U.heap)) (va_Qi (fun (r : Int32) (u : Int32 × (Nat → Int64) × Int32 × (Nat → Int64) × (Nat → Int64)) => r = res.1 ∧ u = res.2) (fun (u : Int32 × (Nat → Int64) × Int32 × (Nat → Int64) × (Nat → Int64)) t => mPost dC dI (va_A (W_X2_step h_this h_this_pile h_this_temporaries h_this_variables k_this_pile k_this_temporaries k_this_variables u_this_hasRun v_this_calls v_this_pile v_this_size v_this_temporaries v_this_variables) sz) (W_X2_step h_this h_this_pile h_this_temporaries h_this_variables k_this_pile k_this_temporaries k_this_variables u_this_hasRun u.1 u.2.1 u.2.2.1 u.2.2.2.1 u.2.2.2.2) [(k_this_pile, .long), (k_this_temporaries, .long), (k_this_variables, .long)] t) (va_A (W_X2_step h_this h_this_pile h_this_temporaries h_this_variables k_this_pile k_this_temporaries k_this_variables u_this_hasRun v_this_calls v_this_pile v_this_size v_this_temporaries v_this_variables) sz)) 0 0 (va_A (W_X2_step h_this h_this_pile h_this_temporaries h_this_variables k_this_pile k_this_temporaries k_this_variables u_this_hasRun v_this_calls v_this_pile v_this_size v_this_temporaries v_this_variables) sz) := by
  refine Met.ofW (cc := cX2_step) (maxL := 3) (ret := (some .boolean)) (by decide) rfl ?_
  intro p e s m args below meth c s₁ B hml hv
  obtain ⟨rfl, ⟨hsz, hP, hK, hD0⟩, hE⟩ := hv
  have hx := B.exec
  have hb := B.bytes
  have hr := B.returns
  have hts := atoms_spec (ws := wsX2_step) B.pre
  have hown : s.vm.findClass RX2 = some m.cls := findClass_of_methodNamed B.named
  have hlocks := B.notSynchronized
  have w_1 := hts (.initialized RX5) (by decide +kernel)
  have w_2 := hts (.static yX5_isVariable) (by decide +kernel)
  have w_3 := hts (.fieldLink RX2 9 "TermPile$Machine" "variables" "[J") (by decide +kernel)
  have w_4 := hts (.static yX5_grownVariableIn) (by decide +kernel)
  have w_5 := hts (.static yX5_growthIn) (by decide +kernel)
  have w_6 := hts (.fieldLink RX2 15 "TermPile$Machine" "temporaries" "[J") (by decide +kernel)
  have in_X2 : ∀ w ∈ wsX20, w ∈ wsX2_step := by decide +kernel
  subst hsz
  have hD := hD0.self (sz := s.heap.size)
  generalize hAe : va_A (W_X2_step h_this h_this_pile h_this_temporaries h_this_variables k_this_pile k_this_temporaries k_this_variables u_this_hasRun v_this_calls v_this_pile v_this_size v_this_temporaries v_this_variables) s.heap.size = A at hD hE ⊢
  have hA : ∀ q : Nat, s.heap.size ≤ q → A q := fun q h => by rw [← hAe]; exact Or.inr h
  clear hAe hD0
  have hS : va_S A s.heap s.heap [] := va_S.rf
  have hP : va_P (dC, dI) vwCl [(h_this, .inr (2, [.ref h_this_variables, .ref h_this_temporaries, .ref h_this_pile, .int v_this_size, .int v_this_calls, u_this_hasRun])), (h_this_pile, .inl (k_this_pile, 20, .inr (.inl (v_this_pile)))), (h_this_temporaries, .inl (k_this_temporaries, 100, .inr (.inl (v_this_temporaries)))), (h_this_variables, .inl (k_this_variables, 10, .inr (.inl (v_this_variables))))] s.heap := hP
  have hD : va_D A [(h_this, .inr (2, [.ref h_this_variables, .ref h_this_temporaries, .ref h_this_pile, .int v_this_size, .int v_this_calls, u_this_hasRun])), (h_this_pile, .inl (k_this_pile, 20, .inr (.inl (v_this_pile)))), (h_this_temporaries, .inl (k_this_temporaries, 100, .inr (.inl (v_this_temporaries)))), (h_this_variables, .inl (k_this_variables, 10, .inr (.inl (v_this_variables))))] := hD
  have hl := lv_entry ([.ref h_this, .int a_p1, .int a_p2]) (n := 3) (Nat.le_of_ble_eq_true rfl)
  rw [lg_entry_eq]
  generalize (lg_sl ([.ref h_this, .int a_p1, .int a_p2]) ++ List.replicate (3 - (lg_sl ([.ref h_this, .int a_p1, .int a_p2])).length) Slot.unset).toArray = ls at hl ⊢
  have hl : lv_has ls 3 [(0, .ref h_this), (1, .int a_p1), (2, .int a_p2)] := hl
  have h := hd
  unfold f_X2_step at h
  obtain ⟨H, hHe⟩ : ∃ H, H = s.heap := ⟨_, rfl⟩
  obtain ⟨locs, hLe⟩ : ∃ L : List Loc, L = [] := ⟨_, rfl⟩
  have hS : va_S A s.heap H locs := by rw [hHe, hLe]; exact hS
  have hP : va_P (dC, dI) vwCl [(h_this, .inr (2, [.ref h_this_variables, .ref h_this_temporaries, .ref h_this_pile, .int v_this_size, .int v_this_calls, u_this_hasRun])), (h_this_pile, .inl (k_this_pile, 20, .inr (.inl (v_this_pile)))), (h_this_temporaries, .inl (k_this_temporaries, 100, .inr (.inl (v_this_temporaries)))), (h_this_variables, .inl (k_this_variables, 10, .inr (.inl (v_this_variables))))] H := by rw [hHe]; exact hP
  rw [show W p l e (headSpec wsX2_step ({ frames := 2, cells := 0, slots := 0, locals := 49 })).room s m [.ref h_this, .int a_p1, .int a_p2].toArray below meth c s.heap [] 0 0 = W p l e (headSpec wsX2_step ({ frames := 2, cells := 0, slots := 0, locals := 49 })).room s m [.ref h_this, .int a_p1, .int a_p2].toArray below meth c H locs 0 0 by rw [hHe, hLe]]
  clear hHe hLe
  refine lv_iload_n hx hb dX2_step_0 rfl (lv_at hl 1 rfl) ?_
  by_cases s1 : a_p1 = 0
  · have h := it_t h s1
    refine lv_tableIn (tgt := 68) hx hb dX2_step_1 (by rw [s1]; decide) (by rw [s1]; decide) (by rw [s1]; rfl) (by decide) ?_
    refine lv_aload_n hx hb dX2_step_68 rfl (lv_at hl 0 rfl) ?_
    refine lv_iload_n hx hb dX2_step_69 rfl (lv_at hl 2 rfl) ?_
    refine lv_i2l hx hb dX2_step_70 rfl ?_
    obtain ⟨⟨r2_this_pile, r2_this_size⟩, gr2, h⟩ := Option.bind_eq_some_iff.mp h
    try dsimp only at h
    have hPc := hP.sub (ws' := W_X2_push h_this h_this_pile k_this_pile (.ref h_this_variables) (.ref h_this_temporaries) (.int v_this_calls) u_this_hasRun v_this_pile v_this_size) [0, 1] rfl
    have hDc := hD.sub (ws' := W_X2_push h_this h_this_pile k_this_pile (.ref h_this_variables) (.ref h_this_temporaries) (.int v_this_calls) u_this_hasRun v_this_pile v_this_size) [0, 1] (by decide) rfl
    have hKc := hK.sub (tys' := [(k_this_pile, .long)]) [0] rfl
    have hFc := va_free (wc := W_X2_push h_this h_this_pile k_this_pile (.ref h_this_variables) (.ref h_this_temporaries) (.int v_this_calls) u_this_hasRun v_this_pile v_this_size) hD hS hA [0, 1] rfl
    refine va_callv (va_runV (As := [.long a_p2.toInt64]) (rest := []) ⟨hx, hb, hml, hown, hts⟩ (c_X2_push l dC dI h_this h_this_pile k_this_pile (.ref h_this_variables) (.ref h_this_temporaries) (.int v_this_calls) u_this_hasRun H.size v_this_pile v_this_size a_p2.toInt64 (r2_this_pile, r2_this_size) gr2) (cwV 1 hts gX2_step_X2_push rfl rfl rfl hd_X2_push ⟨Nat.le_of_ble_eq_true rfl, Nat.le_of_ble_eq_true rfl⟩) (preV hKc hPc hDc (va_recv hK hP (ci := 2) (q0 := 0) rfl rfl)) rfl rfl hl.1 rfl (lv_room (Nat.le_of_ble_eq_true rfl)) dX2_step_71 ⟨Nat.zero_le _, Nat.zero_le _⟩) hS (fun q _ h => hFc q h) hFc (fun ur2 tr2 H1 locs htr2 hvmr2 hw hB hz1 hk1 hS => ?_)
    obtain rfl := hw.symm
    obtain ⟨hP1, hK1, hD1⟩ := hB
    rw [htr2] at hP1
    obtain ⟨hP, hD⟩ := va_join (wr := [(h_this_temporaries, .inl (k_this_temporaries, 100, .inr (.inl (v_this_temporaries)))), (h_this_variables, .inl (k_this_variables, 10, .inr (.inl (v_this_variables))))]) (w1 := W_X2_push h_this h_this_pile k_this_pile (.ref h_this_variables) (.ref h_this_temporaries) (.int v_this_calls) u_this_hasRun r2_this_pile r2_this_size) hP hD [0, 1] [2, 3] rfl rfl (by decide) (by decide) hk1 hFc hP1 hD1
    have hP := hP.sub (ws' := [(h_this, .inr (2, [.ref h_this_variables, .ref h_this_temporaries, .ref h_this_pile, .int r2_this_size, .int v_this_calls, u_this_hasRun])), (h_this_pile, .inl (k_this_pile, 20, .inr (.inl (r2_this_pile)))), (h_this_temporaries, .inl (k_this_temporaries, 100, .inr (.inl (v_this_temporaries)))), (h_this_variables, .inl (k_this_variables, 10, .inr (.inl (v_this_variables))))]) [2, 3, 0, 1] rfl
    have hD := hD.sub (ws' := [(h_this, .inr (2, [.ref h_this_variables, .ref h_this_temporaries, .ref h_this_pile, .int r2_this_size, .int v_this_calls, u_this_hasRun])), (h_this_pile, .inl (k_this_pile, 20, .inr (.inl (r2_this_pile)))), (h_this_temporaries, .inl (k_this_temporaries, 100, .inr (.inl (v_this_temporaries)))), (h_this_variables, .inl (k_this_variables, 10, .inr (.inl (v_this_variables))))]) [2, 3, 0, 1] (by decide) rfl
    generalize H1 = H at hP hS ⊢
    clear hk1 hz1
    refine lv_iconst (v := 1) hx hb dX2_step_74 (by decide) ?_
    obtain rfl := Option.some.inj h
    exact W.zret (v := 1) hx hb hr (by decide) (fun t ht hW => ⟨⟨1, (v_this_calls, r2_this_pile, r2_this_size, v_this_temporaries, v_this_variables), rfl, ⟨rfl, rfl⟩, by rw [ht]; exact hP, va_K.moved hW.alike hK, hD⟩, hS.F ht⟩) hS.2.2 dX2_step_75
  have h := it_f h s1
  by_cases s4 : a_p1 = 1
  · have h := it_t h s4
    refine lv_tableIn (tgt := 76) hx hb dX2_step_1 (by rw [s4]; decide) (by rw [s4]; decide) (by rw [s4]; rfl) (by decide) ?_
    refine lv_aload_n hx hb dX2_step_76 rfl (lv_at hl 0 rfl) ?_
    refine lv_iload_n hx hb dX2_step_77 rfl (lv_at hl 2 rfl) ?_
    obtain ⟨⟨r5, ⟨⟩⟩, gr5, h⟩ := Option.bind_eq_some_iff.mp h
    try dsimp only at h
    have hPc := hP.sub (ws' := []) [] rfl
    have hDc := hD.sub (ws' := []) [] (by decide) rfl
    have hKc := hK.sub (tys' := []) [] rfl
    have hFc := va_free (wc := []) hD hS hA [] rfl
    refine va_calli (va_runSN (As := [.int a_p2]) (rest := [.ref h_this]) ⟨hx, hb, hml, hown, hts⟩ (c_X5_isVariable l dC dI H.size a_p2 (r5, ()) gr5) ⟨va_cnB 1 hts gX2_step_X5_isVariable_n50 rfl rfl rfl (hE.1 _ (nz_X2_50 : _ ∈ nzL)) w_1 hdn_X5_isVariable ⟨Nat.le_of_ble_eq_true rfl, Nat.le_of_ble_eq_true rfl⟩, w_2, trivial⟩ (preS hKc hPc hDc) rfl rfl hl.1 rfl (lv_room (Nat.le_of_ble_eq_true rfl)) dX2_step_78 ⟨Nat.zero_le _, Nat.zero_le _⟩) hS (fun q _ h => hFc q h) hFc (fun ar5 ur5 tr5 H1 locs htr5 hvmr5 hw hB hz1 hk1 hS => ?_)
    obtain ⟨rfl, rfl⟩ := And.intro hw.1.symm hw.2.symm
    obtain ⟨hP1, hK1, hD1⟩ := hB
    rw [htr5] at hP1
    have hP : va_P (dC, dI) vwCl [(h_this, .inr (2, [.ref h_this_variables, .ref h_this_temporaries, .ref h_this_pile, .int v_this_size, .int v_this_calls, u_this_hasRun])), (h_this_pile, .inl (k_this_pile, 20, .inr (.inl (v_this_pile)))), (h_this_temporaries, .inl (k_this_temporaries, 100, .inr (.inl (v_this_temporaries)))), (h_this_variables, .inl (k_this_variables, 10, .inr (.inl (v_this_variables))))] H1 := keep0 hP hk1
    generalize H1 = H at hP hS ⊢
    clear hk1 hz1
    refine lv_if_eq (tgt := 93) hx hb dX2_step_81 (by decide) (fun c7 => ?_) (fun c7 => ?_)
    · have h := it_t h c7
      refine lv_lconst (v := 0) hx hb dX2_step_93 (by decide) ?_
      obtain ⟨⟨r8_this_pile, r8_this_size⟩, gr8, h⟩ := Option.bind_eq_some_iff.mp h
      try dsimp only at h
      have hPc := hP.sub (ws' := W_X2_push h_this h_this_pile k_this_pile (.ref h_this_variables) (.ref h_this_temporaries) (.int v_this_calls) u_this_hasRun v_this_pile v_this_size) [0, 1] rfl
      have hDc := hD.sub (ws' := W_X2_push h_this h_this_pile k_this_pile (.ref h_this_variables) (.ref h_this_temporaries) (.int v_this_calls) u_this_hasRun v_this_pile v_this_size) [0, 1] (by decide) rfl
      have hKc := hK.sub (tys' := [(k_this_pile, .long)]) [0] rfl
      have hFc := va_free (wc := W_X2_push h_this h_this_pile k_this_pile (.ref h_this_variables) (.ref h_this_temporaries) (.int v_this_calls) u_this_hasRun v_this_pile v_this_size) hD hS hA [0, 1] rfl
      refine va_callv (va_runV (As := [.long 0]) (rest := []) ⟨hx, hb, hml, hown, hts⟩ (c_X2_push l dC dI h_this h_this_pile k_this_pile (.ref h_this_variables) (.ref h_this_temporaries) (.int v_this_calls) u_this_hasRun H.size v_this_pile v_this_size 0 (r8_this_pile, r8_this_size) gr8) (cwV 1 hts gX2_step_X2_push rfl rfl rfl hd_X2_push ⟨Nat.le_of_ble_eq_true rfl, Nat.le_of_ble_eq_true rfl⟩) (preV hKc hPc hDc (va_recv hK hP (ci := 2) (q0 := 0) rfl rfl)) rfl rfl hl.1 rfl (lv_room (Nat.le_of_ble_eq_true rfl)) dX2_step_94 ⟨Nat.zero_le _, Nat.zero_le _⟩) hS (fun q _ h => hFc q h) hFc (fun ur8 tr8 H1 locs htr8 hvmr8 hw hB hz1 hk1 hS => ?_)
      obtain rfl := hw.symm
      obtain ⟨hP1, hK1, hD1⟩ := hB
      rw [htr8] at hP1
      obtain ⟨hP, hD⟩ := va_join (wr := [(h_this_temporaries, .inl (k_this_temporaries, 100, .inr (.inl (v_this_temporaries)))), (h_this_variables, .inl (k_this_variables, 10, .inr (.inl (v_this_variables))))]) (w1 := W_X2_push h_this h_this_pile k_this_pile (.ref h_this_variables) (.ref h_this_temporaries) (.int v_this_calls) u_this_hasRun r8_this_pile r8_this_size) hP hD [0, 1] [2, 3] rfl rfl (by decide) (by decide) hk1 hFc hP1 hD1
      have hP := hP.sub (ws' := [(h_this, .inr (2, [.ref h_this_variables, .ref h_this_temporaries, .ref h_this_pile, .int r8_this_size, .int v_this_calls, u_this_hasRun])), (h_this_pile, .inl (k_this_pile, 20, .inr (.inl (r8_this_pile)))), (h_this_temporaries, .inl (k_this_temporaries, 100, .inr (.inl (v_this_temporaries)))), (h_this_variables, .inl (k_this_variables, 10, .inr (.inl (v_this_variables))))]) [2, 3, 0, 1] rfl
      have hD := hD.sub (ws' := [(h_this, .inr (2, [.ref h_this_variables, .ref h_this_temporaries, .ref h_this_pile, .int r8_this_size, .int v_this_calls, u_this_hasRun])), (h_this_pile, .inl (k_this_pile, 20, .inr (.inl (r8_this_pile)))), (h_this_temporaries, .inl (k_this_temporaries, 100, .inr (.inl (v_this_temporaries)))), (h_this_variables, .inl (k_this_variables, 10, .inr (.inl (v_this_variables))))]) [2, 3, 0, 1] (by decide) rfl
      generalize H1 = H at hP hS ⊢
      clear hk1 hz1
      refine lv_iconst (v := 1) hx hb dX2_step_97 (by decide) ?_
      obtain rfl := Option.some.inj h
      exact W.zret (v := 1) hx hb hr (by decide) (fun t ht hW => ⟨⟨1, (v_this_calls, r8_this_pile, r8_this_size, v_this_temporaries, v_this_variables), rfl, ⟨rfl, rfl⟩, by rw [ht]; exact hP, va_K.moved hW.alike hK, hD⟩, hS.F ht⟩) hS.2.2 dX2_step_98
    · have h := it_f h c7
      refine lv_aload_n hx hb dX2_step_84 rfl (lv_at hl 0 rfl) ?_
      refine va_get (D := (dC, dI)) (ci := 2) (v := .ref h_this_variables) (C := RX2) (T := TX2) (N := 6) hx hb hts in_X2 hown hK hP 0 rfl rfl 0 (by decide) w_3 (fun _ h9 => h9) rfl dX2_step_85 ?_
      refine lv_iload_n hx hb dX2_step_88 rfl (lv_at hl 2 rfl) ?_
      obtain ⟨i10, h⟩ := ixd_ok h
      refine va_lald hx hb hK hP 3 2 rfl rfl i10 dX2_step_89 ?_
      refine lv_goto (tgt := 94) hx hb dX2_step_90 (by decide) ?_
      obtain ⟨⟨r11_this_pile, r11_this_size⟩, gr11, h⟩ := Option.bind_eq_some_iff.mp h
      try dsimp only at h
      have hPc := hP.sub (ws' := W_X2_push h_this h_this_pile k_this_pile (.ref h_this_variables) (.ref h_this_temporaries) (.int v_this_calls) u_this_hasRun v_this_pile v_this_size) [0, 1] rfl
      have hDc := hD.sub (ws' := W_X2_push h_this h_this_pile k_this_pile (.ref h_this_variables) (.ref h_this_temporaries) (.int v_this_calls) u_this_hasRun v_this_pile v_this_size) [0, 1] (by decide) rfl
      have hKc := hK.sub (tys' := [(k_this_pile, .long)]) [0] rfl
      have hFc := va_free (wc := W_X2_push h_this h_this_pile k_this_pile (.ref h_this_variables) (.ref h_this_temporaries) (.int v_this_calls) u_this_hasRun v_this_pile v_this_size) hD hS hA [0, 1] rfl
      refine va_callv (va_runV (As := [.long (v_this_variables a_p2.toNatClampNeg)]) (rest := []) ⟨hx, hb, hml, hown, hts⟩ (c_X2_push l dC dI h_this h_this_pile k_this_pile (.ref h_this_variables) (.ref h_this_temporaries) (.int v_this_calls) u_this_hasRun H.size v_this_pile v_this_size (v_this_variables a_p2.toNatClampNeg) (r11_this_pile, r11_this_size) gr11) (cwV 1 hts gX2_step_X2_push rfl rfl rfl hd_X2_push ⟨Nat.le_of_ble_eq_true rfl, Nat.le_of_ble_eq_true rfl⟩) (preV hKc hPc hDc (va_recv hK hP (ci := 2) (q0 := 0) rfl rfl)) rfl rfl hl.1 rfl (lv_room (Nat.le_of_ble_eq_true rfl)) dX2_step_94 ⟨Nat.zero_le _, Nat.zero_le _⟩) hS (fun q _ h => hFc q h) hFc (fun ur11 tr11 H1 locs htr11 hvmr11 hw hB hz1 hk1 hS => ?_)
      obtain rfl := hw.symm
      obtain ⟨hP1, hK1, hD1⟩ := hB
      rw [htr11] at hP1
      obtain ⟨hP, hD⟩ := va_join (wr := [(h_this_temporaries, .inl (k_this_temporaries, 100, .inr (.inl (v_this_temporaries)))), (h_this_variables, .inl (k_this_variables, 10, .inr (.inl (v_this_variables))))]) (w1 := W_X2_push h_this h_this_pile k_this_pile (.ref h_this_variables) (.ref h_this_temporaries) (.int v_this_calls) u_this_hasRun r11_this_pile r11_this_size) hP hD [0, 1] [2, 3] rfl rfl (by decide) (by decide) hk1 hFc hP1 hD1
      have hP := hP.sub (ws' := [(h_this, .inr (2, [.ref h_this_variables, .ref h_this_temporaries, .ref h_this_pile, .int r11_this_size, .int v_this_calls, u_this_hasRun])), (h_this_pile, .inl (k_this_pile, 20, .inr (.inl (r11_this_pile)))), (h_this_temporaries, .inl (k_this_temporaries, 100, .inr (.inl (v_this_temporaries)))), (h_this_variables, .inl (k_this_variables, 10, .inr (.inl (v_this_variables))))]) [2, 3, 0, 1] rfl
      have hD := hD.sub (ws' := [(h_this, .inr (2, [.ref h_this_variables, .ref h_this_temporaries, .ref h_this_pile, .int r11_this_size, .int v_this_calls, u_this_hasRun])), (h_this_pile, .inl (k_this_pile, 20, .inr (.inl (r11_this_pile)))), (h_this_temporaries, .inl (k_this_temporaries, 100, .inr (.inl (v_this_temporaries)))), (h_this_variables, .inl (k_this_variables, 10, .inr (.inl (v_this_variables))))]) [2, 3, 0, 1] (by decide) rfl
      generalize H1 = H at hP hS ⊢
      clear hk1 hz1
      refine lv_iconst (v := 1) hx hb dX2_step_97 (by decide) ?_
      obtain rfl := Option.some.inj h
      exact W.zret (v := 1) hx hb hr (by decide) (fun t ht hW => ⟨⟨1, (v_this_calls, r11_this_pile, r11_this_size, v_this_temporaries, v_this_variables), rfl, ⟨rfl, rfl⟩, by rw [ht]; exact hP, va_K.moved hW.alike hK, hD⟩, hS.F ht⟩) hS.2.2 dX2_step_98
  have h := it_f h s4
  by_cases s13 : a_p1 = 2
  · have h := it_t h s13
    refine lv_tableIn (tgt := 99) hx hb dX2_step_1 (by rw [s13]; decide) (by rw [s13]; decide) (by rw [s13]; rfl) (by decide) ?_
    refine lv_aload_n hx hb dX2_step_99 rfl (lv_at hl 0 rfl) ?_
    refine lv_iload_n hx hb dX2_step_100 rfl (lv_at hl 2 rfl) ?_
    refine lv_aload_n hx hb dX2_step_101 rfl (lv_at hl 0 rfl) ?_
    obtain ⟨⟨r14, r14_this_size⟩, gr14, h⟩ := Option.bind_eq_some_iff.mp h
    try dsimp only at h
    have hPc := hP.sub (ws' := W_X2_pop h_this h_this_pile k_this_pile (.ref h_this_variables) (.ref h_this_temporaries) (.int v_this_calls) u_this_hasRun v_this_pile v_this_size) [0, 1] rfl
    have hDc := hD.sub (ws' := W_X2_pop h_this h_this_pile k_this_pile (.ref h_this_variables) (.ref h_this_temporaries) (.int v_this_calls) u_this_hasRun v_this_pile v_this_size) [0, 1] (by decide) rfl
    have hKc := hK.sub (tys' := [(k_this_pile, .long)]) [0] rfl
    have hFc := va_free (wc := W_X2_pop h_this h_this_pile k_this_pile (.ref h_this_variables) (.ref h_this_temporaries) (.int v_this_calls) u_this_hasRun v_this_pile v_this_size) hD hS hA [0, 1] rfl
    refine va_calll (va_runV (As := []) (rest := [.int a_p2, .ref h_this]) ⟨hx, hb, hml, hown, hts⟩ (c_X2_pop l dC dI h_this h_this_pile k_this_pile (.ref h_this_variables) (.ref h_this_temporaries) (.int v_this_calls) u_this_hasRun H.size v_this_pile v_this_size (r14, r14_this_size) gr14) (cwV 0 hts gX2_step_X2_pop rfl rfl rfl hd_X2_pop ⟨Nat.le_of_ble_eq_true rfl, Nat.le_of_ble_eq_true rfl⟩) (preV hKc hPc hDc (va_recv hK hP (ci := 2) (q0 := 0) rfl rfl)) rfl rfl hl.1 rfl (lv_room (Nat.le_of_ble_eq_true rfl)) dX2_step_102 ⟨Nat.zero_le _, Nat.zero_le _⟩) hS (fun q _ h => hFc q h) hFc (fun ar14 ur14 tr14 H1 locs htr14 hvmr14 hw hB hz1 hk1 hS => ?_)
    obtain ⟨rfl, rfl⟩ := And.intro hw.1.symm hw.2.symm
    obtain ⟨hP1, hK1, hD1⟩ := hB
    rw [htr14] at hP1
    obtain ⟨hP, hD⟩ := va_join (wr := [(h_this_temporaries, .inl (k_this_temporaries, 100, .inr (.inl (v_this_temporaries)))), (h_this_variables, .inl (k_this_variables, 10, .inr (.inl (v_this_variables))))]) (w1 := W_X2_pop h_this h_this_pile k_this_pile (.ref h_this_variables) (.ref h_this_temporaries) (.int v_this_calls) u_this_hasRun v_this_pile r14_this_size) hP hD [0, 1] [2, 3] rfl rfl (by decide) (by decide) hk1 hFc hP1 hD1
    have hP := hP.sub (ws' := [(h_this, .inr (2, [.ref h_this_variables, .ref h_this_temporaries, .ref h_this_pile, .int r14_this_size, .int v_this_calls, u_this_hasRun])), (h_this_pile, .inl (k_this_pile, 20, .inr (.inl (v_this_pile)))), (h_this_temporaries, .inl (k_this_temporaries, 100, .inr (.inl (v_this_temporaries)))), (h_this_variables, .inl (k_this_variables, 10, .inr (.inl (v_this_variables))))]) [2, 3, 0, 1] rfl
    have hD := hD.sub (ws' := [(h_this, .inr (2, [.ref h_this_variables, .ref h_this_temporaries, .ref h_this_pile, .int r14_this_size, .int v_this_calls, u_this_hasRun])), (h_this_pile, .inl (k_this_pile, 20, .inr (.inl (v_this_pile)))), (h_this_temporaries, .inl (k_this_temporaries, 100, .inr (.inl (v_this_temporaries)))), (h_this_variables, .inl (k_this_variables, 10, .inr (.inl (v_this_variables))))]) [2, 3, 0, 1] (by decide) rfl
    generalize H1 = H at hP hS ⊢
    clear hk1 hz1
    obtain ⟨r16_this_variables, gr16, h⟩ := Option.bind_eq_some_iff.mp h
    try dsimp only at h
    have hPc := hP.sub (ws' := W_X2_setVariable h_this h_this_variables k_this_variables (.ref h_this_temporaries) (.ref h_this_pile) (.int r14_this_size) (.int v_this_calls) u_this_hasRun v_this_variables) [0, 3] rfl
    have hDc := hD.sub (ws' := W_X2_setVariable h_this h_this_variables k_this_variables (.ref h_this_temporaries) (.ref h_this_pile) (.int r14_this_size) (.int v_this_calls) u_this_hasRun v_this_variables) [0, 3] (by decide) rfl
    have hKc := hK.sub (tys' := [(k_this_variables, .long)]) [2] rfl
    have hFc := va_free (wc := W_X2_setVariable h_this h_this_variables k_this_variables (.ref h_this_temporaries) (.ref h_this_pile) (.int r14_this_size) (.int v_this_calls) u_this_hasRun v_this_variables) hD hS hA [0, 3] rfl
    refine va_callv (va_runV (As := [.int a_p2, .long r14]) (rest := []) ⟨hx, hb, hml, hown, hts⟩ (c_X2_setVariable l dC dI adK adV h_this h_this_variables k_this_variables (.ref h_this_temporaries) (.ref h_this_pile) (.int r14_this_size) (.int v_this_calls) u_this_hasRun H.size v_this_variables a_p2 r14 r16_this_variables gr16) (cwV 2 hts gX2_step_X2_setVariable rfl rfl rfl hd_X2_setVariable ⟨Nat.le_of_ble_eq_true rfl, Nat.le_of_ble_eq_true rfl⟩) (preVE hKc hPc hDc (va_recv hK hP (ci := 2) (q0 := 0) rfl rfl) (fun U hU hW => envp hE hS hFc hU hW)) rfl rfl hl.1 rfl (lv_room (Nat.le_of_ble_eq_true rfl)) dX2_step_105 ⟨Nat.zero_le _, Nat.zero_le _⟩) hS (fun q _ h => hFc q h) hFc (fun ur16 tr16 H1 locs htr16 hvmr16 hw hB hz1 hk1 hS => ?_)
    obtain rfl := hw.symm
    obtain ⟨hP1, hK1, hD1⟩ := hB
    rw [htr16] at hP1
    obtain ⟨hP, hD⟩ := va_join (wr := [(h_this_pile, .inl (k_this_pile, 20, .inr (.inl (v_this_pile)))), (h_this_temporaries, .inl (k_this_temporaries, 100, .inr (.inl (v_this_temporaries))))]) (w1 := W_X2_setVariable h_this h_this_variables k_this_variables (.ref h_this_temporaries) (.ref h_this_pile) (.int r14_this_size) (.int v_this_calls) u_this_hasRun r16_this_variables) hP hD [0, 3] [1, 2] rfl rfl (by decide) (by decide) hk1 hFc hP1 hD1
    have hP := hP.sub (ws' := [(h_this, .inr (2, [.ref h_this_variables, .ref h_this_temporaries, .ref h_this_pile, .int r14_this_size, .int v_this_calls, u_this_hasRun])), (h_this_pile, .inl (k_this_pile, 20, .inr (.inl (v_this_pile)))), (h_this_temporaries, .inl (k_this_temporaries, 100, .inr (.inl (v_this_temporaries)))), (h_this_variables, .inl (k_this_variables, 10, .inr (.inl (r16_this_variables))))]) [2, 0, 1, 3] rfl
    have hD := hD.sub (ws' := [(h_this, .inr (2, [.ref h_this_variables, .ref h_this_temporaries, .ref h_this_pile, .int r14_this_size, .int v_this_calls, u_this_hasRun])), (h_this_pile, .inl (k_this_pile, 20, .inr (.inl (v_this_pile)))), (h_this_temporaries, .inl (k_this_temporaries, 100, .inr (.inl (v_this_temporaries)))), (h_this_variables, .inl (k_this_variables, 10, .inr (.inl (r16_this_variables))))]) [2, 0, 1, 3] (by decide) rfl
    generalize H1 = H at hP hS ⊢
    clear hk1 hz1
    refine lv_iconst (v := 1) hx hb dX2_step_108 (by decide) ?_
    obtain rfl := Option.some.inj h
    exact W.zret (v := 1) hx hb hr (by decide) (fun t ht hW => ⟨⟨1, (v_this_calls, v_this_pile, r14_this_size, v_this_temporaries, r16_this_variables), rfl, ⟨rfl, rfl⟩, by rw [ht]; exact hP, va_K.moved hW.alike hK, hD⟩, hS.F ht⟩) hS.2.2 dX2_step_109
  have h := it_f h s13
  by_cases s18 : a_p1 = 3
  · have h := it_t h s18
    refine lv_tableIn (tgt := 110) hx hb dX2_step_1 (by rw [s18]; decide) (by rw [s18]; decide) (by rw [s18]; rfl) (by decide) ?_
    refine lv_aload_n hx hb dX2_step_110 rfl (lv_at hl 0 rfl) ?_
    refine lv_iload_n hx hb dX2_step_111 rfl (lv_at hl 2 rfl) ?_
    obtain ⟨⟨r19, ⟨⟩⟩, gr19, h⟩ := Option.bind_eq_some_iff.mp h
    try dsimp only at h
    have hPc := hP.sub (ws' := []) [] rfl
    have hDc := hD.sub (ws' := []) [] (by decide) rfl
    have hKc := hK.sub (tys' := []) [] rfl
    have hFc := va_free (wc := []) hD hS hA [] rfl
    refine va_calli (va_runSN (As := [.int a_p2]) (rest := [.ref h_this]) ⟨hx, hb, hml, hown, hts⟩ (c_X5_grownVariableIn l dC dI H.size a_p2 (r19, ()) gr19) ⟨va_cnB 1 hts gX2_step_X5_grownVariableIn_n62 rfl rfl rfl (hE.1 _ (nz_X2_62 : _ ∈ nzL)) w_1 hdn_X5_grownVariableIn ⟨Nat.le_of_ble_eq_true rfl, Nat.le_of_ble_eq_true rfl⟩, w_4, trivial⟩ (preS hKc hPc hDc) rfl rfl hl.1 rfl (lv_room (Nat.le_of_ble_eq_true rfl)) dX2_step_112 ⟨Nat.zero_le _, Nat.zero_le _⟩) hS (fun q _ h => hFc q h) hFc (fun ar19 ur19 tr19 H1 locs htr19 hvmr19 hw hB hz1 hk1 hS => ?_)
    obtain ⟨rfl, rfl⟩ := And.intro hw.1.symm hw.2.symm
    obtain ⟨hP1, hK1, hD1⟩ := hB
    rw [htr19] at hP1
    have hP : va_P (dC, dI) vwCl [(h_this, .inr (2, [.ref h_this_variables, .ref h_this_temporaries, .ref h_this_pile, .int v_this_size, .int v_this_calls, u_this_hasRun])), (h_this_pile, .inl (k_this_pile, 20, .inr (.inl (v_this_pile)))), (h_this_temporaries, .inl (k_this_temporaries, 100, .inr (.inl (v_this_temporaries)))), (h_this_variables, .inl (k_this_variables, 10, .inr (.inl (v_this_variables))))] H1 := keep0 hP hk1
    generalize H1 = H at hP hS ⊢
    clear hk1 hz1
    refine lv_iload_n hx hb dX2_step_115 rfl (lv_at hl 2 rfl) ?_
    obtain ⟨⟨r21, ⟨⟩⟩, gr21, h⟩ := Option.bind_eq_some_iff.mp h
    try dsimp only at h
    have hPc := hP.sub (ws' := []) [] rfl
    have hDc := hD.sub (ws' := []) [] (by decide) rfl
    have hKc := hK.sub (tys' := []) [] rfl
    have hFc := va_free (wc := []) hD hS hA [] rfl
    refine va_calli (va_runSN (As := [.int a_p2]) (rest := [.int r19, .ref h_this]) ⟨hx, hb, hml, hown, hts⟩ (c_X5_growthIn l dC dI H.size a_p2 (r21, ()) gr21) ⟨va_cnB 1 hts gX2_step_X5_growthIn_n65 rfl rfl rfl (hE.1 _ (nz_X2_65 : _ ∈ nzL)) w_1 hdn_X5_growthIn ⟨Nat.le_of_ble_eq_true rfl, Nat.le_of_ble_eq_true rfl⟩, w_5, trivial⟩ (preS hKc hPc hDc) rfl rfl hl.1 rfl (lv_room (Nat.le_of_ble_eq_true rfl)) dX2_step_116 ⟨Nat.zero_le _, Nat.zero_le _⟩) hS (fun q _ h => hFc q h) hFc (fun ar21 ur21 tr21 H1 locs htr21 hvmr21 hw hB hz1 hk1 hS => ?_)
    obtain ⟨rfl, rfl⟩ := And.intro hw.1.symm hw.2.symm
    obtain ⟨hP1, hK1, hD1⟩ := hB
    rw [htr21] at hP1
    have hP : va_P (dC, dI) vwCl [(h_this, .inr (2, [.ref h_this_variables, .ref h_this_temporaries, .ref h_this_pile, .int v_this_size, .int v_this_calls, u_this_hasRun])), (h_this_pile, .inl (k_this_pile, 20, .inr (.inl (v_this_pile)))), (h_this_temporaries, .inl (k_this_temporaries, 100, .inr (.inl (v_this_temporaries)))), (h_this_variables, .inl (k_this_variables, 10, .inr (.inl (v_this_variables))))] H1 := keep0 hP hk1
    generalize H1 = H at hP hS ⊢
    clear hk1 hz1
    obtain ⟨r23_this_variables, gr23, h⟩ := Option.bind_eq_some_iff.mp h
    try dsimp only at h
    have hPc := hP.sub (ws' := W_X2_growVariable h_this h_this_variables k_this_variables (.ref h_this_temporaries) (.ref h_this_pile) (.int v_this_size) (.int v_this_calls) u_this_hasRun v_this_variables) [0, 3] rfl
    have hDc := hD.sub (ws' := W_X2_growVariable h_this h_this_variables k_this_variables (.ref h_this_temporaries) (.ref h_this_pile) (.int v_this_size) (.int v_this_calls) u_this_hasRun v_this_variables) [0, 3] (by decide) rfl
    have hKc := hK.sub (tys' := [(k_this_variables, .long)]) [2] rfl
    have hFc := va_free (wc := W_X2_growVariable h_this h_this_variables k_this_variables (.ref h_this_temporaries) (.ref h_this_pile) (.int v_this_size) (.int v_this_calls) u_this_hasRun v_this_variables) hD hS hA [0, 3] rfl
    refine va_callv (va_runV (As := [.int r19, .int r21]) (rest := []) ⟨hx, hb, hml, hown, hts⟩ (c_X2_growVariable l dC dI adK adV h_this h_this_variables k_this_variables (.ref h_this_temporaries) (.ref h_this_pile) (.int v_this_size) (.int v_this_calls) u_this_hasRun H.size v_this_variables r19 r21 r23_this_variables gr23) (cwV 2 hts gX2_step_X2_growVariable rfl rfl rfl hd_X2_growVariable ⟨Nat.le_of_ble_eq_true rfl, Nat.le_of_ble_eq_true rfl⟩) (preVE hKc hPc hDc (va_recv hK hP (ci := 2) (q0 := 0) rfl rfl) (fun U hU hW => envp hE hS hFc hU hW)) rfl rfl hl.1 rfl (lv_room (Nat.le_of_ble_eq_true rfl)) dX2_step_119 ⟨Nat.zero_le _, Nat.zero_le _⟩) hS (fun q _ h => hFc q h) hFc (fun ur23 tr23 H1 locs htr23 hvmr23 hw hB hz1 hk1 hS => ?_)
    obtain rfl := hw.symm
    obtain ⟨hP1, hK1, hD1⟩ := hB
    rw [htr23] at hP1
    obtain ⟨hP, hD⟩ := va_join (wr := [(h_this_pile, .inl (k_this_pile, 20, .inr (.inl (v_this_pile)))), (h_this_temporaries, .inl (k_this_temporaries, 100, .inr (.inl (v_this_temporaries))))]) (w1 := W_X2_growVariable h_this h_this_variables k_this_variables (.ref h_this_temporaries) (.ref h_this_pile) (.int v_this_size) (.int v_this_calls) u_this_hasRun r23_this_variables) hP hD [0, 3] [1, 2] rfl rfl (by decide) (by decide) hk1 hFc hP1 hD1
    have hP := hP.sub (ws' := [(h_this, .inr (2, [.ref h_this_variables, .ref h_this_temporaries, .ref h_this_pile, .int v_this_size, .int v_this_calls, u_this_hasRun])), (h_this_pile, .inl (k_this_pile, 20, .inr (.inl (v_this_pile)))), (h_this_temporaries, .inl (k_this_temporaries, 100, .inr (.inl (v_this_temporaries)))), (h_this_variables, .inl (k_this_variables, 10, .inr (.inl (r23_this_variables))))]) [2, 0, 1, 3] rfl
    have hD := hD.sub (ws' := [(h_this, .inr (2, [.ref h_this_variables, .ref h_this_temporaries, .ref h_this_pile, .int v_this_size, .int v_this_calls, u_this_hasRun])), (h_this_pile, .inl (k_this_pile, 20, .inr (.inl (v_this_pile)))), (h_this_temporaries, .inl (k_this_temporaries, 100, .inr (.inl (v_this_temporaries)))), (h_this_variables, .inl (k_this_variables, 10, .inr (.inl (r23_this_variables))))]) [2, 0, 1, 3] (by decide) rfl
    generalize H1 = H at hP hS ⊢
    clear hk1 hz1
    refine lv_iconst (v := 1) hx hb dX2_step_122 (by decide) ?_
    obtain rfl := Option.some.inj h
    exact W.zret (v := 1) hx hb hr (by decide) (fun t ht hW => ⟨⟨1, (v_this_calls, v_this_pile, v_this_size, v_this_temporaries, r23_this_variables), rfl, ⟨rfl, rfl⟩, by rw [ht]; exact hP, va_K.moved hW.alike hK, hD⟩, hS.F ht⟩) hS.2.2 dX2_step_123
  have h := it_f h s18
  by_cases s25 : a_p1 = 4
  · have h := it_t h s25
    refine lv_tableIn (tgt := 124) hx hb dX2_step_1 (by rw [s25]; decide) (by rw [s25]; decide) (by rw [s25]; rfl) (by decide) ?_
    refine lv_aload_n hx hb dX2_step_124 rfl (lv_at hl 0 rfl) ?_
    refine lv_iload_n hx hb dX2_step_125 rfl (lv_at hl 2 rfl) ?_
    obtain ⟨⟨r26, ⟨r26_this_pile, r26_this_size⟩⟩, gr26, h⟩ := Option.bind_eq_some_iff.mp h
    try dsimp only at h
    have hPc := hP.sub (ws' := W_X2_workOp h_this h_this_pile k_this_pile (.ref h_this_variables) (.ref h_this_temporaries) (.int v_this_calls) u_this_hasRun v_this_pile v_this_size) [0, 1] rfl
    have hDc := hD.sub (ws' := W_X2_workOp h_this h_this_pile k_this_pile (.ref h_this_variables) (.ref h_this_temporaries) (.int v_this_calls) u_this_hasRun v_this_pile v_this_size) [0, 1] (by decide) rfl
    have hKc := hK.sub (tys' := [(k_this_pile, .long)]) [0] rfl
    have hFc := va_free (wc := W_X2_workOp h_this h_this_pile k_this_pile (.ref h_this_variables) (.ref h_this_temporaries) (.int v_this_calls) u_this_hasRun v_this_pile v_this_size) hD hS hA [0, 1] rfl
    refine va_calli (va_runV (As := [.int a_p2]) (rest := []) ⟨hx, hb, hml, hown, hts⟩ (c_X2_workOp l dC dI h_this h_this_pile k_this_pile (.ref h_this_variables) (.ref h_this_temporaries) (.int v_this_calls) u_this_hasRun H.size v_this_pile v_this_size a_p2 (r26, (r26_this_pile, r26_this_size)) gr26) (cwV 1 hts gX2_step_X2_workOp rfl rfl rfl hd_X2_workOp ⟨Nat.le_of_ble_eq_true rfl, Nat.le_of_ble_eq_true rfl⟩) (preV hKc hPc hDc (va_recv hK hP (ci := 2) (q0 := 0) rfl rfl)) rfl rfl hl.1 rfl (lv_room (Nat.le_of_ble_eq_true rfl)) dX2_step_126 ⟨Nat.zero_le _, Nat.zero_le _⟩) hS (fun q _ h => hFc q h) hFc (fun ar26 ur26 tr26 H1 locs htr26 hvmr26 hw hB hz1 hk1 hS => ?_)
    obtain ⟨rfl, rfl⟩ := And.intro hw.1.symm hw.2.symm
    obtain ⟨hP1, hK1, hD1⟩ := hB
    rw [htr26] at hP1
    obtain ⟨hP, hD⟩ := va_join (wr := [(h_this_temporaries, .inl (k_this_temporaries, 100, .inr (.inl (v_this_temporaries)))), (h_this_variables, .inl (k_this_variables, 10, .inr (.inl (v_this_variables))))]) (w1 := W_X2_workOp h_this h_this_pile k_this_pile (.ref h_this_variables) (.ref h_this_temporaries) (.int v_this_calls) u_this_hasRun r26_this_pile r26_this_size) hP hD [0, 1] [2, 3] rfl rfl (by decide) (by decide) hk1 hFc hP1 hD1
    have hP := hP.sub (ws' := [(h_this, .inr (2, [.ref h_this_variables, .ref h_this_temporaries, .ref h_this_pile, .int r26_this_size, .int v_this_calls, u_this_hasRun])), (h_this_pile, .inl (k_this_pile, 20, .inr (.inl (r26_this_pile)))), (h_this_temporaries, .inl (k_this_temporaries, 100, .inr (.inl (v_this_temporaries)))), (h_this_variables, .inl (k_this_variables, 10, .inr (.inl (v_this_variables))))]) [2, 3, 0, 1] rfl
    have hD := hD.sub (ws' := [(h_this, .inr (2, [.ref h_this_variables, .ref h_this_temporaries, .ref h_this_pile, .int r26_this_size, .int v_this_calls, u_this_hasRun])), (h_this_pile, .inl (k_this_pile, 20, .inr (.inl (r26_this_pile)))), (h_this_temporaries, .inl (k_this_temporaries, 100, .inr (.inl (v_this_temporaries)))), (h_this_variables, .inl (k_this_variables, 10, .inr (.inl (v_this_variables))))]) [2, 3, 0, 1] (by decide) rfl
    generalize H1 = H at hP hS ⊢
    clear hk1 hz1
    obtain ⟨n28, h⟩ := ckz_ok h
    obtain rfl := Option.some.inj h
    exact W.zret (v := r26) hx hb hr n28 (fun t ht hW => ⟨⟨r26, (v_this_calls, r26_this_pile, r26_this_size, v_this_temporaries, v_this_variables), rfl, ⟨rfl, rfl⟩, by rw [ht]; exact hP, va_K.moved hW.alike hK, hD⟩, hS.F ht⟩) hS.2.2 dX2_step_129
  have h := it_f h s25
  by_cases s29 : a_p1 = 5
  · have h := it_t h s29
    refine lv_tableIn (tgt := 130) hx hb dX2_step_1 (by rw [s29]; decide) (by rw [s29]; decide) (by rw [s29]; rfl) (by decide) ?_
    refine lv_aload_n hx hb dX2_step_130 rfl (lv_at hl 0 rfl) ?_
    refine lv_aload_n hx hb dX2_step_131 rfl (lv_at hl 0 rfl) ?_
    obtain ⟨⟨r30, r30_this_size⟩, gr30, h⟩ := Option.bind_eq_some_iff.mp h
    try dsimp only at h
    have hPc := hP.sub (ws' := W_X2_pop h_this h_this_pile k_this_pile (.ref h_this_variables) (.ref h_this_temporaries) (.int v_this_calls) u_this_hasRun v_this_pile v_this_size) [0, 1] rfl
    have hDc := hD.sub (ws' := W_X2_pop h_this h_this_pile k_this_pile (.ref h_this_variables) (.ref h_this_temporaries) (.int v_this_calls) u_this_hasRun v_this_pile v_this_size) [0, 1] (by decide) rfl
    have hKc := hK.sub (tys' := [(k_this_pile, .long)]) [0] rfl
    have hFc := va_free (wc := W_X2_pop h_this h_this_pile k_this_pile (.ref h_this_variables) (.ref h_this_temporaries) (.int v_this_calls) u_this_hasRun v_this_pile v_this_size) hD hS hA [0, 1] rfl
    refine va_calll (va_runV (As := []) (rest := [.ref h_this]) ⟨hx, hb, hml, hown, hts⟩ (c_X2_pop l dC dI h_this h_this_pile k_this_pile (.ref h_this_variables) (.ref h_this_temporaries) (.int v_this_calls) u_this_hasRun H.size v_this_pile v_this_size (r30, r30_this_size) gr30) (cwV 0 hts gX2_step_X2_pop rfl rfl rfl hd_X2_pop ⟨Nat.le_of_ble_eq_true rfl, Nat.le_of_ble_eq_true rfl⟩) (preV hKc hPc hDc (va_recv hK hP (ci := 2) (q0 := 0) rfl rfl)) rfl rfl hl.1 rfl (lv_room (Nat.le_of_ble_eq_true rfl)) dX2_step_132 ⟨Nat.zero_le _, Nat.zero_le _⟩) hS (fun q _ h => hFc q h) hFc (fun ar30 ur30 tr30 H1 locs htr30 hvmr30 hw hB hz1 hk1 hS => ?_)
    obtain ⟨rfl, rfl⟩ := And.intro hw.1.symm hw.2.symm
    obtain ⟨hP1, hK1, hD1⟩ := hB
    rw [htr30] at hP1
    obtain ⟨hP, hD⟩ := va_join (wr := [(h_this_temporaries, .inl (k_this_temporaries, 100, .inr (.inl (v_this_temporaries)))), (h_this_variables, .inl (k_this_variables, 10, .inr (.inl (v_this_variables))))]) (w1 := W_X2_pop h_this h_this_pile k_this_pile (.ref h_this_variables) (.ref h_this_temporaries) (.int v_this_calls) u_this_hasRun v_this_pile r30_this_size) hP hD [0, 1] [2, 3] rfl rfl (by decide) (by decide) hk1 hFc hP1 hD1
    have hP := hP.sub (ws' := [(h_this, .inr (2, [.ref h_this_variables, .ref h_this_temporaries, .ref h_this_pile, .int r30_this_size, .int v_this_calls, u_this_hasRun])), (h_this_pile, .inl (k_this_pile, 20, .inr (.inl (v_this_pile)))), (h_this_temporaries, .inl (k_this_temporaries, 100, .inr (.inl (v_this_temporaries)))), (h_this_variables, .inl (k_this_variables, 10, .inr (.inl (v_this_variables))))]) [2, 3, 0, 1] rfl
    have hD := hD.sub (ws' := [(h_this, .inr (2, [.ref h_this_variables, .ref h_this_temporaries, .ref h_this_pile, .int r30_this_size, .int v_this_calls, u_this_hasRun])), (h_this_pile, .inl (k_this_pile, 20, .inr (.inl (v_this_pile)))), (h_this_temporaries, .inl (k_this_temporaries, 100, .inr (.inl (v_this_temporaries)))), (h_this_variables, .inl (k_this_variables, 10, .inr (.inl (v_this_variables))))]) [2, 3, 0, 1] (by decide) rfl
    generalize H1 = H at hP hS ⊢
    clear hk1 hz1
    refine lv_lneg hx hb dX2_step_135 ?_
    obtain ⟨⟨r32_this_pile, r32_this_size⟩, gr32, h⟩ := Option.bind_eq_some_iff.mp h
    try dsimp only at h
    have hPc := hP.sub (ws' := W_X2_push h_this h_this_pile k_this_pile (.ref h_this_variables) (.ref h_this_temporaries) (.int v_this_calls) u_this_hasRun v_this_pile r30_this_size) [0, 1] rfl
    have hDc := hD.sub (ws' := W_X2_push h_this h_this_pile k_this_pile (.ref h_this_variables) (.ref h_this_temporaries) (.int v_this_calls) u_this_hasRun v_this_pile r30_this_size) [0, 1] (by decide) rfl
    have hKc := hK.sub (tys' := [(k_this_pile, .long)]) [0] rfl
    have hFc := va_free (wc := W_X2_push h_this h_this_pile k_this_pile (.ref h_this_variables) (.ref h_this_temporaries) (.int v_this_calls) u_this_hasRun v_this_pile r30_this_size) hD hS hA [0, 1] rfl
    refine va_callv (va_runV (As := [.long (-r30)]) (rest := []) ⟨hx, hb, hml, hown, hts⟩ (c_X2_push l dC dI h_this h_this_pile k_this_pile (.ref h_this_variables) (.ref h_this_temporaries) (.int v_this_calls) u_this_hasRun H.size v_this_pile r30_this_size (-r30) (r32_this_pile, r32_this_size) gr32) (cwV 1 hts gX2_step_X2_push rfl rfl rfl hd_X2_push ⟨Nat.le_of_ble_eq_true rfl, Nat.le_of_ble_eq_true rfl⟩) (preV hKc hPc hDc (va_recv hK hP (ci := 2) (q0 := 0) rfl rfl)) rfl rfl hl.1 rfl (lv_room (Nat.le_of_ble_eq_true rfl)) dX2_step_136 ⟨Nat.zero_le _, Nat.zero_le _⟩) hS (fun q _ h => hFc q h) hFc (fun ur32 tr32 H1 locs htr32 hvmr32 hw hB hz1 hk1 hS => ?_)
    obtain rfl := hw.symm
    obtain ⟨hP1, hK1, hD1⟩ := hB
    rw [htr32] at hP1
    obtain ⟨hP, hD⟩ := va_join (wr := [(h_this_temporaries, .inl (k_this_temporaries, 100, .inr (.inl (v_this_temporaries)))), (h_this_variables, .inl (k_this_variables, 10, .inr (.inl (v_this_variables))))]) (w1 := W_X2_push h_this h_this_pile k_this_pile (.ref h_this_variables) (.ref h_this_temporaries) (.int v_this_calls) u_this_hasRun r32_this_pile r32_this_size) hP hD [0, 1] [2, 3] rfl rfl (by decide) (by decide) hk1 hFc hP1 hD1
    have hP := hP.sub (ws' := [(h_this, .inr (2, [.ref h_this_variables, .ref h_this_temporaries, .ref h_this_pile, .int r32_this_size, .int v_this_calls, u_this_hasRun])), (h_this_pile, .inl (k_this_pile, 20, .inr (.inl (r32_this_pile)))), (h_this_temporaries, .inl (k_this_temporaries, 100, .inr (.inl (v_this_temporaries)))), (h_this_variables, .inl (k_this_variables, 10, .inr (.inl (v_this_variables))))]) [2, 3, 0, 1] rfl
    have hD := hD.sub (ws' := [(h_this, .inr (2, [.ref h_this_variables, .ref h_this_temporaries, .ref h_this_pile, .int r32_this_size, .int v_this_calls, u_this_hasRun])), (h_this_pile, .inl (k_this_pile, 20, .inr (.inl (r32_this_pile)))), (h_this_temporaries, .inl (k_this_temporaries, 100, .inr (.inl (v_this_temporaries)))), (h_this_variables, .inl (k_this_variables, 10, .inr (.inl (v_this_variables))))]) [2, 3, 0, 1] (by decide) rfl
    generalize H1 = H at hP hS ⊢
    clear hk1 hz1
    refine lv_iconst (v := 1) hx hb dX2_step_139 (by decide) ?_
    obtain rfl := Option.some.inj h
    exact W.zret (v := 1) hx hb hr (by decide) (fun t ht hW => ⟨⟨1, (v_this_calls, r32_this_pile, r32_this_size, v_this_temporaries, v_this_variables), rfl, ⟨rfl, rfl⟩, by rw [ht]; exact hP, va_K.moved hW.alike hK, hD⟩, hS.F ht⟩) hS.2.2 dX2_step_140
  have h := it_f h s29
  by_cases s34 : a_p1 = 6
  · have h := it_t h s34
    refine lv_tableIn (tgt := 141) hx hb dX2_step_1 (by rw [s34]; decide) (by rw [s34]; decide) (by rw [s34]; rfl) (by decide) ?_
    refine lv_aload_n hx hb dX2_step_141 rfl (lv_at hl 0 rfl) ?_
    obtain ⟨⟨r35, r35_this_size⟩, gr35, h⟩ := Option.bind_eq_some_iff.mp h
    try dsimp only at h
    have hPc := hP.sub (ws' := W_X2_pop h_this h_this_pile k_this_pile (.ref h_this_variables) (.ref h_this_temporaries) (.int v_this_calls) u_this_hasRun v_this_pile v_this_size) [0, 1] rfl
    have hDc := hD.sub (ws' := W_X2_pop h_this h_this_pile k_this_pile (.ref h_this_variables) (.ref h_this_temporaries) (.int v_this_calls) u_this_hasRun v_this_pile v_this_size) [0, 1] (by decide) rfl
    have hKc := hK.sub (tys' := [(k_this_pile, .long)]) [0] rfl
    have hFc := va_free (wc := W_X2_pop h_this h_this_pile k_this_pile (.ref h_this_variables) (.ref h_this_temporaries) (.int v_this_calls) u_this_hasRun v_this_pile v_this_size) hD hS hA [0, 1] rfl
    refine va_calll (va_runV (As := []) (rest := []) ⟨hx, hb, hml, hown, hts⟩ (c_X2_pop l dC dI h_this h_this_pile k_this_pile (.ref h_this_variables) (.ref h_this_temporaries) (.int v_this_calls) u_this_hasRun H.size v_this_pile v_this_size (r35, r35_this_size) gr35) (cwV 0 hts gX2_step_X2_pop rfl rfl rfl hd_X2_pop ⟨Nat.le_of_ble_eq_true rfl, Nat.le_of_ble_eq_true rfl⟩) (preV hKc hPc hDc (va_recv hK hP (ci := 2) (q0 := 0) rfl rfl)) rfl rfl hl.1 rfl (lv_room (Nat.le_of_ble_eq_true rfl)) dX2_step_142 ⟨Nat.zero_le _, Nat.zero_le _⟩) hS (fun q _ h => hFc q h) hFc (fun ar35 ur35 tr35 H1 locs htr35 hvmr35 hw hB hz1 hk1 hS => ?_)
    obtain ⟨rfl, rfl⟩ := And.intro hw.1.symm hw.2.symm
    obtain ⟨hP1, hK1, hD1⟩ := hB
    rw [htr35] at hP1
    obtain ⟨hP, hD⟩ := va_join (wr := [(h_this_temporaries, .inl (k_this_temporaries, 100, .inr (.inl (v_this_temporaries)))), (h_this_variables, .inl (k_this_variables, 10, .inr (.inl (v_this_variables))))]) (w1 := W_X2_pop h_this h_this_pile k_this_pile (.ref h_this_variables) (.ref h_this_temporaries) (.int v_this_calls) u_this_hasRun v_this_pile r35_this_size) hP hD [0, 1] [2, 3] rfl rfl (by decide) (by decide) hk1 hFc hP1 hD1
    have hP := hP.sub (ws' := [(h_this, .inr (2, [.ref h_this_variables, .ref h_this_temporaries, .ref h_this_pile, .int r35_this_size, .int v_this_calls, u_this_hasRun])), (h_this_pile, .inl (k_this_pile, 20, .inr (.inl (v_this_pile)))), (h_this_temporaries, .inl (k_this_temporaries, 100, .inr (.inl (v_this_temporaries)))), (h_this_variables, .inl (k_this_variables, 10, .inr (.inl (v_this_variables))))]) [2, 3, 0, 1] rfl
    have hD := hD.sub (ws' := [(h_this, .inr (2, [.ref h_this_variables, .ref h_this_temporaries, .ref h_this_pile, .int r35_this_size, .int v_this_calls, u_this_hasRun])), (h_this_pile, .inl (k_this_pile, 20, .inr (.inl (v_this_pile)))), (h_this_temporaries, .inl (k_this_temporaries, 100, .inr (.inl (v_this_temporaries)))), (h_this_variables, .inl (k_this_variables, 10, .inr (.inl (v_this_variables))))]) [2, 3, 0, 1] (by decide) rfl
    generalize H1 = H at hP hS ⊢
    clear hk1 hz1
    refine lv_pop2_2 hx hb dX2_step_145 rfl ?_
    refine lv_iconst (v := 1) hx hb dX2_step_146 (by decide) ?_
    obtain rfl := Option.some.inj h
    exact W.zret (v := 1) hx hb hr (by decide) (fun t ht hW => ⟨⟨1, (v_this_calls, v_this_pile, r35_this_size, v_this_temporaries, v_this_variables), rfl, ⟨rfl, rfl⟩, by rw [ht]; exact hP, va_K.moved hW.alike hK, hD⟩, hS.F ht⟩) hS.2.2 dX2_step_147
  have h := it_f h s34
  by_cases s37 : a_p1 = 10
  · have h := it_t h s37
    refine lv_tableIn (tgt := 148) hx hb dX2_step_1 (by rw [s37]; decide) (by rw [s37]; decide) (by rw [s37]; rfl) (by decide) ?_
    refine lv_aload_n hx hb dX2_step_148 rfl (lv_at hl 0 rfl) ?_
    refine lv_iload_n hx hb dX2_step_149 rfl (lv_at hl 2 rfl) ?_
    obtain ⟨⟨r38_this_calls, r38_this_pile, r38_this_size⟩, gr38, h⟩ := Option.bind_eq_some_iff.mp h
    try dsimp only at h
    have hPc := hP.sub (ws' := W_X2_callWith h_this h_this_pile k_this_pile (.ref h_this_variables) (.ref h_this_temporaries) u_this_hasRun v_this_calls v_this_pile v_this_size) [0, 1] rfl
    have hDc := hD.sub (ws' := W_X2_callWith h_this h_this_pile k_this_pile (.ref h_this_variables) (.ref h_this_temporaries) u_this_hasRun v_this_calls v_this_pile v_this_size) [0, 1] (by decide) rfl
    have hKc := hK.sub (tys' := [(k_this_pile, .long)]) [0] rfl
    have hFc := va_free (wc := W_X2_callWith h_this h_this_pile k_this_pile (.ref h_this_variables) (.ref h_this_temporaries) u_this_hasRun v_this_calls v_this_pile v_this_size) hD hS hA [0, 1] rfl
    refine va_callv (va_runV (As := [.int a_p2]) (rest := []) ⟨hx, hb, hml, hown, hts⟩ (c_X2_callWith l dC dI h_this h_this_pile k_this_pile (.ref h_this_variables) (.ref h_this_temporaries) u_this_hasRun H.size v_this_calls v_this_pile v_this_size a_p2 (r38_this_calls, r38_this_pile, r38_this_size) gr38) (cwV 1 hts gX2_step_X2_callWith rfl rfl rfl hd_X2_callWith ⟨Nat.le_of_ble_eq_true rfl, Nat.le_of_ble_eq_true rfl⟩) (preV hKc hPc hDc (va_recv hK hP (ci := 2) (q0 := 0) rfl rfl)) rfl rfl hl.1 rfl (lv_room (Nat.le_of_ble_eq_true rfl)) dX2_step_150 ⟨Nat.zero_le _, Nat.zero_le _⟩) hS (fun q _ h => hFc q h) hFc (fun ur38 tr38 H1 locs htr38 hvmr38 hw hB hz1 hk1 hS => ?_)
    obtain rfl := hw.symm
    obtain ⟨hP1, hK1, hD1⟩ := hB
    rw [htr38] at hP1
    obtain ⟨hP, hD⟩ := va_join (wr := [(h_this_temporaries, .inl (k_this_temporaries, 100, .inr (.inl (v_this_temporaries)))), (h_this_variables, .inl (k_this_variables, 10, .inr (.inl (v_this_variables))))]) (w1 := W_X2_callWith h_this h_this_pile k_this_pile (.ref h_this_variables) (.ref h_this_temporaries) u_this_hasRun r38_this_calls r38_this_pile r38_this_size) hP hD [0, 1] [2, 3] rfl rfl (by decide) (by decide) hk1 hFc hP1 hD1
    have hP := hP.sub (ws' := [(h_this, .inr (2, [.ref h_this_variables, .ref h_this_temporaries, .ref h_this_pile, .int r38_this_size, .int r38_this_calls, u_this_hasRun])), (h_this_pile, .inl (k_this_pile, 20, .inr (.inl (r38_this_pile)))), (h_this_temporaries, .inl (k_this_temporaries, 100, .inr (.inl (v_this_temporaries)))), (h_this_variables, .inl (k_this_variables, 10, .inr (.inl (v_this_variables))))]) [2, 3, 0, 1] rfl
    have hD := hD.sub (ws' := [(h_this, .inr (2, [.ref h_this_variables, .ref h_this_temporaries, .ref h_this_pile, .int r38_this_size, .int r38_this_calls, u_this_hasRun])), (h_this_pile, .inl (k_this_pile, 20, .inr (.inl (r38_this_pile)))), (h_this_temporaries, .inl (k_this_temporaries, 100, .inr (.inl (v_this_temporaries)))), (h_this_variables, .inl (k_this_variables, 10, .inr (.inl (v_this_variables))))]) [2, 3, 0, 1] (by decide) rfl
    generalize H1 = H at hP hS ⊢
    clear hk1 hz1
    refine lv_iconst (v := 1) hx hb dX2_step_153 (by decide) ?_
    obtain rfl := Option.some.inj h
    exact W.zret (v := 1) hx hb hr (by decide) (fun t ht hW => ⟨⟨1, (r38_this_calls, r38_this_pile, r38_this_size, v_this_temporaries, v_this_variables), rfl, ⟨rfl, rfl⟩, by rw [ht]; exact hP, va_K.moved hW.alike hK, hD⟩, hS.F ht⟩) hS.2.2 dX2_step_154
  have h := it_f h s37
  by_cases s40 : a_p1 = 11
  · have h := it_t h s40
    refine lv_tableIn (tgt := 155) hx hb dX2_step_1 (by rw [s40]; decide) (by rw [s40]; decide) (by rw [s40]; rfl) (by decide) ?_
    refine lv_aload_n hx hb dX2_step_155 rfl (lv_at hl 0 rfl) ?_
    refine lv_iload_n hx hb dX2_step_156 rfl (lv_at hl 2 rfl) ?_
    obtain ⟨⟨r41, ⟨⟩⟩, gr41, h⟩ := Option.bind_eq_some_iff.mp h
    try dsimp only at h
    have hPc := hP.sub (ws' := []) [] rfl
    have hDc := hD.sub (ws' := []) [] (by decide) rfl
    have hKc := hK.sub (tys' := []) [] rfl
    have hFc := va_free (wc := []) hD hS hA [] rfl
    refine va_calli (va_runS (As := [.int a_p2]) (rest := [.ref h_this]) ⟨hx, hb, hml, hown, hts⟩ (c_X2_isTemporary l dC dI H.size a_p2 (r41, ()) gr41) (va_cwS 1 hts gX2_step_X2_isTemporary rfl rfl rfl hdn_X2_isTemporary ⟨Nat.le_of_ble_eq_true rfl, Nat.le_of_ble_eq_true rfl⟩) (preS hKc hPc hDc) rfl rfl hl.1 rfl (lv_room (Nat.le_of_ble_eq_true rfl)) dX2_step_157 ⟨Nat.zero_le _, Nat.zero_le _⟩) hS (fun q _ h => hFc q h) hFc (fun ar41 ur41 tr41 H1 locs htr41 hvmr41 hw hB hz1 hk1 hS => ?_)
    obtain ⟨rfl, rfl⟩ := And.intro hw.1.symm hw.2.symm
    obtain ⟨hP1, hK1, hD1⟩ := hB
    rw [htr41] at hP1
    have hP : va_P (dC, dI) vwCl [(h_this, .inr (2, [.ref h_this_variables, .ref h_this_temporaries, .ref h_this_pile, .int v_this_size, .int v_this_calls, u_this_hasRun])), (h_this_pile, .inl (k_this_pile, 20, .inr (.inl (v_this_pile)))), (h_this_temporaries, .inl (k_this_temporaries, 100, .inr (.inl (v_this_temporaries)))), (h_this_variables, .inl (k_this_variables, 10, .inr (.inl (v_this_variables))))] H1 := keep0 hP hk1
    generalize H1 = H at hP hS ⊢
    clear hk1 hz1
    refine lv_if_eq (tgt := 172) hx hb dX2_step_160 (by decide) (fun c43 => ?_) (fun c43 => ?_)
    · have h := it_t h c43
      refine lv_lconst (v := 0) hx hb dX2_step_172 (by decide) ?_
      obtain ⟨⟨r44_this_pile, r44_this_size⟩, gr44, h⟩ := Option.bind_eq_some_iff.mp h
      try dsimp only at h
      have hPc := hP.sub (ws' := W_X2_push h_this h_this_pile k_this_pile (.ref h_this_variables) (.ref h_this_temporaries) (.int v_this_calls) u_this_hasRun v_this_pile v_this_size) [0, 1] rfl
      have hDc := hD.sub (ws' := W_X2_push h_this h_this_pile k_this_pile (.ref h_this_variables) (.ref h_this_temporaries) (.int v_this_calls) u_this_hasRun v_this_pile v_this_size) [0, 1] (by decide) rfl
      have hKc := hK.sub (tys' := [(k_this_pile, .long)]) [0] rfl
      have hFc := va_free (wc := W_X2_push h_this h_this_pile k_this_pile (.ref h_this_variables) (.ref h_this_temporaries) (.int v_this_calls) u_this_hasRun v_this_pile v_this_size) hD hS hA [0, 1] rfl
      refine va_callv (va_runV (As := [.long 0]) (rest := []) ⟨hx, hb, hml, hown, hts⟩ (c_X2_push l dC dI h_this h_this_pile k_this_pile (.ref h_this_variables) (.ref h_this_temporaries) (.int v_this_calls) u_this_hasRun H.size v_this_pile v_this_size 0 (r44_this_pile, r44_this_size) gr44) (cwV 1 hts gX2_step_X2_push rfl rfl rfl hd_X2_push ⟨Nat.le_of_ble_eq_true rfl, Nat.le_of_ble_eq_true rfl⟩) (preV hKc hPc hDc (va_recv hK hP (ci := 2) (q0 := 0) rfl rfl)) rfl rfl hl.1 rfl (lv_room (Nat.le_of_ble_eq_true rfl)) dX2_step_173 ⟨Nat.zero_le _, Nat.zero_le _⟩) hS (fun q _ h => hFc q h) hFc (fun ur44 tr44 H1 locs htr44 hvmr44 hw hB hz1 hk1 hS => ?_)
      obtain rfl := hw.symm
      obtain ⟨hP1, hK1, hD1⟩ := hB
      rw [htr44] at hP1
      obtain ⟨hP, hD⟩ := va_join (wr := [(h_this_temporaries, .inl (k_this_temporaries, 100, .inr (.inl (v_this_temporaries)))), (h_this_variables, .inl (k_this_variables, 10, .inr (.inl (v_this_variables))))]) (w1 := W_X2_push h_this h_this_pile k_this_pile (.ref h_this_variables) (.ref h_this_temporaries) (.int v_this_calls) u_this_hasRun r44_this_pile r44_this_size) hP hD [0, 1] [2, 3] rfl rfl (by decide) (by decide) hk1 hFc hP1 hD1
      have hP := hP.sub (ws' := [(h_this, .inr (2, [.ref h_this_variables, .ref h_this_temporaries, .ref h_this_pile, .int r44_this_size, .int v_this_calls, u_this_hasRun])), (h_this_pile, .inl (k_this_pile, 20, .inr (.inl (r44_this_pile)))), (h_this_temporaries, .inl (k_this_temporaries, 100, .inr (.inl (v_this_temporaries)))), (h_this_variables, .inl (k_this_variables, 10, .inr (.inl (v_this_variables))))]) [2, 3, 0, 1] rfl
      have hD := hD.sub (ws' := [(h_this, .inr (2, [.ref h_this_variables, .ref h_this_temporaries, .ref h_this_pile, .int r44_this_size, .int v_this_calls, u_this_hasRun])), (h_this_pile, .inl (k_this_pile, 20, .inr (.inl (r44_this_pile)))), (h_this_temporaries, .inl (k_this_temporaries, 100, .inr (.inl (v_this_temporaries)))), (h_this_variables, .inl (k_this_variables, 10, .inr (.inl (v_this_variables))))]) [2, 3, 0, 1] (by decide) rfl
      generalize H1 = H at hP hS ⊢
      clear hk1 hz1
      refine lv_iconst (v := 1) hx hb dX2_step_176 (by decide) ?_
      obtain rfl := Option.some.inj h
      exact W.zret (v := 1) hx hb hr (by decide) (fun t ht hW => ⟨⟨1, (v_this_calls, r44_this_pile, r44_this_size, v_this_temporaries, v_this_variables), rfl, ⟨rfl, rfl⟩, by rw [ht]; exact hP, va_K.moved hW.alike hK, hD⟩, hS.F ht⟩) hS.2.2 dX2_step_177
    · have h := it_f h c43
      refine lv_aload_n hx hb dX2_step_163 rfl (lv_at hl 0 rfl) ?_
      refine va_get (D := (dC, dI)) (ci := 2) (v := .ref h_this_temporaries) (C := RX2) (T := TX2) (N := 6) hx hb hts in_X2 hown hK hP 0 rfl rfl 1 (by decide) w_6 (fun _ h9 => h9) rfl dX2_step_164 ?_
      refine lv_iload_n hx hb dX2_step_167 rfl (lv_at hl 2 rfl) ?_
      obtain ⟨i46, h⟩ := ixd_ok h
      refine va_lald hx hb hK hP 2 1 rfl rfl i46 dX2_step_168 ?_
      refine lv_goto (tgt := 173) hx hb dX2_step_169 (by decide) ?_
      obtain ⟨⟨r47_this_pile, r47_this_size⟩, gr47, h⟩ := Option.bind_eq_some_iff.mp h
      try dsimp only at h
      have hPc := hP.sub (ws' := W_X2_push h_this h_this_pile k_this_pile (.ref h_this_variables) (.ref h_this_temporaries) (.int v_this_calls) u_this_hasRun v_this_pile v_this_size) [0, 1] rfl
      have hDc := hD.sub (ws' := W_X2_push h_this h_this_pile k_this_pile (.ref h_this_variables) (.ref h_this_temporaries) (.int v_this_calls) u_this_hasRun v_this_pile v_this_size) [0, 1] (by decide) rfl
      have hKc := hK.sub (tys' := [(k_this_pile, .long)]) [0] rfl
      have hFc := va_free (wc := W_X2_push h_this h_this_pile k_this_pile (.ref h_this_variables) (.ref h_this_temporaries) (.int v_this_calls) u_this_hasRun v_this_pile v_this_size) hD hS hA [0, 1] rfl
      refine va_callv (va_runV (As := [.long (v_this_temporaries a_p2.toNatClampNeg)]) (rest := []) ⟨hx, hb, hml, hown, hts⟩ (c_X2_push l dC dI h_this h_this_pile k_this_pile (.ref h_this_variables) (.ref h_this_temporaries) (.int v_this_calls) u_this_hasRun H.size v_this_pile v_this_size (v_this_temporaries a_p2.toNatClampNeg) (r47_this_pile, r47_this_size) gr47) (cwV 1 hts gX2_step_X2_push rfl rfl rfl hd_X2_push ⟨Nat.le_of_ble_eq_true rfl, Nat.le_of_ble_eq_true rfl⟩) (preV hKc hPc hDc (va_recv hK hP (ci := 2) (q0 := 0) rfl rfl)) rfl rfl hl.1 rfl (lv_room (Nat.le_of_ble_eq_true rfl)) dX2_step_173 ⟨Nat.zero_le _, Nat.zero_le _⟩) hS (fun q _ h => hFc q h) hFc (fun ur47 tr47 H1 locs htr47 hvmr47 hw hB hz1 hk1 hS => ?_)
      obtain rfl := hw.symm
      obtain ⟨hP1, hK1, hD1⟩ := hB
      rw [htr47] at hP1
      obtain ⟨hP, hD⟩ := va_join (wr := [(h_this_temporaries, .inl (k_this_temporaries, 100, .inr (.inl (v_this_temporaries)))), (h_this_variables, .inl (k_this_variables, 10, .inr (.inl (v_this_variables))))]) (w1 := W_X2_push h_this h_this_pile k_this_pile (.ref h_this_variables) (.ref h_this_temporaries) (.int v_this_calls) u_this_hasRun r47_this_pile r47_this_size) hP hD [0, 1] [2, 3] rfl rfl (by decide) (by decide) hk1 hFc hP1 hD1
      have hP := hP.sub (ws' := [(h_this, .inr (2, [.ref h_this_variables, .ref h_this_temporaries, .ref h_this_pile, .int r47_this_size, .int v_this_calls, u_this_hasRun])), (h_this_pile, .inl (k_this_pile, 20, .inr (.inl (r47_this_pile)))), (h_this_temporaries, .inl (k_this_temporaries, 100, .inr (.inl (v_this_temporaries)))), (h_this_variables, .inl (k_this_variables, 10, .inr (.inl (v_this_variables))))]) [2, 3, 0, 1] rfl
      have hD := hD.sub (ws' := [(h_this, .inr (2, [.ref h_this_variables, .ref h_this_temporaries, .ref h_this_pile, .int r47_this_size, .int v_this_calls, u_this_hasRun])), (h_this_pile, .inl (k_this_pile, 20, .inr (.inl (r47_this_pile)))), (h_this_temporaries, .inl (k_this_temporaries, 100, .inr (.inl (v_this_temporaries)))), (h_this_variables, .inl (k_this_variables, 10, .inr (.inl (v_this_variables))))]) [2, 3, 0, 1] (by decide) rfl
      generalize H1 = H at hP hS ⊢
      clear hk1 hz1
      refine lv_iconst (v := 1) hx hb dX2_step_176 (by decide) ?_
      obtain rfl := Option.some.inj h
      exact W.zret (v := 1) hx hb hr (by decide) (fun t ht hW => ⟨⟨1, (v_this_calls, r47_this_pile, r47_this_size, v_this_temporaries, v_this_variables), rfl, ⟨rfl, rfl⟩, by rw [ht]; exact hP, va_K.moved hW.alike hK, hD⟩, hS.F ht⟩) hS.2.2 dX2_step_177
  have h := it_f h s40
  by_cases s49 : a_p1 = 12
  · have h := it_t h s49
    refine lv_tableIn (tgt := 178) hx hb dX2_step_1 (by rw [s49]; decide) (by rw [s49]; decide) (by rw [s49]; rfl) (by decide) ?_
    refine lv_aload_n hx hb dX2_step_178 rfl (lv_at hl 0 rfl) ?_
    refine lv_iload_n hx hb dX2_step_179 rfl (lv_at hl 2 rfl) ?_
    refine lv_aload_n hx hb dX2_step_180 rfl (lv_at hl 0 rfl) ?_
    obtain ⟨⟨r50, r50_this_size⟩, gr50, h⟩ := Option.bind_eq_some_iff.mp h
    try dsimp only at h
    have hPc := hP.sub (ws' := W_X2_pop h_this h_this_pile k_this_pile (.ref h_this_variables) (.ref h_this_temporaries) (.int v_this_calls) u_this_hasRun v_this_pile v_this_size) [0, 1] rfl
    have hDc := hD.sub (ws' := W_X2_pop h_this h_this_pile k_this_pile (.ref h_this_variables) (.ref h_this_temporaries) (.int v_this_calls) u_this_hasRun v_this_pile v_this_size) [0, 1] (by decide) rfl
    have hKc := hK.sub (tys' := [(k_this_pile, .long)]) [0] rfl
    have hFc := va_free (wc := W_X2_pop h_this h_this_pile k_this_pile (.ref h_this_variables) (.ref h_this_temporaries) (.int v_this_calls) u_this_hasRun v_this_pile v_this_size) hD hS hA [0, 1] rfl
    refine va_calll (va_runV (As := []) (rest := [.int a_p2, .ref h_this]) ⟨hx, hb, hml, hown, hts⟩ (c_X2_pop l dC dI h_this h_this_pile k_this_pile (.ref h_this_variables) (.ref h_this_temporaries) (.int v_this_calls) u_this_hasRun H.size v_this_pile v_this_size (r50, r50_this_size) gr50) (cwV 0 hts gX2_step_X2_pop rfl rfl rfl hd_X2_pop ⟨Nat.le_of_ble_eq_true rfl, Nat.le_of_ble_eq_true rfl⟩) (preV hKc hPc hDc (va_recv hK hP (ci := 2) (q0 := 0) rfl rfl)) rfl rfl hl.1 rfl (lv_room (Nat.le_of_ble_eq_true rfl)) dX2_step_181 ⟨Nat.zero_le _, Nat.zero_le _⟩) hS (fun q _ h => hFc q h) hFc (fun ar50 ur50 tr50 H1 locs htr50 hvmr50 hw hB hz1 hk1 hS => ?_)
    obtain ⟨rfl, rfl⟩ := And.intro hw.1.symm hw.2.symm
    obtain ⟨hP1, hK1, hD1⟩ := hB
    rw [htr50] at hP1
    obtain ⟨hP, hD⟩ := va_join (wr := [(h_this_temporaries, .inl (k_this_temporaries, 100, .inr (.inl (v_this_temporaries)))), (h_this_variables, .inl (k_this_variables, 10, .inr (.inl (v_this_variables))))]) (w1 := W_X2_pop h_this h_this_pile k_this_pile (.ref h_this_variables) (.ref h_this_temporaries) (.int v_this_calls) u_this_hasRun v_this_pile r50_this_size) hP hD [0, 1] [2, 3] rfl rfl (by decide) (by decide) hk1 hFc hP1 hD1
    have hP := hP.sub (ws' := [(h_this, .inr (2, [.ref h_this_variables, .ref h_this_temporaries, .ref h_this_pile, .int r50_this_size, .int v_this_calls, u_this_hasRun])), (h_this_pile, .inl (k_this_pile, 20, .inr (.inl (v_this_pile)))), (h_this_temporaries, .inl (k_this_temporaries, 100, .inr (.inl (v_this_temporaries)))), (h_this_variables, .inl (k_this_variables, 10, .inr (.inl (v_this_variables))))]) [2, 3, 0, 1] rfl
    have hD := hD.sub (ws' := [(h_this, .inr (2, [.ref h_this_variables, .ref h_this_temporaries, .ref h_this_pile, .int r50_this_size, .int v_this_calls, u_this_hasRun])), (h_this_pile, .inl (k_this_pile, 20, .inr (.inl (v_this_pile)))), (h_this_temporaries, .inl (k_this_temporaries, 100, .inr (.inl (v_this_temporaries)))), (h_this_variables, .inl (k_this_variables, 10, .inr (.inl (v_this_variables))))]) [2, 3, 0, 1] (by decide) rfl
    generalize H1 = H at hP hS ⊢
    clear hk1 hz1
    obtain ⟨r52_this_temporaries, gr52, h⟩ := Option.bind_eq_some_iff.mp h
    try dsimp only at h
    have hPc := hP.sub (ws' := W_X2_setTemporary h_this h_this_temporaries k_this_temporaries (.ref h_this_variables) (.ref h_this_pile) (.int r50_this_size) (.int v_this_calls) u_this_hasRun v_this_temporaries) [0, 2] rfl
    have hDc := hD.sub (ws' := W_X2_setTemporary h_this h_this_temporaries k_this_temporaries (.ref h_this_variables) (.ref h_this_pile) (.int r50_this_size) (.int v_this_calls) u_this_hasRun v_this_temporaries) [0, 2] (by decide) rfl
    have hKc := hK.sub (tys' := [(k_this_temporaries, .long)]) [1] rfl
    have hFc := va_free (wc := W_X2_setTemporary h_this h_this_temporaries k_this_temporaries (.ref h_this_variables) (.ref h_this_pile) (.int r50_this_size) (.int v_this_calls) u_this_hasRun v_this_temporaries) hD hS hA [0, 2] rfl
    refine va_callv (va_runV (As := [.int a_p2, .long r50]) (rest := []) ⟨hx, hb, hml, hown, hts⟩ (c_X2_setTemporary l dC dI h_this h_this_temporaries k_this_temporaries (.ref h_this_variables) (.ref h_this_pile) (.int r50_this_size) (.int v_this_calls) u_this_hasRun H.size v_this_temporaries a_p2 r50 r52_this_temporaries gr52) (cwV 2 hts gX2_step_X2_setTemporary rfl rfl rfl hd_X2_setTemporary ⟨Nat.le_of_ble_eq_true rfl, Nat.le_of_ble_eq_true rfl⟩) (preV hKc hPc hDc (va_recv hK hP (ci := 2) (q0 := 0) rfl rfl)) rfl rfl hl.1 rfl (lv_room (Nat.le_of_ble_eq_true rfl)) dX2_step_184 ⟨Nat.zero_le _, Nat.zero_le _⟩) hS (fun q _ h => hFc q h) hFc (fun ur52 tr52 H1 locs htr52 hvmr52 hw hB hz1 hk1 hS => ?_)
    obtain rfl := hw.symm
    obtain ⟨hP1, hK1, hD1⟩ := hB
    rw [htr52] at hP1
    obtain ⟨hP, hD⟩ := va_join (wr := [(h_this_pile, .inl (k_this_pile, 20, .inr (.inl (v_this_pile)))), (h_this_variables, .inl (k_this_variables, 10, .inr (.inl (v_this_variables))))]) (w1 := W_X2_setTemporary h_this h_this_temporaries k_this_temporaries (.ref h_this_variables) (.ref h_this_pile) (.int r50_this_size) (.int v_this_calls) u_this_hasRun r52_this_temporaries) hP hD [0, 2] [1, 3] rfl rfl (by decide) (by decide) hk1 hFc hP1 hD1
    have hP := hP.sub (ws' := [(h_this, .inr (2, [.ref h_this_variables, .ref h_this_temporaries, .ref h_this_pile, .int r50_this_size, .int v_this_calls, u_this_hasRun])), (h_this_pile, .inl (k_this_pile, 20, .inr (.inl (v_this_pile)))), (h_this_temporaries, .inl (k_this_temporaries, 100, .inr (.inl (r52_this_temporaries)))), (h_this_variables, .inl (k_this_variables, 10, .inr (.inl (v_this_variables))))]) [2, 0, 3, 1] rfl
    have hD := hD.sub (ws' := [(h_this, .inr (2, [.ref h_this_variables, .ref h_this_temporaries, .ref h_this_pile, .int r50_this_size, .int v_this_calls, u_this_hasRun])), (h_this_pile, .inl (k_this_pile, 20, .inr (.inl (v_this_pile)))), (h_this_temporaries, .inl (k_this_temporaries, 100, .inr (.inl (r52_this_temporaries)))), (h_this_variables, .inl (k_this_variables, 10, .inr (.inl (v_this_variables))))]) [2, 0, 3, 1] (by decide) rfl
    generalize H1 = H at hP hS ⊢
    clear hk1 hz1
    refine lv_iconst (v := 1) hx hb dX2_step_187 (by decide) ?_
    obtain rfl := Option.some.inj h
    exact W.zret (v := 1) hx hb hr (by decide) (fun t ht hW => ⟨⟨1, (v_this_calls, v_this_pile, r50_this_size, r52_this_temporaries, v_this_variables), rfl, ⟨rfl, rfl⟩, by rw [ht]; exact hP, va_K.moved hW.alike hK, hD⟩, hS.F ht⟩) hS.2.2 dX2_step_188
  have h := it_f h s49
  refine lv_tableD (tgt := 189) hx hb dX2_step_1 (by decide) (fun h1 h2 => by have es1 := lv_neT (a := 0) s1 rfl; have es4 := lv_neT (a := 1) s4 rfl; have es13 := lv_neT (a := 2) s13 rfl; have es18 := lv_neT (a := 3) s18 rfl; have es25 := lv_neT (a := 4) s25 rfl; have es29 := lv_neT (a := 5) s29 rfl; have es34 := lv_neT (a := 6) s34 rfl; have es37 := lv_neT (a := 10) s37 rfl; have es40 := lv_neT (a := 11) s40 rfl; have es49 := lv_neT (a := 12) s49 rfl; have e9 : (a_p1 : Int32).toInt = 7 ∨ (a_p1 : Int32).toInt = 8 ∨ (a_p1 : Int32).toInt = 9 := (by omega); rcases e9 with e9 | e9 | e9 <;> (rw [e9]; rfl)) ?_
  refine lv_aload_n hx hb dX2_step_189 rfl (lv_at hl 0 rfl) ?_
  refine lv_iload_n hx hb dX2_step_190 rfl (lv_at hl 1 rfl) ?_
  obtain ⟨⟨r54_this_pile, r54_this_size⟩, gr54, h⟩ := Option.bind_eq_some_iff.mp h
  try dsimp only at h
  have hPc := hP.sub (ws' := W_X2_turn h_this h_this_pile k_this_pile (.ref h_this_variables) (.ref h_this_temporaries) (.int v_this_calls) u_this_hasRun v_this_pile v_this_size) [0, 1] rfl
  have hDc := hD.sub (ws' := W_X2_turn h_this h_this_pile k_this_pile (.ref h_this_variables) (.ref h_this_temporaries) (.int v_this_calls) u_this_hasRun v_this_pile v_this_size) [0, 1] (by decide) rfl
  have hKc := hK.sub (tys' := [(k_this_pile, .long)]) [0] rfl
  have hFc := va_free (wc := W_X2_turn h_this h_this_pile k_this_pile (.ref h_this_variables) (.ref h_this_temporaries) (.int v_this_calls) u_this_hasRun v_this_pile v_this_size) hD hS hA [0, 1] rfl
  refine va_callv (va_runV (As := [.int a_p1]) (rest := []) ⟨hx, hb, hml, hown, hts⟩ (c_X2_turn l dC dI h_this h_this_pile k_this_pile (.ref h_this_variables) (.ref h_this_temporaries) (.int v_this_calls) u_this_hasRun H.size v_this_pile v_this_size a_p1 (r54_this_pile, r54_this_size) gr54) (cwV 1 hts gX2_step_X2_turn rfl rfl rfl hd_X2_turn ⟨Nat.le_of_ble_eq_true rfl, Nat.le_of_ble_eq_true rfl⟩) (preV hKc hPc hDc (va_recv hK hP (ci := 2) (q0 := 0) rfl rfl)) rfl rfl hl.1 rfl (lv_room (Nat.le_of_ble_eq_true rfl)) dX2_step_191 ⟨Nat.zero_le _, Nat.zero_le _⟩) hS (fun q _ h => hFc q h) hFc (fun ur54 tr54 H1 locs htr54 hvmr54 hw hB hz1 hk1 hS => ?_)
  obtain rfl := hw.symm
  obtain ⟨hP1, hK1, hD1⟩ := hB
  rw [htr54] at hP1
  obtain ⟨hP, hD⟩ := va_join (wr := [(h_this_temporaries, .inl (k_this_temporaries, 100, .inr (.inl (v_this_temporaries)))), (h_this_variables, .inl (k_this_variables, 10, .inr (.inl (v_this_variables))))]) (w1 := W_X2_turn h_this h_this_pile k_this_pile (.ref h_this_variables) (.ref h_this_temporaries) (.int v_this_calls) u_this_hasRun r54_this_pile r54_this_size) hP hD [0, 1] [2, 3] rfl rfl (by decide) (by decide) hk1 hFc hP1 hD1
  have hP := hP.sub (ws' := [(h_this, .inr (2, [.ref h_this_variables, .ref h_this_temporaries, .ref h_this_pile, .int r54_this_size, .int v_this_calls, u_this_hasRun])), (h_this_pile, .inl (k_this_pile, 20, .inr (.inl (r54_this_pile)))), (h_this_temporaries, .inl (k_this_temporaries, 100, .inr (.inl (v_this_temporaries)))), (h_this_variables, .inl (k_this_variables, 10, .inr (.inl (v_this_variables))))]) [2, 3, 0, 1] rfl
  have hD := hD.sub (ws' := [(h_this, .inr (2, [.ref h_this_variables, .ref h_this_temporaries, .ref h_this_pile, .int r54_this_size, .int v_this_calls, u_this_hasRun])), (h_this_pile, .inl (k_this_pile, 20, .inr (.inl (r54_this_pile)))), (h_this_temporaries, .inl (k_this_temporaries, 100, .inr (.inl (v_this_temporaries)))), (h_this_variables, .inl (k_this_variables, 10, .inr (.inl (v_this_variables))))]) [2, 3, 0, 1] (by decide) rfl
  generalize H1 = H at hP hS ⊢
  clear hk1 hz1
  refine lv_iconst (v := 1) hx hb dX2_step_194 (by decide) ?_
  obtain rfl := Option.some.inj h
  exact W.zret (v := 1) hx hb hr (by decide) (fun t ht hW => ⟨⟨1, (v_this_calls, r54_this_pile, r54_this_size, v_this_temporaries, v_this_variables), rfl, ⟨rfl, rfl⟩, by rw [ht]; exact hP, va_K.moved hW.alike hK, hD⟩, hS.F ht⟩) hS.2.2 dX2_step_195
abbrev W_X2_works (h_p1 h_p1_kinds h_p1_numbers h_this h_this_pile h_this_temporaries h_this_variables : Nat) (k_p1_kinds k_p1_numbers k_this_pile k_this_temporaries k_this_variables : ClassId) (u_this_hasRun : Value) (v_p1_kinds : Nat → Int32) (v_p1_numbers : Nat → Int32) (v_p1_size : Int32) (v_this_calls : Int32) (v_this_pile : Nat → Int64) (v_this_size : Int32) (v_this_temporaries : Nat → Int64) (v_this_variables : Nat → Int64) : va_W := [(h_p1, .inr (0, [.ref h_p1_kinds, .ref h_p1_numbers, .int v_p1_size])), (h_p1_kinds, .inl (k_p1_kinds, 300, .inl (v_p1_kinds))), (h_p1_numbers, .inl (k_p1_numbers, 300, .inl (v_p1_numbers))), (h_this, .inr (2, [.ref h_this_variables, .ref h_this_temporaries, .ref h_this_pile, .int v_this_size, .int v_this_calls, u_this_hasRun])), (h_this_pile, .inl (k_this_pile, 20, .inr (.inl (v_this_pile)))), (h_this_temporaries, .inl (k_this_temporaries, 100, .inr (.inl (v_this_temporaries)))), (h_this_variables, .inl (k_this_variables, 10, .inr (.inl (v_this_variables))))]
def f_X2_works_B2 (n : Nat) (v_p1_kinds : Nat → Int32) (v_p1_numbers : Nat → Int32) (v_p1_size : Int32) (v_this_calls : Int32) (v_this_pile : Nat → Int64) (v_this_size : Int32) (v_this_temporaries : Nat → Int64) (v_this_variables : Nat → Int64) (l2 : Int32) : Option (Int32 × (Int32 × (Nat → Int64) × Int32 × (Nat → Int64) × (Nat → Int64))) := match n with
  | 0 => none
  | n + 1 => if v_p1_size ≤ l2 then some (1, (v_this_calls, v_this_pile, v_this_size, v_this_temporaries, v_this_variables)) else (f_X0_kindAt v_p1_kinds v_p1_size l2).bind fun q3 => (f_X0_numberAt v_p1_numbers v_p1_size l2).bind fun q5 => (f_X2_step v_this_calls v_this_pile v_this_size v_this_temporaries v_this_variables q3.1 q5.1).bind fun q7 => if q7.1 = 0 then some (0, (q7.2.1, q7.2.2.1, 0, q7.2.2.2.2.1, q7.2.2.2.2.2)) else f_X2_works_B2 n v_p1_kinds v_p1_numbers v_p1_size q7.2.1 q7.2.2.1 q7.2.2.2.1 q7.2.2.2.2.1 q7.2.2.2.2.2 (l2 + 1)
def f_X2_works (v_p1_kinds : Nat → Int32) (v_p1_numbers : Nat → Int32) (v_p1_size : Int32) (v_this_calls : Int32) (v_this_pile : Nat → Int64) (v_this_size : Int32) (v_this_temporaries : Nat → Int64) (v_this_variables : Nat → Int64) : Option (Int32 × (Int32 × (Nat → Int64) × Int32 × (Nat → Int64) × (Nat → Int64))) := f_X2_works_B2 FU v_p1_kinds v_p1_numbers v_p1_size v_this_calls v_this_pile v_this_size v_this_temporaries v_this_variables 0
theorem hdn_X2_works : yX2_works.cls ≠ "java/lang/invoke/MethodHandle" ∧ yX2_works.cls ≠ "java/lang/invoke/VarHandle" ∧ (parseMethodDescriptor yX2_works.desc).map (fun d => d.parameters.length) = some 1 := by decide +kernel
theorem hd_X2_works : yX2_works.cls = RX2 ∧ yX2_works.cls ≠ "java/lang/invoke/MethodHandle" ∧ yX2_works.cls ≠ "java/lang/invoke/VarHandle" ∧ (parseMethodDescriptor yX2_works.desc).map (fun d => d.parameters.length) = some 1 := ⟨rfl, hdn_X2_works⟩
set_option maxHeartbeats 4000000 in
set_option maxRecDepth 100000 in
theorem c_X2_works (l : Launch) (dC : Nat → ClassId) (dI : Nat → Nat → Nat) (adK adV : Nat → Nat) (h_p1 h_p1_kinds h_p1_numbers h_this h_this_pile h_this_temporaries h_this_variables : Nat) (k_p1_kinds k_p1_numbers k_this_pile k_this_temporaries k_this_variables : ClassId) (u_this_hasRun : Value) (sz : Nat) (v_p1_kinds : Nat → Int32) (v_p1_numbers : Nat → Int32) (v_p1_size : Int32) (v_this_calls : Int32) (v_this_pile : Nat → Int64) (v_this_size : Int32) (v_this_temporaries : Nat → Int64) (v_this_variables : Nat → Int64) (res : Int32 × (Int32 × (Nat → Int64) × Int32 × (Nat → Int64) × (Nat → Int64))) (hd : f_X2_works v_p1_kinds v_p1_numbers v_p1_size v_this_calls v_this_pile v_this_size v_this_temporaries v_this_variables = some res) : Met l yX2_works wsX2_works ({ frames := 3, cells := 0, slots := 0, locals := 71 }) (va_Pc [.ref h_this, .ref h_p1] (fun U => mPre dC dI (W_X2_works h_p1 h_p1_kinds h_p1_numbers h_this h_this_pile h_this_temporaries h_this_variables k_p1_kinds k_p1_numbers k_this_pile k_this_temporaries k_this_variables u_this_hasRun v_p1_kinds v_p1_numbers v_p1_size v_this_calls v_this_pile v_this_size v_this_temporaries v_this_variables) [(k_p1_kinds, .int), (k_p1_numbers, .int), (k_this_pile, .long), (k_this_temporaries, .long), (k_this_variables, .long)] sz U ∧ env adK adV (va_A (W_X2_works h_p1 h_p1_kinds h_p1_numbers h_this h_this_pile h_this_temporaries h_this_variables k_p1_kinds k_p1_numbers k_this_pile k_this_temporaries k_this_variables u_this_hasRun v_p1_kinds v_p1_numbers v_p1_size v_this_calls v_this_pile v_this_size v_this_temporaries v_this_variables) sz) U U.heap)) (va_Qi (fun (r : Int32) (u : Int32 × (Nat → Int64) × Int32 × (Nat → Int64) × (Nat → Int64)) => r = res.1 ∧ u = res.2) (fun (u : Int32 × (Nat → Int64) × Int32 × (Nat → Int64) × (Nat → Int64)) t => mPost dC dI (va_A (W_X2_works h_p1 h_p1_kinds h_p1_numbers h_this h_this_pile h_this_temporaries h_this_variables k_p1_kinds k_p1_numbers k_this_pile k_this_temporaries k_this_variables u_this_hasRun v_p1_kinds v_p1_numbers v_p1_size v_this_calls v_this_pile v_this_size v_this_temporaries v_this_variables) sz) (W_X2_works h_p1 h_p1_kinds h_p1_numbers h_this h_this_pile h_this_temporaries h_this_variables k_p1_kinds k_p1_numbers k_this_pile k_this_temporaries k_this_variables u_this_hasRun v_p1_kinds v_p1_numbers v_p1_size u.1 u.2.1 u.2.2.1 u.2.2.2.1 u.2.2.2.2) [(k_p1_kinds, .int), (k_p1_numbers, .int), (k_this_pile, .long), (k_this_temporaries, .long), (k_this_variables, .long)] t) (va_A (W_X2_works h_p1 h_p1_kinds h_p1_numbers h_this h_this_pile h_this_temporaries h_this_variables k_p1_kinds k_p1_numbers k_this_pile k_this_temporaries k_this_variables u_this_hasRun v_p1_kinds v_p1_numbers v_p1_size v_this_calls v_this_pile v_this_size v_this_temporaries v_this_variables) sz)) 0 0 (va_A (W_X2_works h_p1 h_p1_kinds h_p1_numbers h_this h_this_pile h_this_temporaries h_this_variables k_p1_kinds k_p1_numbers k_this_pile k_this_temporaries k_this_variables u_this_hasRun v_p1_kinds v_p1_numbers v_p1_size v_this_calls v_this_pile v_this_size v_this_temporaries v_this_variables) sz) := by
  refine Met.ofW (cc := cX2_works) (maxL := 3) (ret := (some .boolean)) (by decide) rfl ?_
  intro p e s m args below meth c s₁ B hml hv
  obtain ⟨rfl, ⟨hsz, hP, hK, hD0⟩, hE⟩ := hv
  have hx := B.exec
  have hb := B.bytes
  have hr := B.returns
  have hts := atoms_spec (ws := wsX2_works) B.pre
  have hown : s.vm.findClass RX2 = some m.cls := findClass_of_methodNamed B.named
  have hlocks := B.notSynchronized
  have w_1 := hts (.fieldLink RX2 21 "TermPile$Machine" "size" "I") (by decide +kernel)
  have in_X0 : ∀ w ∈ wsX00, w ∈ wsX2_works := by decide +kernel
  have in_X2 : ∀ w ∈ wsX20, w ∈ wsX2_works := by decide +kernel
  subst hsz
  have hD := hD0.self (sz := s.heap.size)
  generalize hAe : va_A (W_X2_works h_p1 h_p1_kinds h_p1_numbers h_this h_this_pile h_this_temporaries h_this_variables k_p1_kinds k_p1_numbers k_this_pile k_this_temporaries k_this_variables u_this_hasRun v_p1_kinds v_p1_numbers v_p1_size v_this_calls v_this_pile v_this_size v_this_temporaries v_this_variables) s.heap.size = A at hD hE ⊢
  have hA : ∀ q : Nat, s.heap.size ≤ q → A q := fun q h => by rw [← hAe]; exact Or.inr h
  clear hAe hD0
  have hS : va_S A s.heap s.heap [] := va_S.rf
  have hP : va_P (dC, dI) vwCl [(h_p1, .inr (0, [.ref h_p1_kinds, .ref h_p1_numbers, .int v_p1_size])), (h_p1_kinds, .inl (k_p1_kinds, 300, .inl (v_p1_kinds))), (h_p1_numbers, .inl (k_p1_numbers, 300, .inl (v_p1_numbers))), (h_this, .inr (2, [.ref h_this_variables, .ref h_this_temporaries, .ref h_this_pile, .int v_this_size, .int v_this_calls, u_this_hasRun])), (h_this_pile, .inl (k_this_pile, 20, .inr (.inl (v_this_pile)))), (h_this_temporaries, .inl (k_this_temporaries, 100, .inr (.inl (v_this_temporaries)))), (h_this_variables, .inl (k_this_variables, 10, .inr (.inl (v_this_variables))))] s.heap := hP
  have hD : va_D A [(h_p1, .inr (0, [.ref h_p1_kinds, .ref h_p1_numbers, .int v_p1_size])), (h_p1_kinds, .inl (k_p1_kinds, 300, .inl (v_p1_kinds))), (h_p1_numbers, .inl (k_p1_numbers, 300, .inl (v_p1_numbers))), (h_this, .inr (2, [.ref h_this_variables, .ref h_this_temporaries, .ref h_this_pile, .int v_this_size, .int v_this_calls, u_this_hasRun])), (h_this_pile, .inl (k_this_pile, 20, .inr (.inl (v_this_pile)))), (h_this_temporaries, .inl (k_this_temporaries, 100, .inr (.inl (v_this_temporaries)))), (h_this_variables, .inl (k_this_variables, 10, .inr (.inl (v_this_variables))))] := hD
  have B2 : ∀ n : Nat, ∀ (v_p1_kinds : Nat → Int32) (v_p1_numbers : Nat → Int32) (v_p1_size : Int32) (v_this_calls : Int32) (v_this_pile : Nat → Int64) (v_this_size : Int32) (v_this_temporaries : Nat → Int64) (v_this_variables : Nat → Int64) (l2 : Int32) (H : Heap) (locs : List Loc) (ls : Array Slot), f_X2_works_B2 n v_p1_kinds v_p1_numbers v_p1_size v_this_calls v_this_pile v_this_size v_this_temporaries v_this_variables l2 = some res → va_P (dC, dI) vwCl [(h_p1, .inr (0, [.ref h_p1_kinds, .ref h_p1_numbers, .int v_p1_size])), (h_p1_kinds, .inl (k_p1_kinds, 300, .inl (v_p1_kinds))), (h_p1_numbers, .inl (k_p1_numbers, 300, .inl (v_p1_numbers))), (h_this, .inr (2, [.ref h_this_variables, .ref h_this_temporaries, .ref h_this_pile, .int v_this_size, .int v_this_calls, u_this_hasRun])), (h_this_pile, .inl (k_this_pile, 20, .inr (.inl (v_this_pile)))), (h_this_temporaries, .inl (k_this_temporaries, 100, .inr (.inl (v_this_temporaries)))), (h_this_variables, .inl (k_this_variables, 10, .inr (.inl (v_this_variables))))] H → va_D A [(h_p1, .inr (0, [.ref h_p1_kinds, .ref h_p1_numbers, .int v_p1_size])), (h_p1_kinds, .inl (k_p1_kinds, 300, .inl (v_p1_kinds))), (h_p1_numbers, .inl (k_p1_numbers, 300, .inl (v_p1_numbers))), (h_this, .inr (2, [.ref h_this_variables, .ref h_this_temporaries, .ref h_this_pile, .int v_this_size, .int v_this_calls, u_this_hasRun])), (h_this_pile, .inl (k_this_pile, 20, .inr (.inl (v_this_pile)))), (h_this_temporaries, .inl (k_this_temporaries, 100, .inr (.inl (v_this_temporaries)))), (h_this_variables, .inl (k_this_variables, 10, .inr (.inl (v_this_variables))))] → va_S A s.heap H locs → lv_has ls 3 [(0, .ref h_this), (1, .ref h_p1), (2, .int l2)] → W p l e (headSpec wsX2_works ({ frames := 3, cells := 0, slots := 0, locals := 71 })).room s m [.ref h_this, .ref h_p1].toArray below meth c H locs 0 0 (MQ below (va_Qi (fun (r : Int32) (u : Int32 × (Nat → Int64) × Int32 × (Nat → Int64) × (Nat → Int64)) => r = res.1 ∧ u = res.2) (fun (u : Int32 × (Nat → Int64) × Int32 × (Nat → Int64) × (Nat → Int64)) t => mPost dC dI A (W_X2_works h_p1 h_p1_kinds h_p1_numbers h_this h_this_pile h_this_temporaries h_this_variables k_p1_kinds k_p1_numbers k_this_pile k_this_temporaries k_this_variables u_this_hasRun v_p1_kinds v_p1_numbers v_p1_size u.1 u.2.1 u.2.2.1 u.2.2.2.1 u.2.2.2.2) [(k_p1_kinds, .int), (k_p1_numbers, .int), (k_this_pile, .long), (k_this_temporaries, .long), (k_this_variables, .long)] t) A) [.ref h_this, .ref h_p1].toArray s 0 0 A) (F0 m 2 ls []) := by
    intro n
    clear hP hD hS hd
    induction n with
    | zero => intro v_p1_kinds v_p1_numbers v_p1_size v_this_calls v_this_pile v_this_size v_this_temporaries v_this_variables l2 H locs ls h; exact absurd h (by rw [f_X2_works_B2]; exact fun z => nomatch z)
    | succ n ih2 =>
      intro v_p1_kinds v_p1_numbers v_p1_size v_this_calls v_this_pile v_this_size v_this_temporaries v_this_variables l2 H locs ls h hP hD hS hl
      rw [f_X2_works_B2] at h
      refine lv_iload_n hx hb dX2_works_2 rfl (lv_at hl 2 rfl) ?_
      refine lv_aload_n hx hb dX2_works_3 rfl (lv_at hl 1 rfl) ?_
      refine va_getN (D := (dC, dI)) (ci := 0) (v := .int v_p1_size) (C := RX0) (T := TX0) (N := 3) hx hb hts in_X0 hown hK hP 0 rfl rfl 2 (by decide) (va_Nw.use rfl (hE.1 _ (nz_X2_32 : _ ∈ nzL))) (fun _ h9 => h9) rfl dX2_works_4 ?_
      refine lv_icmp_ge (tgt := 40) hx hb dX2_works_7 (by decide) (fun c1 => ?_) (fun c1 => ?_)
      · have h := it_t h c1
        refine lv_iconst (v := 1) hx hb dX2_works_40 (by decide) ?_
        obtain rfl := Option.some.inj h
        exact W.zret (v := 1) hx hb hr (by decide) (fun t ht hW => ⟨⟨1, (v_this_calls, v_this_pile, v_this_size, v_this_temporaries, v_this_variables), rfl, ⟨rfl, rfl⟩, by rw [ht]; exact hP, va_K.moved hW.alike hK, hD⟩, hS.F ht⟩) hS.2.2 dX2_works_41
      · have h := it_f h c1
        refine lv_aload_n hx hb dX2_works_10 rfl (lv_at hl 0 rfl) ?_
        refine lv_aload_n hx hb dX2_works_11 rfl (lv_at hl 1 rfl) ?_
        refine lv_iload_n hx hb dX2_works_12 rfl (lv_at hl 2 rfl) ?_
        obtain ⟨⟨r2, ⟨⟩⟩, gr2, h⟩ := Option.bind_eq_some_iff.mp h
        try dsimp only at h
        have hPc := hP.sub (ws' := W_X0_kindAt h_p1 h_p1_kinds k_p1_kinds (.ref h_p1_numbers) v_p1_kinds v_p1_size) [0, 1] rfl
        have hDc := hD.sub (ws' := W_X0_kindAt h_p1 h_p1_kinds k_p1_kinds (.ref h_p1_numbers) v_p1_kinds v_p1_size) [0, 1] (by decide) rfl
        have hKc := hK.sub (tys' := [(k_p1_kinds, .int)]) [0] rfl
        have hFc := va_free (wc := W_X0_kindAt h_p1 h_p1_kinds k_p1_kinds (.ref h_p1_numbers) v_p1_kinds v_p1_size) hD hS hA [0, 1] rfl
        refine va_calli (va_runV (As := [.int l2]) (rest := [.ref h_this]) ⟨hx, hb, hml, hown, hts⟩ (c_X0_kindAt l dC dI h_p1 h_p1_kinds k_p1_kinds (.ref h_p1_numbers) H.size v_p1_kinds v_p1_size l2 (r2, ()) gr2) (cwV 1 hts gX2_works_X0_kindAt rfl rfl rfl hd_X0_kindAt ⟨Nat.le_of_ble_eq_true rfl, Nat.le_of_ble_eq_true rfl⟩) (preV hKc hPc hDc (va_recv hK hP (ci := 0) (q0 := 0) rfl rfl)) rfl rfl hl.1 rfl (lv_room (Nat.le_of_ble_eq_true rfl)) dX2_works_13 ⟨Nat.zero_le _, Nat.zero_le _⟩) hS (fun q _ h => hFc q h) hFc (fun ar2 ur2 tr2 H1 locs htr2 hvmr2 hw hB hz1 hk1 hS => ?_)
        obtain ⟨rfl, rfl⟩ := And.intro hw.1.symm hw.2.symm
        obtain ⟨hP1, hK1, hD1⟩ := hB
        rw [htr2] at hP1
        obtain ⟨hP, hD⟩ := va_join (wr := [(h_p1_numbers, .inl (k_p1_numbers, 300, .inl (v_p1_numbers))), (h_this, .inr (2, [.ref h_this_variables, .ref h_this_temporaries, .ref h_this_pile, .int v_this_size, .int v_this_calls, u_this_hasRun])), (h_this_pile, .inl (k_this_pile, 20, .inr (.inl (v_this_pile)))), (h_this_temporaries, .inl (k_this_temporaries, 100, .inr (.inl (v_this_temporaries)))), (h_this_variables, .inl (k_this_variables, 10, .inr (.inl (v_this_variables))))]) (w1 := W_X0_kindAt h_p1 h_p1_kinds k_p1_kinds (.ref h_p1_numbers) v_p1_kinds v_p1_size) hP hD [0, 1] [2, 3, 4, 5, 6] rfl rfl (by decide) (by decide) hk1 hFc hP1 hD1
        have hP := hP.sub (ws' := [(h_p1, .inr (0, [.ref h_p1_kinds, .ref h_p1_numbers, .int v_p1_size])), (h_p1_kinds, .inl (k_p1_kinds, 300, .inl (v_p1_kinds))), (h_p1_numbers, .inl (k_p1_numbers, 300, .inl (v_p1_numbers))), (h_this, .inr (2, [.ref h_this_variables, .ref h_this_temporaries, .ref h_this_pile, .int v_this_size, .int v_this_calls, u_this_hasRun])), (h_this_pile, .inl (k_this_pile, 20, .inr (.inl (v_this_pile)))), (h_this_temporaries, .inl (k_this_temporaries, 100, .inr (.inl (v_this_temporaries)))), (h_this_variables, .inl (k_this_variables, 10, .inr (.inl (v_this_variables))))]) [5, 6, 0, 1, 2, 3, 4] rfl
        have hD := hD.sub (ws' := [(h_p1, .inr (0, [.ref h_p1_kinds, .ref h_p1_numbers, .int v_p1_size])), (h_p1_kinds, .inl (k_p1_kinds, 300, .inl (v_p1_kinds))), (h_p1_numbers, .inl (k_p1_numbers, 300, .inl (v_p1_numbers))), (h_this, .inr (2, [.ref h_this_variables, .ref h_this_temporaries, .ref h_this_pile, .int v_this_size, .int v_this_calls, u_this_hasRun])), (h_this_pile, .inl (k_this_pile, 20, .inr (.inl (v_this_pile)))), (h_this_temporaries, .inl (k_this_temporaries, 100, .inr (.inl (v_this_temporaries)))), (h_this_variables, .inl (k_this_variables, 10, .inr (.inl (v_this_variables))))]) [5, 6, 0, 1, 2, 3, 4] (by decide) rfl
        generalize H1 = H at hP hS ⊢
        clear hk1 hz1
        refine lv_aload_n hx hb dX2_works_16 rfl (lv_at hl 1 rfl) ?_
        refine lv_iload_n hx hb dX2_works_17 rfl (lv_at hl 2 rfl) ?_
        obtain ⟨⟨r4, ⟨⟩⟩, gr4, h⟩ := Option.bind_eq_some_iff.mp h
        try dsimp only at h
        have hPc := hP.sub (ws' := W_X0_numberAt h_p1 h_p1_numbers k_p1_numbers (.ref h_p1_kinds) v_p1_numbers v_p1_size) [0, 2] rfl
        have hDc := hD.sub (ws' := W_X0_numberAt h_p1 h_p1_numbers k_p1_numbers (.ref h_p1_kinds) v_p1_numbers v_p1_size) [0, 2] (by decide) rfl
        have hKc := hK.sub (tys' := [(k_p1_numbers, .int)]) [1] rfl
        have hFc := va_free (wc := W_X0_numberAt h_p1 h_p1_numbers k_p1_numbers (.ref h_p1_kinds) v_p1_numbers v_p1_size) hD hS hA [0, 2] rfl
        refine va_calli (va_runV (As := [.int l2]) (rest := [.int r2, .ref h_this]) ⟨hx, hb, hml, hown, hts⟩ (c_X0_numberAt l dC dI h_p1 h_p1_numbers k_p1_numbers (.ref h_p1_kinds) H.size v_p1_numbers v_p1_size l2 (r4, ()) gr4) (cwV 1 hts gX2_works_X0_numberAt rfl rfl rfl hd_X0_numberAt ⟨Nat.le_of_ble_eq_true rfl, Nat.le_of_ble_eq_true rfl⟩) (preV hKc hPc hDc (va_recv hK hP (ci := 0) (q0 := 0) rfl rfl)) rfl rfl hl.1 rfl (lv_room (Nat.le_of_ble_eq_true rfl)) dX2_works_18 ⟨Nat.zero_le _, Nat.zero_le _⟩) hS (fun q _ h => hFc q h) hFc (fun ar4 ur4 tr4 H1 locs htr4 hvmr4 hw hB hz1 hk1 hS => ?_)
        obtain ⟨rfl, rfl⟩ := And.intro hw.1.symm hw.2.symm
        obtain ⟨hP1, hK1, hD1⟩ := hB
        rw [htr4] at hP1
        obtain ⟨hP, hD⟩ := va_join (wr := [(h_p1_kinds, .inl (k_p1_kinds, 300, .inl (v_p1_kinds))), (h_this, .inr (2, [.ref h_this_variables, .ref h_this_temporaries, .ref h_this_pile, .int v_this_size, .int v_this_calls, u_this_hasRun])), (h_this_pile, .inl (k_this_pile, 20, .inr (.inl (v_this_pile)))), (h_this_temporaries, .inl (k_this_temporaries, 100, .inr (.inl (v_this_temporaries)))), (h_this_variables, .inl (k_this_variables, 10, .inr (.inl (v_this_variables))))]) (w1 := W_X0_numberAt h_p1 h_p1_numbers k_p1_numbers (.ref h_p1_kinds) v_p1_numbers v_p1_size) hP hD [0, 2] [1, 3, 4, 5, 6] rfl rfl (by decide) (by decide) hk1 hFc hP1 hD1
        have hP := hP.sub (ws' := [(h_p1, .inr (0, [.ref h_p1_kinds, .ref h_p1_numbers, .int v_p1_size])), (h_p1_kinds, .inl (k_p1_kinds, 300, .inl (v_p1_kinds))), (h_p1_numbers, .inl (k_p1_numbers, 300, .inl (v_p1_numbers))), (h_this, .inr (2, [.ref h_this_variables, .ref h_this_temporaries, .ref h_this_pile, .int v_this_size, .int v_this_calls, u_this_hasRun])), (h_this_pile, .inl (k_this_pile, 20, .inr (.inl (v_this_pile)))), (h_this_temporaries, .inl (k_this_temporaries, 100, .inr (.inl (v_this_temporaries)))), (h_this_variables, .inl (k_this_variables, 10, .inr (.inl (v_this_variables))))]) [5, 0, 6, 1, 2, 3, 4] rfl
        have hD := hD.sub (ws' := [(h_p1, .inr (0, [.ref h_p1_kinds, .ref h_p1_numbers, .int v_p1_size])), (h_p1_kinds, .inl (k_p1_kinds, 300, .inl (v_p1_kinds))), (h_p1_numbers, .inl (k_p1_numbers, 300, .inl (v_p1_numbers))), (h_this, .inr (2, [.ref h_this_variables, .ref h_this_temporaries, .ref h_this_pile, .int v_this_size, .int v_this_calls, u_this_hasRun])), (h_this_pile, .inl (k_this_pile, 20, .inr (.inl (v_this_pile)))), (h_this_temporaries, .inl (k_this_temporaries, 100, .inr (.inl (v_this_temporaries)))), (h_this_variables, .inl (k_this_variables, 10, .inr (.inl (v_this_variables))))]) [5, 0, 6, 1, 2, 3, 4] (by decide) rfl
        generalize H1 = H at hP hS ⊢
        clear hk1 hz1
        obtain ⟨⟨r6, ⟨r6_this_calls, r6_this_pile, r6_this_size, r6_this_temporaries, r6_this_variables⟩⟩, gr6, h⟩ := Option.bind_eq_some_iff.mp h
        try dsimp only at h
        have hPc := hP.sub (ws' := W_X2_step h_this h_this_pile h_this_temporaries h_this_variables k_this_pile k_this_temporaries k_this_variables u_this_hasRun v_this_calls v_this_pile v_this_size v_this_temporaries v_this_variables) [3, 4, 5, 6] rfl
        have hDc := hD.sub (ws' := W_X2_step h_this h_this_pile h_this_temporaries h_this_variables k_this_pile k_this_temporaries k_this_variables u_this_hasRun v_this_calls v_this_pile v_this_size v_this_temporaries v_this_variables) [3, 4, 5, 6] (by decide) rfl
        have hKc := hK.sub (tys' := [(k_this_pile, .long), (k_this_temporaries, .long), (k_this_variables, .long)]) [2, 3, 4] rfl
        have hFc := va_free (wc := W_X2_step h_this h_this_pile h_this_temporaries h_this_variables k_this_pile k_this_temporaries k_this_variables u_this_hasRun v_this_calls v_this_pile v_this_size v_this_temporaries v_this_variables) hD hS hA [3, 4, 5, 6] rfl
        refine va_calli (va_runV (As := [.int r2, .int r4]) (rest := []) ⟨hx, hb, hml, hown, hts⟩ (c_X2_step l dC dI adK adV h_this h_this_pile h_this_temporaries h_this_variables k_this_pile k_this_temporaries k_this_variables u_this_hasRun H.size v_this_calls v_this_pile v_this_size v_this_temporaries v_this_variables r2 r4 (r6, (r6_this_calls, r6_this_pile, r6_this_size, r6_this_temporaries, r6_this_variables)) gr6) (cwV 2 hts gX2_works_X2_step rfl rfl rfl hd_X2_step ⟨Nat.le_of_ble_eq_true rfl, Nat.le_of_ble_eq_true rfl⟩) (preVE hKc hPc hDc (va_recv hK hP (ci := 2) (q0 := 3) rfl rfl) (fun U hU hW => envp hE hS hFc hU hW)) rfl rfl hl.1 rfl (lv_room (Nat.le_of_ble_eq_true rfl)) dX2_works_21 ⟨Nat.zero_le _, Nat.zero_le _⟩) hS (fun q _ h => hFc q h) hFc (fun ar6 ur6 tr6 H1 locs htr6 hvmr6 hw hB hz1 hk1 hS => ?_)
        obtain ⟨rfl, rfl⟩ := And.intro hw.1.symm hw.2.symm
        obtain ⟨hP1, hK1, hD1⟩ := hB
        rw [htr6] at hP1
        obtain ⟨hP, hD⟩ := va_join (wr := [(h_p1, .inr (0, [.ref h_p1_kinds, .ref h_p1_numbers, .int v_p1_size])), (h_p1_kinds, .inl (k_p1_kinds, 300, .inl (v_p1_kinds))), (h_p1_numbers, .inl (k_p1_numbers, 300, .inl (v_p1_numbers)))]) (w1 := W_X2_step h_this h_this_pile h_this_temporaries h_this_variables k_this_pile k_this_temporaries k_this_variables u_this_hasRun r6_this_calls r6_this_pile r6_this_size r6_this_temporaries r6_this_variables) hP hD [3, 4, 5, 6] [0, 1, 2] rfl rfl (by decide) (by decide) hk1 hFc hP1 hD1
        have hP := hP.sub (ws' := [(h_p1, .inr (0, [.ref h_p1_kinds, .ref h_p1_numbers, .int v_p1_size])), (h_p1_kinds, .inl (k_p1_kinds, 300, .inl (v_p1_kinds))), (h_p1_numbers, .inl (k_p1_numbers, 300, .inl (v_p1_numbers))), (h_this, .inr (2, [.ref h_this_variables, .ref h_this_temporaries, .ref h_this_pile, .int r6_this_size, .int r6_this_calls, u_this_hasRun])), (h_this_pile, .inl (k_this_pile, 20, .inr (.inl (r6_this_pile)))), (h_this_temporaries, .inl (k_this_temporaries, 100, .inr (.inl (r6_this_temporaries)))), (h_this_variables, .inl (k_this_variables, 10, .inr (.inl (r6_this_variables))))]) [0, 1, 2, 3, 4, 5, 6] rfl
        have hD := hD.sub (ws' := [(h_p1, .inr (0, [.ref h_p1_kinds, .ref h_p1_numbers, .int v_p1_size])), (h_p1_kinds, .inl (k_p1_kinds, 300, .inl (v_p1_kinds))), (h_p1_numbers, .inl (k_p1_numbers, 300, .inl (v_p1_numbers))), (h_this, .inr (2, [.ref h_this_variables, .ref h_this_temporaries, .ref h_this_pile, .int r6_this_size, .int r6_this_calls, u_this_hasRun])), (h_this_pile, .inl (k_this_pile, 20, .inr (.inl (r6_this_pile)))), (h_this_temporaries, .inl (k_this_temporaries, 100, .inr (.inl (r6_this_temporaries)))), (h_this_variables, .inl (k_this_variables, 10, .inr (.inl (r6_this_variables))))]) [0, 1, 2, 3, 4, 5, 6] (by decide) rfl
        generalize H1 = H at hP hS ⊢
        clear hk1 hz1
        refine lv_if_ne (tgt := 34) hx hb dX2_works_24 (by decide) (fun c8 => ?_) (fun c8 => ?_)
        · have h := it_f h c8
          refine lv_iinc (v := l2 + 1) (lv' := [(2, .int (l2 + 1)), (0, .ref h_this), (1, .ref h_p1)]) hx hb dX2_works_34 hl (k := 2) rfl rfl (by decide) rfl (fun ls hl => ?_)
          refine lv_goto (tgt := 2) hx hb dX2_works_37 (by decide) ?_
          exact ih2 v_p1_kinds v_p1_numbers v_p1_size r6_this_calls r6_this_pile r6_this_size r6_this_temporaries r6_this_variables (l2 + 1) H locs ls h hP hD hS (lv_sub hl [1, 2, 0] rfl)
        · have h := it_t h c8
          refine lv_aload_n hx hb dX2_works_27 rfl (lv_at hl 0 rfl) ?_
          refine lv_iconst (v := 0) hx hb dX2_works_28 (by decide) ?_
          refine va_put (D := (dC, dI)) (ci := 2) (v := .int 0) (ty := .int) (C := RX2) (T := TX2) (N := 6) hx hb hts in_X2 tyX2 tyX2_ok nmX2 hown hK hP hD hS 3 rfl rfl 3 (by decide) w_1 (fun _ h9 => h9) rfl (by decide +kernel) rfl rfl (Nat.le_of_ble_eq_true rfl) dX2_works_29 (fun H locs hP hD hS => ?_)
          have hP : va_P (dC, dI) vwCl [(h_p1, .inr (0, [.ref h_p1_kinds, .ref h_p1_numbers, .int v_p1_size])), (h_p1_kinds, .inl (k_p1_kinds, 300, .inl (v_p1_kinds))), (h_p1_numbers, .inl (k_p1_numbers, 300, .inl (v_p1_numbers))), (h_this, .inr (2, [.ref h_this_variables, .ref h_this_temporaries, .ref h_this_pile, .int 0, .int r6_this_calls, u_this_hasRun])), (h_this_pile, .inl (k_this_pile, 20, .inr (.inl (r6_this_pile)))), (h_this_temporaries, .inl (k_this_temporaries, 100, .inr (.inl (r6_this_temporaries)))), (h_this_variables, .inl (k_this_variables, 10, .inr (.inl (r6_this_variables))))] H := hP
          have hD : va_D A [(h_p1, .inr (0, [.ref h_p1_kinds, .ref h_p1_numbers, .int v_p1_size])), (h_p1_kinds, .inl (k_p1_kinds, 300, .inl (v_p1_kinds))), (h_p1_numbers, .inl (k_p1_numbers, 300, .inl (v_p1_numbers))), (h_this, .inr (2, [.ref h_this_variables, .ref h_this_temporaries, .ref h_this_pile, .int 0, .int r6_this_calls, u_this_hasRun])), (h_this_pile, .inl (k_this_pile, 20, .inr (.inl (r6_this_pile)))), (h_this_temporaries, .inl (k_this_temporaries, 100, .inr (.inl (r6_this_temporaries)))), (h_this_variables, .inl (k_this_variables, 10, .inr (.inl (r6_this_variables))))] := hD
          refine lv_iconst (v := 0) hx hb dX2_works_32 (by decide) ?_
          obtain rfl := Option.some.inj h
          exact W.zret (v := 0) hx hb hr (by decide) (fun t ht hW => ⟨⟨0, (r6_this_calls, r6_this_pile, 0, r6_this_temporaries, r6_this_variables), rfl, ⟨rfl, rfl⟩, by rw [ht]; exact hP, va_K.moved hW.alike hK, hD⟩, hS.F ht⟩) hS.2.2 dX2_works_33
  have hl := lv_entry ([.ref h_this, .ref h_p1]) (n := 3) (Nat.le_of_ble_eq_true rfl)
  rw [lg_entry_eq]
  generalize (lg_sl ([.ref h_this, .ref h_p1]) ++ List.replicate (3 - (lg_sl ([.ref h_this, .ref h_p1])).length) Slot.unset).toArray = ls at hl ⊢
  have hl : lv_has ls 3 [(0, .ref h_this), (1, .ref h_p1)] := hl
  have h := hd
  unfold f_X2_works at h
  obtain ⟨H, hHe⟩ : ∃ H, H = s.heap := ⟨_, rfl⟩
  obtain ⟨locs, hLe⟩ : ∃ L : List Loc, L = [] := ⟨_, rfl⟩
  have hS : va_S A s.heap H locs := by rw [hHe, hLe]; exact hS
  have hP : va_P (dC, dI) vwCl [(h_p1, .inr (0, [.ref h_p1_kinds, .ref h_p1_numbers, .int v_p1_size])), (h_p1_kinds, .inl (k_p1_kinds, 300, .inl (v_p1_kinds))), (h_p1_numbers, .inl (k_p1_numbers, 300, .inl (v_p1_numbers))), (h_this, .inr (2, [.ref h_this_variables, .ref h_this_temporaries, .ref h_this_pile, .int v_this_size, .int v_this_calls, u_this_hasRun])), (h_this_pile, .inl (k_this_pile, 20, .inr (.inl (v_this_pile)))), (h_this_temporaries, .inl (k_this_temporaries, 100, .inr (.inl (v_this_temporaries)))), (h_this_variables, .inl (k_this_variables, 10, .inr (.inl (v_this_variables))))] H := by rw [hHe]; exact hP
  rw [show W p l e (headSpec wsX2_works ({ frames := 3, cells := 0, slots := 0, locals := 71 })).room s m [.ref h_this, .ref h_p1].toArray below meth c s.heap [] 0 0 = W p l e (headSpec wsX2_works ({ frames := 3, cells := 0, slots := 0, locals := 71 })).room s m [.ref h_this, .ref h_p1].toArray below meth c H locs 0 0 by rw [hHe, hLe]]
  clear hHe hLe
  refine lv_iconst (v := 0) hx hb dX2_works_0 (by decide) ?_
  refine lv_istore_n (lv' := [(2, .int 0), (0, .ref h_this), (1, .ref h_p1)]) hx hb dX2_works_1 rfl hl (by decide) rfl (fun ls hl => ?_)
  exact B2 FU v_p1_kinds v_p1_numbers v_p1_size v_this_calls v_this_pile v_this_size v_this_temporaries v_this_variables 0 H locs ls h hP hD hS (lv_sub hl [1, 2, 0] rfl)
