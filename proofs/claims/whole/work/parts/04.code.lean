abbrev W_X0_holds (h_this : Nat) (u_this_kinds u_this_numbers : Value) (v_this_size : Int32) : va_W := [(h_this, .inr (0, [u_this_kinds, u_this_numbers, .int v_this_size]))]
def f_X0_holds (v_this_size : Int32) (a_p1 : Int32) : Option (Int32 × Unit) := if a_p1 < 0 then some (0, ()) else if v_this_size ≤ a_p1 then some (0, ()) else some (1, ())
theorem hdn_X0_holds : yX0_holds.cls ≠ "java/lang/invoke/MethodHandle" ∧ yX0_holds.cls ≠ "java/lang/invoke/VarHandle" ∧ (parseMethodDescriptor yX0_holds.desc).map (fun d => d.parameters.length) = some 1 := by decide +kernel
theorem hd_X0_holds : yX0_holds.cls = RX0 ∧ yX0_holds.cls ≠ "java/lang/invoke/MethodHandle" ∧ yX0_holds.cls ≠ "java/lang/invoke/VarHandle" ∧ (parseMethodDescriptor yX0_holds.desc).map (fun d => d.parameters.length) = some 1 := ⟨rfl, hdn_X0_holds⟩
set_option maxHeartbeats 4000000 in
set_option maxRecDepth 100000 in
theorem c_X0_holds (l : Launch) (dC : Nat → ClassId) (dI : Nat → Nat → Nat) (h_this : Nat) (u_this_kinds u_this_numbers : Value) (sz : Nat) (v_this_size : Int32) (a_p1 : Int32) (res : Int32 × Unit) (hd : f_X0_holds v_this_size a_p1 = some res) : Met l yX0_holds wsX0_holds ({ frames := 0, cells := 0, slots := 0, locals := 0 }) (va_Pc [.ref h_this, .int a_p1] (fun U => mPre dC dI (W_X0_holds h_this u_this_kinds u_this_numbers v_this_size) [] sz U)) (va_Qi (fun (r : Int32) (u : Unit) => r = res.1 ∧ u = res.2) (fun (u : Unit) t => mPost dC dI (va_A (W_X0_holds h_this u_this_kinds u_this_numbers v_this_size) sz) (W_X0_holds h_this u_this_kinds u_this_numbers v_this_size) [] t) (va_A (W_X0_holds h_this u_this_kinds u_this_numbers v_this_size) sz)) 0 0 (va_A (W_X0_holds h_this u_this_kinds u_this_numbers v_this_size) sz) := by
  refine Met.ofW (cc := cX0_holds) (maxL := 2) (ret := (some .boolean)) (by decide) rfl ?_
  intro p e s m args below meth c s₁ B hml hv
  obtain ⟨rfl, ⟨hsz, hP, hK, hD0⟩⟩ := hv
  have hx := B.exec
  have hb := B.bytes
  have hr := B.returns
  have hts := atoms_spec (ws := wsX0_holds) B.pre
  have hown : s.vm.findClass RX0 = some m.cls := findClass_of_methodNamed B.named
  have hlocks := B.notSynchronized
  have w_1 := hts (.fieldLink RX0 18 "TermPile$Code" "size" "I") (by decide +kernel)
  have in_X0 : ∀ w ∈ wsX00, w ∈ wsX0_holds := by decide +kernel
  subst hsz
  have hD := hD0.self (sz := s.heap.size)
  generalize hAe : va_A (W_X0_holds h_this u_this_kinds u_this_numbers v_this_size) s.heap.size = A at hD ⊢
  have hA : ∀ q : Nat, s.heap.size ≤ q → A q := fun q h => by rw [← hAe]; exact Or.inr h
  clear hAe hD0
  have hS : va_S A s.heap s.heap [] := va_S.rf
  have hP : va_P (dC, dI) vwCl [(h_this, .inr (0, [u_this_kinds, u_this_numbers, .int v_this_size]))] s.heap := hP
  have hD : va_D A [(h_this, .inr (0, [u_this_kinds, u_this_numbers, .int v_this_size]))] := hD
  have hl := lv_entry ([.ref h_this, .int a_p1]) (n := 2) (Nat.le_of_ble_eq_true rfl)
  rw [lg_entry_eq]
  generalize (lg_sl ([.ref h_this, .int a_p1]) ++ List.replicate (2 - (lg_sl ([.ref h_this, .int a_p1])).length) Slot.unset).toArray = ls at hl ⊢
  have hl : lv_has ls 2 [(0, .ref h_this), (1, .int a_p1)] := hl
  have h := hd
  unfold f_X0_holds at h
  obtain ⟨H, hHe⟩ : ∃ H, H = s.heap := ⟨_, rfl⟩
  obtain ⟨locs, hLe⟩ : ∃ L : List Loc, L = [] := ⟨_, rfl⟩
  have hS : va_S A s.heap H locs := by rw [hHe, hLe]; exact hS
  have hP : va_P (dC, dI) vwCl [(h_this, .inr (0, [u_this_kinds, u_this_numbers, .int v_this_size]))] H := by rw [hHe]; exact hP
  rw [show W p l e (headSpec wsX0_holds ({ frames := 0, cells := 0, slots := 0, locals := 0 })).room s m [.ref h_this, .int a_p1].toArray below meth c s.heap [] 0 0 = W p l e (headSpec wsX0_holds ({ frames := 0, cells := 0, slots := 0, locals := 0 })).room s m [.ref h_this, .int a_p1].toArray below meth c H locs 0 0 by rw [hHe, hLe]]
  clear hHe hLe
  refine lv_iload_n hx hb dX0_holds_0 rfl (lv_at hl 1 rfl) ?_
  refine lv_if_lt (tgt := 16) hx hb dX0_holds_1 (by decide) (fun c1 => ?_) (fun c1 => ?_)
  · have h := it_t h c1
    refine lv_iconst (v := 0) hx hb dX0_holds_16 (by decide) ?_
    obtain rfl := Option.some.inj h
    exact W.zret (v := 0) hx hb hr (by decide) (fun t ht hW => ⟨⟨0, (), rfl, ⟨rfl, rfl⟩, by rw [ht]; exact hP, va_K.moved hW.alike hK, hD⟩, hS.F ht⟩) hS.2.2 dX0_holds_17
  · have h := it_f h c1
    refine lv_iload_n hx hb dX0_holds_4 rfl (lv_at hl 1 rfl) ?_
    refine lv_aload_n hx hb dX0_holds_5 rfl (lv_at hl 0 rfl) ?_
    refine va_get (D := (dC, dI)) (ci := 0) (v := .int v_this_size) (C := RX0) (T := TX0) (N := 3) hx hb hts in_X0 hown hK hP 0 rfl rfl 2 (by decide) w_1 (fun _ h9 => h9) rfl dX0_holds_6 ?_
    refine lv_icmp_ge (tgt := 16) hx hb dX0_holds_9 (by decide) (fun c2 => ?_) (fun c2 => ?_)
    · have h := it_t h c2
      refine lv_iconst (v := 0) hx hb dX0_holds_16 (by decide) ?_
      obtain rfl := Option.some.inj h
      exact W.zret (v := 0) hx hb hr (by decide) (fun t ht hW => ⟨⟨0, (), rfl, ⟨rfl, rfl⟩, by rw [ht]; exact hP, va_K.moved hW.alike hK, hD⟩, hS.F ht⟩) hS.2.2 dX0_holds_17
    · have h := it_f h c2
      refine lv_iconst (v := 1) hx hb dX0_holds_12 (by decide) ?_
      refine lv_goto (tgt := 17) hx hb dX0_holds_13 (by decide) ?_
      obtain rfl := Option.some.inj h
      exact W.zret (v := 1) hx hb hr (by decide) (fun t ht hW => ⟨⟨1, (), rfl, ⟨rfl, rfl⟩, by rw [ht]; exact hP, va_K.moved hW.alike hK, hD⟩, hS.F ht⟩) hS.2.2 dX0_holds_17
abbrev W_X0_kindAt (h_this h_this_kinds : Nat) (k_this_kinds : ClassId) (u_this_numbers : Value) (v_this_kinds : Nat → Int32) (v_this_size : Int32) : va_W := [(h_this, .inr (0, [.ref h_this_kinds, u_this_numbers, .int v_this_size])), (h_this_kinds, .inl (k_this_kinds, 300, .inl (v_this_kinds)))]
def f_X0_kindAt (v_this_kinds : Nat → Int32) (v_this_size : Int32) (a_p1 : Int32) : Option (Int32 × Unit) := (f_X0_holds v_this_size a_p1).bind fun q2 => if q2.1 = 0 then some ((-1), ()) else ixd a_p1 300 (some (v_this_kinds a_p1.toNatClampNeg, ()))
theorem hdn_X0_kindAt : yX0_kindAt.cls ≠ "java/lang/invoke/MethodHandle" ∧ yX0_kindAt.cls ≠ "java/lang/invoke/VarHandle" ∧ (parseMethodDescriptor yX0_kindAt.desc).map (fun d => d.parameters.length) = some 1 := by decide +kernel
theorem hd_X0_kindAt : yX0_kindAt.cls = RX0 ∧ yX0_kindAt.cls ≠ "java/lang/invoke/MethodHandle" ∧ yX0_kindAt.cls ≠ "java/lang/invoke/VarHandle" ∧ (parseMethodDescriptor yX0_kindAt.desc).map (fun d => d.parameters.length) = some 1 := ⟨rfl, hdn_X0_kindAt⟩
set_option maxHeartbeats 4000000 in
set_option maxRecDepth 100000 in
theorem c_X0_kindAt (l : Launch) (dC : Nat → ClassId) (dI : Nat → Nat → Nat) (h_this h_this_kinds : Nat) (k_this_kinds : ClassId) (u_this_numbers : Value) (sz : Nat) (v_this_kinds : Nat → Int32) (v_this_size : Int32) (a_p1 : Int32) (res : Int32 × Unit) (hd : f_X0_kindAt v_this_kinds v_this_size a_p1 = some res) : Met l yX0_kindAt wsX0_kindAt ({ frames := 1, cells := 0, slots := 0, locals := 21 }) (va_Pc [.ref h_this, .int a_p1] (fun U => mPre dC dI (W_X0_kindAt h_this h_this_kinds k_this_kinds u_this_numbers v_this_kinds v_this_size) [(k_this_kinds, .int)] sz U)) (va_Qi (fun (r : Int32) (u : Unit) => r = res.1 ∧ u = res.2) (fun (u : Unit) t => mPost dC dI (va_A (W_X0_kindAt h_this h_this_kinds k_this_kinds u_this_numbers v_this_kinds v_this_size) sz) (W_X0_kindAt h_this h_this_kinds k_this_kinds u_this_numbers v_this_kinds v_this_size) [(k_this_kinds, .int)] t) (va_A (W_X0_kindAt h_this h_this_kinds k_this_kinds u_this_numbers v_this_kinds v_this_size) sz)) 0 0 (va_A (W_X0_kindAt h_this h_this_kinds k_this_kinds u_this_numbers v_this_kinds v_this_size) sz) := by
  refine Met.ofW (cc := cX0_kindAt) (maxL := 2) (ret := (some .int)) (by decide) rfl ?_
  intro p e s m args below meth c s₁ B hml hv
  obtain ⟨rfl, ⟨hsz, hP, hK, hD0⟩⟩ := hv
  have hx := B.exec
  have hb := B.bytes
  have hr := B.returns
  have hts := atoms_spec (ws := wsX0_kindAt) B.pre
  have hown : s.vm.findClass RX0 = some m.cls := findClass_of_methodNamed B.named
  have hlocks := B.notSynchronized
  have w_1 := hts (.fieldLink RX0 9 "TermPile$Code" "kinds" "[I") (by decide +kernel)
  have in_X0 : ∀ w ∈ wsX00, w ∈ wsX0_kindAt := by decide +kernel
  subst hsz
  have hD := hD0.self (sz := s.heap.size)
  generalize hAe : va_A (W_X0_kindAt h_this h_this_kinds k_this_kinds u_this_numbers v_this_kinds v_this_size) s.heap.size = A at hD ⊢
  have hA : ∀ q : Nat, s.heap.size ≤ q → A q := fun q h => by rw [← hAe]; exact Or.inr h
  clear hAe hD0
  have hS : va_S A s.heap s.heap [] := va_S.rf
  have hP : va_P (dC, dI) vwCl [(h_this, .inr (0, [.ref h_this_kinds, u_this_numbers, .int v_this_size])), (h_this_kinds, .inl (k_this_kinds, 300, .inl (v_this_kinds)))] s.heap := hP
  have hD : va_D A [(h_this, .inr (0, [.ref h_this_kinds, u_this_numbers, .int v_this_size])), (h_this_kinds, .inl (k_this_kinds, 300, .inl (v_this_kinds)))] := hD
  have hl := lv_entry ([.ref h_this, .int a_p1]) (n := 2) (Nat.le_of_ble_eq_true rfl)
  rw [lg_entry_eq]
  generalize (lg_sl ([.ref h_this, .int a_p1]) ++ List.replicate (2 - (lg_sl ([.ref h_this, .int a_p1])).length) Slot.unset).toArray = ls at hl ⊢
  have hl : lv_has ls 2 [(0, .ref h_this), (1, .int a_p1)] := hl
  have h := hd
  unfold f_X0_kindAt at h
  obtain ⟨H, hHe⟩ : ∃ H, H = s.heap := ⟨_, rfl⟩
  obtain ⟨locs, hLe⟩ : ∃ L : List Loc, L = [] := ⟨_, rfl⟩
  have hS : va_S A s.heap H locs := by rw [hHe, hLe]; exact hS
  have hP : va_P (dC, dI) vwCl [(h_this, .inr (0, [.ref h_this_kinds, u_this_numbers, .int v_this_size])), (h_this_kinds, .inl (k_this_kinds, 300, .inl (v_this_kinds)))] H := by rw [hHe]; exact hP
  rw [show W p l e (headSpec wsX0_kindAt ({ frames := 1, cells := 0, slots := 0, locals := 21 })).room s m [.ref h_this, .int a_p1].toArray below meth c s.heap [] 0 0 = W p l e (headSpec wsX0_kindAt ({ frames := 1, cells := 0, slots := 0, locals := 21 })).room s m [.ref h_this, .int a_p1].toArray below meth c H locs 0 0 by rw [hHe, hLe]]
  clear hHe hLe
  refine lv_aload_n hx hb dX0_kindAt_0 rfl (lv_at hl 0 rfl) ?_
  refine lv_iload_n hx hb dX0_kindAt_1 rfl (lv_at hl 1 rfl) ?_
  obtain ⟨⟨r1, ⟨⟩⟩, gr1, h⟩ := Option.bind_eq_some_iff.mp h
  try dsimp only at h
  have hPc := hP.sub (ws' := W_X0_holds h_this (.ref h_this_kinds) u_this_numbers v_this_size) [0] rfl
  have hDc := hD.sub (ws' := W_X0_holds h_this (.ref h_this_kinds) u_this_numbers v_this_size) [0] (by decide) rfl
  have hKc := hK.sub (tys' := []) [] rfl
  have hFc := va_free (wc := W_X0_holds h_this (.ref h_this_kinds) u_this_numbers v_this_size) hD hS hA [0] rfl
  refine va_calli (va_runV (As := [.int a_p1]) (rest := []) ⟨hx, hb, hml, hown, hts⟩ (c_X0_holds l dC dI h_this (.ref h_this_kinds) u_this_numbers H.size v_this_size a_p1 (r1, ()) gr1) (cwV 1 hts gX0_kindAt_X0_holds rfl rfl rfl hd_X0_holds ⟨Nat.le_of_ble_eq_true rfl, Nat.le_of_ble_eq_true rfl⟩) (preV hKc hPc hDc (va_recv hK hP (ci := 0) (q0 := 0) rfl rfl)) rfl rfl hl.1 rfl (lv_room (Nat.le_of_ble_eq_true rfl)) dX0_kindAt_2 ⟨Nat.zero_le _, Nat.zero_le _⟩) hS (fun q _ h => hFc q h) hFc (fun ar1 ur1 tr1 H1 locs htr1 hvmr1 hw hB hz1 hk1 hS => ?_)
  obtain ⟨rfl, rfl⟩ := And.intro hw.1.symm hw.2.symm
  obtain ⟨hP1, hK1, hD1⟩ := hB
  rw [htr1] at hP1
  obtain ⟨hP, hD⟩ := va_join (wr := [(h_this_kinds, .inl (k_this_kinds, 300, .inl (v_this_kinds)))]) (w1 := W_X0_holds h_this (.ref h_this_kinds) u_this_numbers v_this_size) hP hD [0] [1] rfl rfl (by decide) (by decide) hk1 hFc hP1 hD1
  have hP := hP.sub (ws' := [(h_this, .inr (0, [.ref h_this_kinds, u_this_numbers, .int v_this_size])), (h_this_kinds, .inl (k_this_kinds, 300, .inl (v_this_kinds)))]) [1, 0] rfl
  have hD := hD.sub (ws' := [(h_this, .inr (0, [.ref h_this_kinds, u_this_numbers, .int v_this_size])), (h_this_kinds, .inl (k_this_kinds, 300, .inl (v_this_kinds)))]) [1, 0] (by decide) rfl
  generalize H1 = H at hP hS ⊢
  clear hk1 hz1
  refine lv_if_eq (tgt := 17) hx hb dX0_kindAt_5 (by decide) (fun c3 => ?_) (fun c3 => ?_)
  · have h := it_t h c3
    refine lv_iconst (v := (-1)) hx hb dX0_kindAt_17 (by decide) ?_
    obtain rfl := Option.some.inj h
    exact W.iret (v := (-1)) hx hb hr (fun t ht hW => ⟨⟨(-1), (), rfl, ⟨rfl, rfl⟩, by rw [ht]; exact hP, va_K.moved hW.alike hK, hD⟩, hS.F ht⟩) hS.2.2 dX0_kindAt_18
  · have h := it_f h c3
    refine lv_aload_n hx hb dX0_kindAt_8 rfl (lv_at hl 0 rfl) ?_
    refine va_get (D := (dC, dI)) (ci := 0) (v := .ref h_this_kinds) (C := RX0) (T := TX0) (N := 3) hx hb hts in_X0 hown hK hP 0 rfl rfl 0 (by decide) w_1 (fun _ h9 => h9) rfl dX0_kindAt_9 ?_
    refine lv_iload_n hx hb dX0_kindAt_12 rfl (lv_at hl 1 rfl) ?_
    obtain ⟨i4, h⟩ := ixd_ok h
    refine va_iald hx hb hK hP 1 0 rfl rfl i4 dX0_kindAt_13 ?_
    refine lv_goto (tgt := 18) hx hb dX0_kindAt_14 (by decide) ?_
    obtain rfl := Option.some.inj h
    exact W.iret (v := v_this_kinds a_p1.toNatClampNeg) hx hb hr (fun t ht hW => ⟨⟨v_this_kinds a_p1.toNatClampNeg, (), rfl, ⟨rfl, rfl⟩, by rw [ht]; exact hP, va_K.moved hW.alike hK, hD⟩, hS.F ht⟩) hS.2.2 dX0_kindAt_18
abbrev W_X0_numberAt (h_this h_this_numbers : Nat) (k_this_numbers : ClassId) (u_this_kinds : Value) (v_this_numbers : Nat → Int32) (v_this_size : Int32) : va_W := [(h_this, .inr (0, [u_this_kinds, .ref h_this_numbers, .int v_this_size])), (h_this_numbers, .inl (k_this_numbers, 300, .inl (v_this_numbers)))]
def f_X0_numberAt (v_this_numbers : Nat → Int32) (v_this_size : Int32) (a_p1 : Int32) : Option (Int32 × Unit) := (f_X0_holds v_this_size a_p1).bind fun q2 => if q2.1 = 0 then some (0, ()) else ixd a_p1 300 (some (v_this_numbers a_p1.toNatClampNeg, ()))
theorem hdn_X0_numberAt : yX0_numberAt.cls ≠ "java/lang/invoke/MethodHandle" ∧ yX0_numberAt.cls ≠ "java/lang/invoke/VarHandle" ∧ (parseMethodDescriptor yX0_numberAt.desc).map (fun d => d.parameters.length) = some 1 := by decide +kernel
theorem hd_X0_numberAt : yX0_numberAt.cls = RX0 ∧ yX0_numberAt.cls ≠ "java/lang/invoke/MethodHandle" ∧ yX0_numberAt.cls ≠ "java/lang/invoke/VarHandle" ∧ (parseMethodDescriptor yX0_numberAt.desc).map (fun d => d.parameters.length) = some 1 := ⟨rfl, hdn_X0_numberAt⟩
set_option maxHeartbeats 4000000 in
set_option maxRecDepth 100000 in
theorem c_X0_numberAt (l : Launch) (dC : Nat → ClassId) (dI : Nat → Nat → Nat) (h_this h_this_numbers : Nat) (k_this_numbers : ClassId) (u_this_kinds : Value) (sz : Nat) (v_this_numbers : Nat → Int32) (v_this_size : Int32) (a_p1 : Int32) (res : Int32 × Unit) (hd : f_X0_numberAt v_this_numbers v_this_size a_p1 = some res) : Met l yX0_numberAt wsX0_numberAt ({ frames := 1, cells := 0, slots := 0, locals := 21 }) (va_Pc [.ref h_this, .int a_p1] (fun U => mPre dC dI (W_X0_numberAt h_this h_this_numbers k_this_numbers u_this_kinds v_this_numbers v_this_size) [(k_this_numbers, .int)] sz U)) (va_Qi (fun (r : Int32) (u : Unit) => r = res.1 ∧ u = res.2) (fun (u : Unit) t => mPost dC dI (va_A (W_X0_numberAt h_this h_this_numbers k_this_numbers u_this_kinds v_this_numbers v_this_size) sz) (W_X0_numberAt h_this h_this_numbers k_this_numbers u_this_kinds v_this_numbers v_this_size) [(k_this_numbers, .int)] t) (va_A (W_X0_numberAt h_this h_this_numbers k_this_numbers u_this_kinds v_this_numbers v_this_size) sz)) 0 0 (va_A (W_X0_numberAt h_this h_this_numbers k_this_numbers u_this_kinds v_this_numbers v_this_size) sz) := by
  refine Met.ofW (cc := cX0_numberAt) (maxL := 2) (ret := (some .int)) (by decide) rfl ?_
  intro p e s m args below meth c s₁ B hml hv
  obtain ⟨rfl, ⟨hsz, hP, hK, hD0⟩⟩ := hv
  have hx := B.exec
  have hb := B.bytes
  have hr := B.returns
  have hts := atoms_spec (ws := wsX0_numberAt) B.pre
  have hown : s.vm.findClass RX0 = some m.cls := findClass_of_methodNamed B.named
  have hlocks := B.notSynchronized
  have w_1 := hts (.fieldLink RX0 15 "TermPile$Code" "numbers" "[I") (by decide +kernel)
  have in_X0 : ∀ w ∈ wsX00, w ∈ wsX0_numberAt := by decide +kernel
  subst hsz
  have hD := hD0.self (sz := s.heap.size)
  generalize hAe : va_A (W_X0_numberAt h_this h_this_numbers k_this_numbers u_this_kinds v_this_numbers v_this_size) s.heap.size = A at hD ⊢
  have hA : ∀ q : Nat, s.heap.size ≤ q → A q := fun q h => by rw [← hAe]; exact Or.inr h
  clear hAe hD0
  have hS : va_S A s.heap s.heap [] := va_S.rf
  have hP : va_P (dC, dI) vwCl [(h_this, .inr (0, [u_this_kinds, .ref h_this_numbers, .int v_this_size])), (h_this_numbers, .inl (k_this_numbers, 300, .inl (v_this_numbers)))] s.heap := hP
  have hD : va_D A [(h_this, .inr (0, [u_this_kinds, .ref h_this_numbers, .int v_this_size])), (h_this_numbers, .inl (k_this_numbers, 300, .inl (v_this_numbers)))] := hD
  have hl := lv_entry ([.ref h_this, .int a_p1]) (n := 2) (Nat.le_of_ble_eq_true rfl)
  rw [lg_entry_eq]
  generalize (lg_sl ([.ref h_this, .int a_p1]) ++ List.replicate (2 - (lg_sl ([.ref h_this, .int a_p1])).length) Slot.unset).toArray = ls at hl ⊢
  have hl : lv_has ls 2 [(0, .ref h_this), (1, .int a_p1)] := hl
  have h := hd
  unfold f_X0_numberAt at h
  obtain ⟨H, hHe⟩ : ∃ H, H = s.heap := ⟨_, rfl⟩
  obtain ⟨locs, hLe⟩ : ∃ L : List Loc, L = [] := ⟨_, rfl⟩
  have hS : va_S A s.heap H locs := by rw [hHe, hLe]; exact hS
  have hP : va_P (dC, dI) vwCl [(h_this, .inr (0, [u_this_kinds, .ref h_this_numbers, .int v_this_size])), (h_this_numbers, .inl (k_this_numbers, 300, .inl (v_this_numbers)))] H := by rw [hHe]; exact hP
  rw [show W p l e (headSpec wsX0_numberAt ({ frames := 1, cells := 0, slots := 0, locals := 21 })).room s m [.ref h_this, .int a_p1].toArray below meth c s.heap [] 0 0 = W p l e (headSpec wsX0_numberAt ({ frames := 1, cells := 0, slots := 0, locals := 21 })).room s m [.ref h_this, .int a_p1].toArray below meth c H locs 0 0 by rw [hHe, hLe]]
  clear hHe hLe
  refine lv_aload_n hx hb dX0_numberAt_0 rfl (lv_at hl 0 rfl) ?_
  refine lv_iload_n hx hb dX0_numberAt_1 rfl (lv_at hl 1 rfl) ?_
  obtain ⟨⟨r1, ⟨⟩⟩, gr1, h⟩ := Option.bind_eq_some_iff.mp h
  try dsimp only at h
  have hPc := hP.sub (ws' := W_X0_holds h_this u_this_kinds (.ref h_this_numbers) v_this_size) [0] rfl
  have hDc := hD.sub (ws' := W_X0_holds h_this u_this_kinds (.ref h_this_numbers) v_this_size) [0] (by decide) rfl
  have hKc := hK.sub (tys' := []) [] rfl
  have hFc := va_free (wc := W_X0_holds h_this u_this_kinds (.ref h_this_numbers) v_this_size) hD hS hA [0] rfl
  refine va_calli (va_runV (As := [.int a_p1]) (rest := []) ⟨hx, hb, hml, hown, hts⟩ (c_X0_holds l dC dI h_this u_this_kinds (.ref h_this_numbers) H.size v_this_size a_p1 (r1, ()) gr1) (cwV 1 hts gX0_numberAt_X0_holds rfl rfl rfl hd_X0_holds ⟨Nat.le_of_ble_eq_true rfl, Nat.le_of_ble_eq_true rfl⟩) (preV hKc hPc hDc (va_recv hK hP (ci := 0) (q0 := 0) rfl rfl)) rfl rfl hl.1 rfl (lv_room (Nat.le_of_ble_eq_true rfl)) dX0_numberAt_2 ⟨Nat.zero_le _, Nat.zero_le _⟩) hS (fun q _ h => hFc q h) hFc (fun ar1 ur1 tr1 H1 locs htr1 hvmr1 hw hB hz1 hk1 hS => ?_)
  obtain ⟨rfl, rfl⟩ := And.intro hw.1.symm hw.2.symm
  obtain ⟨hP1, hK1, hD1⟩ := hB
  rw [htr1] at hP1
  obtain ⟨hP, hD⟩ := va_join (wr := [(h_this_numbers, .inl (k_this_numbers, 300, .inl (v_this_numbers)))]) (w1 := W_X0_holds h_this u_this_kinds (.ref h_this_numbers) v_this_size) hP hD [0] [1] rfl rfl (by decide) (by decide) hk1 hFc hP1 hD1
  have hP := hP.sub (ws' := [(h_this, .inr (0, [u_this_kinds, .ref h_this_numbers, .int v_this_size])), (h_this_numbers, .inl (k_this_numbers, 300, .inl (v_this_numbers)))]) [1, 0] rfl
  have hD := hD.sub (ws' := [(h_this, .inr (0, [u_this_kinds, .ref h_this_numbers, .int v_this_size])), (h_this_numbers, .inl (k_this_numbers, 300, .inl (v_this_numbers)))]) [1, 0] (by decide) rfl
  generalize H1 = H at hP hS ⊢
  clear hk1 hz1
  refine lv_if_eq (tgt := 17) hx hb dX0_numberAt_5 (by decide) (fun c3 => ?_) (fun c3 => ?_)
  · have h := it_t h c3
    refine lv_iconst (v := 0) hx hb dX0_numberAt_17 (by decide) ?_
    obtain rfl := Option.some.inj h
    exact W.iret (v := 0) hx hb hr (fun t ht hW => ⟨⟨0, (), rfl, ⟨rfl, rfl⟩, by rw [ht]; exact hP, va_K.moved hW.alike hK, hD⟩, hS.F ht⟩) hS.2.2 dX0_numberAt_18
  · have h := it_f h c3
    refine lv_aload_n hx hb dX0_numberAt_8 rfl (lv_at hl 0 rfl) ?_
    refine va_get (D := (dC, dI)) (ci := 0) (v := .ref h_this_numbers) (C := RX0) (T := TX0) (N := 3) hx hb hts in_X0 hown hK hP 0 rfl rfl 1 (by decide) w_1 (fun _ h9 => h9) rfl dX0_numberAt_9 ?_
    refine lv_iload_n hx hb dX0_numberAt_12 rfl (lv_at hl 1 rfl) ?_
    obtain ⟨i4, h⟩ := ixd_ok h
    refine va_iald hx hb hK hP 1 0 rfl rfl i4 dX0_numberAt_13 ?_
    refine lv_goto (tgt := 18) hx hb dX0_numberAt_14 (by decide) ?_
    obtain rfl := Option.some.inj h
    exact W.iret (v := v_this_numbers a_p1.toNatClampNeg) hx hb hr (fun t ht hW => ⟨⟨v_this_numbers a_p1.toNatClampNeg, (), rfl, ⟨rfl, rfl⟩, by rw [ht]; exact hP, va_K.moved hW.alike hK, hD⟩, hS.F ht⟩) hS.2.2 dX0_numberAt_18
abbrev W_X0_add (h_this h_this_kinds h_this_numbers : Nat) (k_this_kinds k_this_numbers : ClassId) (v_this_kinds : Nat → Int32) (v_this_numbers : Nat → Int32) (v_this_size : Int32) : va_W := [(h_this, .inr (0, [.ref h_this_kinds, .ref h_this_numbers, .int v_this_size])), (h_this_kinds, .inl (k_this_kinds, 300, .inl (v_this_kinds))), (h_this_numbers, .inl (k_this_numbers, 300, .inl (v_this_numbers)))]
def f_X0_add (v_this_kinds : Nat → Int32) (v_this_numbers : Nat → Int32) (v_this_size : Int32) (a_p1 : Int32) (a_p2 : Int32) : Option ((Nat → Int32) × (Nat → Int32) × Int32) := if 300 ≤ v_this_size then some ((v_this_kinds, v_this_numbers, v_this_size)) else ixd v_this_size 300 (ixd v_this_size 300 (some ((upd v_this_kinds v_this_size.toNatClampNeg a_p1, upd v_this_numbers v_this_size.toNatClampNeg a_p2, v_this_size + 1))))
theorem hdn_X0_add : yX0_add.cls ≠ "java/lang/invoke/MethodHandle" ∧ yX0_add.cls ≠ "java/lang/invoke/VarHandle" ∧ (parseMethodDescriptor yX0_add.desc).map (fun d => d.parameters.length) = some 2 := by decide +kernel
theorem hd_X0_add : yX0_add.cls = RX0 ∧ yX0_add.cls ≠ "java/lang/invoke/MethodHandle" ∧ yX0_add.cls ≠ "java/lang/invoke/VarHandle" ∧ (parseMethodDescriptor yX0_add.desc).map (fun d => d.parameters.length) = some 2 := ⟨rfl, hdn_X0_add⟩
set_option maxHeartbeats 4000000 in
set_option maxRecDepth 100000 in
theorem c_X0_add (l : Launch) (dC : Nat → ClassId) (dI : Nat → Nat → Nat) (h_this h_this_kinds h_this_numbers : Nat) (k_this_kinds k_this_numbers : ClassId) (sz : Nat) (v_this_kinds : Nat → Int32) (v_this_numbers : Nat → Int32) (v_this_size : Int32) (a_p1 : Int32) (a_p2 : Int32) (res : (Nat → Int32) × (Nat → Int32) × Int32) (hd : f_X0_add v_this_kinds v_this_numbers v_this_size a_p1 a_p2 = some res) : Met l yX0_add wsX0_add ({ frames := 0, cells := 0, slots := 0, locals := 0 }) (va_Pc [.ref h_this, .int a_p1, .int a_p2] (fun U => mPre dC dI (W_X0_add h_this h_this_kinds h_this_numbers k_this_kinds k_this_numbers v_this_kinds v_this_numbers v_this_size) [(k_this_kinds, .int), (k_this_numbers, .int)] sz U)) (va_Qv (fun (u : (Nat → Int32) × (Nat → Int32) × Int32) => u = res) (fun (u : (Nat → Int32) × (Nat → Int32) × Int32) t => mPost dC dI (va_A (W_X0_add h_this h_this_kinds h_this_numbers k_this_kinds k_this_numbers v_this_kinds v_this_numbers v_this_size) sz) (W_X0_add h_this h_this_kinds h_this_numbers k_this_kinds k_this_numbers u.1 u.2.1 u.2.2) [(k_this_kinds, .int), (k_this_numbers, .int)] t) (va_A (W_X0_add h_this h_this_kinds h_this_numbers k_this_kinds k_this_numbers v_this_kinds v_this_numbers v_this_size) sz)) 0 0 (va_A (W_X0_add h_this h_this_kinds h_this_numbers k_this_kinds k_this_numbers v_this_kinds v_this_numbers v_this_size) sz) := by
  refine Met.ofW (cc := cX0_add) (maxL := 3) (ret := none) (by decide) rfl ?_
  intro p e s m args below meth c s₁ B hml hv
  obtain ⟨rfl, ⟨hsz, hP, hK, hD0⟩⟩ := hv
  have hx := B.exec
  have hb := B.bytes
  have hr := B.returns
  have hts := atoms_spec (ws := wsX0_add) B.pre
  have hown : s.vm.findClass RX0 = some m.cls := findClass_of_methodNamed B.named
  have hlocks := B.notSynchronized
  have w_1 := hts (.fieldLink RX0 18 "TermPile$Code" "size" "I") (by decide +kernel)
  have w_2 := hts (.fieldLink RX0 9 "TermPile$Code" "kinds" "[I") (by decide +kernel)
  have w_3 := hts (.fieldLink RX0 15 "TermPile$Code" "numbers" "[I") (by decide +kernel)
  have in_X0 : ∀ w ∈ wsX00, w ∈ wsX0_add := by decide +kernel
  subst hsz
  have hD := hD0.self (sz := s.heap.size)
  generalize hAe : va_A (W_X0_add h_this h_this_kinds h_this_numbers k_this_kinds k_this_numbers v_this_kinds v_this_numbers v_this_size) s.heap.size = A at hD ⊢
  have hA : ∀ q : Nat, s.heap.size ≤ q → A q := fun q h => by rw [← hAe]; exact Or.inr h
  clear hAe hD0
  have hS : va_S A s.heap s.heap [] := va_S.rf
  have hP : va_P (dC, dI) vwCl [(h_this, .inr (0, [.ref h_this_kinds, .ref h_this_numbers, .int v_this_size])), (h_this_kinds, .inl (k_this_kinds, 300, .inl (v_this_kinds))), (h_this_numbers, .inl (k_this_numbers, 300, .inl (v_this_numbers)))] s.heap := hP
  have hD : va_D A [(h_this, .inr (0, [.ref h_this_kinds, .ref h_this_numbers, .int v_this_size])), (h_this_kinds, .inl (k_this_kinds, 300, .inl (v_this_kinds))), (h_this_numbers, .inl (k_this_numbers, 300, .inl (v_this_numbers)))] := hD
  have hl := lv_entry ([.ref h_this, .int a_p1, .int a_p2]) (n := 3) (Nat.le_of_ble_eq_true rfl)
  rw [lg_entry_eq]
  generalize (lg_sl ([.ref h_this, .int a_p1, .int a_p2]) ++ List.replicate (3 - (lg_sl ([.ref h_this, .int a_p1, .int a_p2])).length) Slot.unset).toArray = ls at hl ⊢
  have hl : lv_has ls 3 [(0, .ref h_this), (1, .int a_p1), (2, .int a_p2)] := hl
  have h := hd
  unfold f_X0_add at h
  obtain ⟨H, hHe⟩ : ∃ H, H = s.heap := ⟨_, rfl⟩
  obtain ⟨locs, hLe⟩ : ∃ L : List Loc, L = [] := ⟨_, rfl⟩
  have hS : va_S A s.heap H locs := by rw [hHe, hLe]; exact hS
  have hP : va_P (dC, dI) vwCl [(h_this, .inr (0, [.ref h_this_kinds, .ref h_this_numbers, .int v_this_size])), (h_this_kinds, .inl (k_this_kinds, 300, .inl (v_this_kinds))), (h_this_numbers, .inl (k_this_numbers, 300, .inl (v_this_numbers)))] H := by rw [hHe]; exact hP
  rw [show W p l e (headSpec wsX0_add ({ frames := 0, cells := 0, slots := 0, locals := 0 })).room s m [.ref h_this, .int a_p1, .int a_p2].toArray below meth c s.heap [] 0 0 = W p l e (headSpec wsX0_add ({ frames := 0, cells := 0, slots := 0, locals := 0 })).room s m [.ref h_this, .int a_p1, .int a_p2].toArray below meth c H locs 0 0 by rw [hHe, hLe]]
  clear hHe hLe
  refine lv_aload_n hx hb dX0_add_0 rfl (lv_at hl 0 rfl) ?_
  refine va_get (D := (dC, dI)) (ci := 0) (v := .int v_this_size) (C := RX0) (T := TX0) (N := 3) hx hb hts in_X0 hown hK hP 0 rfl rfl 2 (by decide) w_1 (fun _ h9 => h9) rfl dX0_add_1 ?_
  refine lv_sipush (v := 300) hx hb dX0_add_4 (by decide) ?_
  refine lv_icmp_ge (tgt := 40) hx hb dX0_add_7 (by decide) (fun c1 => ?_) (fun c1 => ?_)
  · have h := it_t h c1
    obtain rfl := Option.some.inj h
    exact W.vret hx hb hr (fun t ht hW => ⟨⟨(v_this_kinds, v_this_numbers, v_this_size), rfl, rfl, by rw [ht]; exact hP, va_K.moved hW.alike hK, hD⟩, hS.F ht⟩) hS.2.2 dX0_add_40
  · have h := it_f h c1
    refine lv_aload_n hx hb dX0_add_10 rfl (lv_at hl 0 rfl) ?_
    refine va_get (D := (dC, dI)) (ci := 0) (v := .ref h_this_kinds) (C := RX0) (T := TX0) (N := 3) hx hb hts in_X0 hown hK hP 0 rfl rfl 0 (by decide) w_2 (fun _ h9 => h9) rfl dX0_add_11 ?_
    refine lv_aload_n hx hb dX0_add_14 rfl (lv_at hl 0 rfl) ?_
    refine va_get (D := (dC, dI)) (ci := 0) (v := .int v_this_size) (C := RX0) (T := TX0) (N := 3) hx hb hts in_X0 hown hK hP 0 rfl rfl 2 (by decide) w_1 (fun _ h9 => h9) rfl dX0_add_15 ?_
    refine lv_iload_n hx hb dX0_add_18 rfl (lv_at hl 1 rfl) ?_
    obtain ⟨i2, h⟩ := ixd_ok h
    refine va_iast hx hb hK hP hD hS 1 0 rfl rfl i2 dX0_add_19 (fun H locs hP hD hS => ?_)
    have hP : va_P (dC, dI) vwCl [(h_this, .inr (0, [.ref h_this_kinds, .ref h_this_numbers, .int v_this_size])), (h_this_kinds, .inl (k_this_kinds, 300, .inl (upd v_this_kinds v_this_size.toNatClampNeg a_p1))), (h_this_numbers, .inl (k_this_numbers, 300, .inl (v_this_numbers)))] H := hP
    have hD : va_D A [(h_this, .inr (0, [.ref h_this_kinds, .ref h_this_numbers, .int v_this_size])), (h_this_kinds, .inl (k_this_kinds, 300, .inl (upd v_this_kinds v_this_size.toNatClampNeg a_p1))), (h_this_numbers, .inl (k_this_numbers, 300, .inl (v_this_numbers)))] := hD
    refine lv_aload_n hx hb dX0_add_20 rfl (lv_at hl 0 rfl) ?_
    refine va_get (D := (dC, dI)) (ci := 0) (v := .ref h_this_numbers) (C := RX0) (T := TX0) (N := 3) hx hb hts in_X0 hown hK hP 0 rfl rfl 1 (by decide) w_3 (fun _ h9 => h9) rfl dX0_add_21 ?_
    refine lv_aload_n hx hb dX0_add_24 rfl (lv_at hl 0 rfl) ?_
    refine va_get (D := (dC, dI)) (ci := 0) (v := .int v_this_size) (C := RX0) (T := TX0) (N := 3) hx hb hts in_X0 hown hK hP 0 rfl rfl 2 (by decide) w_1 (fun _ h9 => h9) rfl dX0_add_25 ?_
    refine lv_iload_n hx hb dX0_add_28 rfl (lv_at hl 2 rfl) ?_
    obtain ⟨i3, h⟩ := ixd_ok h
    refine va_iast hx hb hK hP hD hS 2 1 rfl rfl i3 dX0_add_29 (fun H locs hP hD hS => ?_)
    have hP : va_P (dC, dI) vwCl [(h_this, .inr (0, [.ref h_this_kinds, .ref h_this_numbers, .int v_this_size])), (h_this_kinds, .inl (k_this_kinds, 300, .inl (upd v_this_kinds v_this_size.toNatClampNeg a_p1))), (h_this_numbers, .inl (k_this_numbers, 300, .inl (upd v_this_numbers v_this_size.toNatClampNeg a_p2)))] H := hP
    have hD : va_D A [(h_this, .inr (0, [.ref h_this_kinds, .ref h_this_numbers, .int v_this_size])), (h_this_kinds, .inl (k_this_kinds, 300, .inl (upd v_this_kinds v_this_size.toNatClampNeg a_p1))), (h_this_numbers, .inl (k_this_numbers, 300, .inl (upd v_this_numbers v_this_size.toNatClampNeg a_p2)))] := hD
    refine lv_aload_n hx hb dX0_add_30 rfl (lv_at hl 0 rfl) ?_
    refine lv_dup hx hb dX0_add_31 rfl ?_
    refine va_get (D := (dC, dI)) (ci := 0) (v := .int v_this_size) (C := RX0) (T := TX0) (N := 3) hx hb hts in_X0 hown hK hP 0 rfl rfl 2 (by decide) w_1 (fun _ h9 => h9) rfl dX0_add_32 ?_
    refine lv_iconst (v := 1) hx hb dX0_add_35 (by decide) ?_
    refine lv_iadd hx hb dX0_add_36 ?_
    refine va_put (D := (dC, dI)) (ci := 0) (v := .int (v_this_size + 1)) (ty := .int) (C := RX0) (T := TX0) (N := 3) hx hb hts in_X0 tyX0 tyX0_ok nmX0 hown hK hP hD hS 0 rfl rfl 2 (by decide) w_1 (fun _ h9 => h9) rfl (by decide +kernel) rfl rfl (Nat.le_of_ble_eq_true rfl) dX0_add_37 (fun H locs hP hD hS => ?_)
    have hP : va_P (dC, dI) vwCl [(h_this, .inr (0, [.ref h_this_kinds, .ref h_this_numbers, .int (v_this_size + 1)])), (h_this_kinds, .inl (k_this_kinds, 300, .inl (upd v_this_kinds v_this_size.toNatClampNeg a_p1))), (h_this_numbers, .inl (k_this_numbers, 300, .inl (upd v_this_numbers v_this_size.toNatClampNeg a_p2)))] H := hP
    have hD : va_D A [(h_this, .inr (0, [.ref h_this_kinds, .ref h_this_numbers, .int (v_this_size + 1)])), (h_this_kinds, .inl (k_this_kinds, 300, .inl (upd v_this_kinds v_this_size.toNatClampNeg a_p1))), (h_this_numbers, .inl (k_this_numbers, 300, .inl (upd v_this_numbers v_this_size.toNatClampNeg a_p2)))] := hD
    obtain rfl := Option.some.inj h
    exact W.vret hx hb hr (fun t ht hW => ⟨⟨(upd v_this_kinds v_this_size.toNatClampNeg a_p1, upd v_this_numbers v_this_size.toNatClampNeg a_p2, v_this_size + 1), rfl, rfl, by rw [ht]; exact hP, va_K.moved hW.alike hK, hD⟩, hS.F ht⟩) hS.2.2 dX0_add_40
abbrev W_X0_change (h_this h_this_kinds h_this_numbers : Nat) (k_this_kinds k_this_numbers : ClassId) (v_this_kinds : Nat → Int32) (v_this_numbers : Nat → Int32) (v_this_size : Int32) : va_W := [(h_this, .inr (0, [.ref h_this_kinds, .ref h_this_numbers, .int v_this_size])), (h_this_kinds, .inl (k_this_kinds, 300, .inl (v_this_kinds))), (h_this_numbers, .inl (k_this_numbers, 300, .inl (v_this_numbers)))]
def f_X0_change (v_this_kinds : Nat → Int32) (v_this_numbers : Nat → Int32) (v_this_size : Int32) (a_p1 : Int32) (a_p2 : Int32) (a_p3 : Int32) : Option ((Nat → Int32) × (Nat → Int32)) := (f_X0_holds v_this_size a_p1).bind fun q2 => if q2.1 = 0 then some ((v_this_kinds, v_this_numbers)) else ixd a_p1 300 (ixd a_p1 300 (some ((upd v_this_kinds a_p1.toNatClampNeg a_p2, upd v_this_numbers a_p1.toNatClampNeg a_p3))))
theorem hdn_X0_change : yX0_change.cls ≠ "java/lang/invoke/MethodHandle" ∧ yX0_change.cls ≠ "java/lang/invoke/VarHandle" ∧ (parseMethodDescriptor yX0_change.desc).map (fun d => d.parameters.length) = some 3 := by decide +kernel
theorem hd_X0_change : yX0_change.cls = RX0 ∧ yX0_change.cls ≠ "java/lang/invoke/MethodHandle" ∧ yX0_change.cls ≠ "java/lang/invoke/VarHandle" ∧ (parseMethodDescriptor yX0_change.desc).map (fun d => d.parameters.length) = some 3 := ⟨rfl, hdn_X0_change⟩
set_option maxHeartbeats 4000000 in
set_option maxRecDepth 100000 in
theorem c_X0_change (l : Launch) (dC : Nat → ClassId) (dI : Nat → Nat → Nat) (h_this h_this_kinds h_this_numbers : Nat) (k_this_kinds k_this_numbers : ClassId) (sz : Nat) (v_this_kinds : Nat → Int32) (v_this_numbers : Nat → Int32) (v_this_size : Int32) (a_p1 : Int32) (a_p2 : Int32) (a_p3 : Int32) (res : (Nat → Int32) × (Nat → Int32)) (hd : f_X0_change v_this_kinds v_this_numbers v_this_size a_p1 a_p2 a_p3 = some res) : Met l yX0_change wsX0_change ({ frames := 1, cells := 0, slots := 0, locals := 21 }) (va_Pc [.ref h_this, .int a_p1, .int a_p2, .int a_p3] (fun U => mPre dC dI (W_X0_change h_this h_this_kinds h_this_numbers k_this_kinds k_this_numbers v_this_kinds v_this_numbers v_this_size) [(k_this_kinds, .int), (k_this_numbers, .int)] sz U)) (va_Qv (fun (u : (Nat → Int32) × (Nat → Int32)) => u = res) (fun (u : (Nat → Int32) × (Nat → Int32)) t => mPost dC dI (va_A (W_X0_change h_this h_this_kinds h_this_numbers k_this_kinds k_this_numbers v_this_kinds v_this_numbers v_this_size) sz) (W_X0_change h_this h_this_kinds h_this_numbers k_this_kinds k_this_numbers u.1 u.2 v_this_size) [(k_this_kinds, .int), (k_this_numbers, .int)] t) (va_A (W_X0_change h_this h_this_kinds h_this_numbers k_this_kinds k_this_numbers v_this_kinds v_this_numbers v_this_size) sz)) 0 0 (va_A (W_X0_change h_this h_this_kinds h_this_numbers k_this_kinds k_this_numbers v_this_kinds v_this_numbers v_this_size) sz) := by
  refine Met.ofW (cc := cX0_change) (maxL := 4) (ret := none) (by decide) rfl ?_
  intro p e s m args below meth c s₁ B hml hv
  obtain ⟨rfl, ⟨hsz, hP, hK, hD0⟩⟩ := hv
  have hx := B.exec
  have hb := B.bytes
  have hr := B.returns
  have hts := atoms_spec (ws := wsX0_change) B.pre
  have hown : s.vm.findClass RX0 = some m.cls := findClass_of_methodNamed B.named
  have hlocks := B.notSynchronized
  have w_1 := hts (.fieldLink RX0 9 "TermPile$Code" "kinds" "[I") (by decide +kernel)
  have w_2 := hts (.fieldLink RX0 15 "TermPile$Code" "numbers" "[I") (by decide +kernel)
  have in_X0 : ∀ w ∈ wsX00, w ∈ wsX0_change := by decide +kernel
  subst hsz
  have hD := hD0.self (sz := s.heap.size)
  generalize hAe : va_A (W_X0_change h_this h_this_kinds h_this_numbers k_this_kinds k_this_numbers v_this_kinds v_this_numbers v_this_size) s.heap.size = A at hD ⊢
  have hA : ∀ q : Nat, s.heap.size ≤ q → A q := fun q h => by rw [← hAe]; exact Or.inr h
  clear hAe hD0
  have hS : va_S A s.heap s.heap [] := va_S.rf
  have hP : va_P (dC, dI) vwCl [(h_this, .inr (0, [.ref h_this_kinds, .ref h_this_numbers, .int v_this_size])), (h_this_kinds, .inl (k_this_kinds, 300, .inl (v_this_kinds))), (h_this_numbers, .inl (k_this_numbers, 300, .inl (v_this_numbers)))] s.heap := hP
  have hD : va_D A [(h_this, .inr (0, [.ref h_this_kinds, .ref h_this_numbers, .int v_this_size])), (h_this_kinds, .inl (k_this_kinds, 300, .inl (v_this_kinds))), (h_this_numbers, .inl (k_this_numbers, 300, .inl (v_this_numbers)))] := hD
  have hl := lv_entry ([.ref h_this, .int a_p1, .int a_p2, .int a_p3]) (n := 4) (Nat.le_of_ble_eq_true rfl)
  rw [lg_entry_eq]
  generalize (lg_sl ([.ref h_this, .int a_p1, .int a_p2, .int a_p3]) ++ List.replicate (4 - (lg_sl ([.ref h_this, .int a_p1, .int a_p2, .int a_p3])).length) Slot.unset).toArray = ls at hl ⊢
  have hl : lv_has ls 4 [(0, .ref h_this), (1, .int a_p1), (2, .int a_p2), (3, .int a_p3)] := hl
  have h := hd
  unfold f_X0_change at h
  obtain ⟨H, hHe⟩ : ∃ H, H = s.heap := ⟨_, rfl⟩
  obtain ⟨locs, hLe⟩ : ∃ L : List Loc, L = [] := ⟨_, rfl⟩
  have hS : va_S A s.heap H locs := by rw [hHe, hLe]; exact hS
  have hP : va_P (dC, dI) vwCl [(h_this, .inr (0, [.ref h_this_kinds, .ref h_this_numbers, .int v_this_size])), (h_this_kinds, .inl (k_this_kinds, 300, .inl (v_this_kinds))), (h_this_numbers, .inl (k_this_numbers, 300, .inl (v_this_numbers)))] H := by rw [hHe]; exact hP
  rw [show W p l e (headSpec wsX0_change ({ frames := 1, cells := 0, slots := 0, locals := 21 })).room s m [.ref h_this, .int a_p1, .int a_p2, .int a_p3].toArray below meth c s.heap [] 0 0 = W p l e (headSpec wsX0_change ({ frames := 1, cells := 0, slots := 0, locals := 21 })).room s m [.ref h_this, .int a_p1, .int a_p2, .int a_p3].toArray below meth c H locs 0 0 by rw [hHe, hLe]]
  clear hHe hLe
  refine lv_aload_n hx hb dX0_change_0 rfl (lv_at hl 0 rfl) ?_
  refine lv_iload_n hx hb dX0_change_1 rfl (lv_at hl 1 rfl) ?_
  obtain ⟨⟨r1, ⟨⟩⟩, gr1, h⟩ := Option.bind_eq_some_iff.mp h
  try dsimp only at h
  have hPc := hP.sub (ws' := W_X0_holds h_this (.ref h_this_kinds) (.ref h_this_numbers) v_this_size) [0] rfl
  have hDc := hD.sub (ws' := W_X0_holds h_this (.ref h_this_kinds) (.ref h_this_numbers) v_this_size) [0] (by decide) rfl
  have hKc := hK.sub (tys' := []) [] rfl
  have hFc := va_free (wc := W_X0_holds h_this (.ref h_this_kinds) (.ref h_this_numbers) v_this_size) hD hS hA [0] rfl
  refine va_calli (va_runV (As := [.int a_p1]) (rest := []) ⟨hx, hb, hml, hown, hts⟩ (c_X0_holds l dC dI h_this (.ref h_this_kinds) (.ref h_this_numbers) H.size v_this_size a_p1 (r1, ()) gr1) (cwV 1 hts gX0_change_X0_holds rfl rfl rfl hd_X0_holds ⟨Nat.le_of_ble_eq_true rfl, Nat.le_of_ble_eq_true rfl⟩) (preV hKc hPc hDc (va_recv hK hP (ci := 0) (q0 := 0) rfl rfl)) rfl rfl hl.1 rfl (lv_room (Nat.le_of_ble_eq_true rfl)) dX0_change_2 ⟨Nat.zero_le _, Nat.zero_le _⟩) hS (fun q _ h => hFc q h) hFc (fun ar1 ur1 tr1 H1 locs htr1 hvmr1 hw hB hz1 hk1 hS => ?_)
  obtain ⟨rfl, rfl⟩ := And.intro hw.1.symm hw.2.symm
  obtain ⟨hP1, hK1, hD1⟩ := hB
  rw [htr1] at hP1
  obtain ⟨hP, hD⟩ := va_join (wr := [(h_this_kinds, .inl (k_this_kinds, 300, .inl (v_this_kinds))), (h_this_numbers, .inl (k_this_numbers, 300, .inl (v_this_numbers)))]) (w1 := W_X0_holds h_this (.ref h_this_kinds) (.ref h_this_numbers) v_this_size) hP hD [0] [1, 2] rfl rfl (by decide) (by decide) hk1 hFc hP1 hD1
  have hP := hP.sub (ws' := [(h_this, .inr (0, [.ref h_this_kinds, .ref h_this_numbers, .int v_this_size])), (h_this_kinds, .inl (k_this_kinds, 300, .inl (v_this_kinds))), (h_this_numbers, .inl (k_this_numbers, 300, .inl (v_this_numbers)))]) [2, 0, 1] rfl
  have hD := hD.sub (ws' := [(h_this, .inr (0, [.ref h_this_kinds, .ref h_this_numbers, .int v_this_size])), (h_this_kinds, .inl (k_this_kinds, 300, .inl (v_this_kinds))), (h_this_numbers, .inl (k_this_numbers, 300, .inl (v_this_numbers)))]) [2, 0, 1] (by decide) rfl
  generalize H1 = H at hP hS ⊢
  clear hk1 hz1
  refine lv_if_eq (tgt := 22) hx hb dX0_change_5 (by decide) (fun c3 => ?_) (fun c3 => ?_)
  · have h := it_t h c3
    obtain rfl := Option.some.inj h
    exact W.vret hx hb hr (fun t ht hW => ⟨⟨(v_this_kinds, v_this_numbers), rfl, rfl, by rw [ht]; exact hP, va_K.moved hW.alike hK, hD⟩, hS.F ht⟩) hS.2.2 dX0_change_22
  · have h := it_f h c3
    refine lv_aload_n hx hb dX0_change_8 rfl (lv_at hl 0 rfl) ?_
    refine va_get (D := (dC, dI)) (ci := 0) (v := .ref h_this_kinds) (C := RX0) (T := TX0) (N := 3) hx hb hts in_X0 hown hK hP 0 rfl rfl 0 (by decide) w_1 (fun _ h9 => h9) rfl dX0_change_9 ?_
    refine lv_iload_n hx hb dX0_change_12 rfl (lv_at hl 1 rfl) ?_
    refine lv_iload_n hx hb dX0_change_13 rfl (lv_at hl 2 rfl) ?_
    obtain ⟨i4, h⟩ := ixd_ok h
    refine va_iast hx hb hK hP hD hS 1 0 rfl rfl i4 dX0_change_14 (fun H locs hP hD hS => ?_)
    have hP : va_P (dC, dI) vwCl [(h_this, .inr (0, [.ref h_this_kinds, .ref h_this_numbers, .int v_this_size])), (h_this_kinds, .inl (k_this_kinds, 300, .inl (upd v_this_kinds a_p1.toNatClampNeg a_p2))), (h_this_numbers, .inl (k_this_numbers, 300, .inl (v_this_numbers)))] H := hP
    have hD : va_D A [(h_this, .inr (0, [.ref h_this_kinds, .ref h_this_numbers, .int v_this_size])), (h_this_kinds, .inl (k_this_kinds, 300, .inl (upd v_this_kinds a_p1.toNatClampNeg a_p2))), (h_this_numbers, .inl (k_this_numbers, 300, .inl (v_this_numbers)))] := hD
    refine lv_aload_n hx hb dX0_change_15 rfl (lv_at hl 0 rfl) ?_
    refine va_get (D := (dC, dI)) (ci := 0) (v := .ref h_this_numbers) (C := RX0) (T := TX0) (N := 3) hx hb hts in_X0 hown hK hP 0 rfl rfl 1 (by decide) w_2 (fun _ h9 => h9) rfl dX0_change_16 ?_
    refine lv_iload_n hx hb dX0_change_19 rfl (lv_at hl 1 rfl) ?_
    refine lv_iload_n hx hb dX0_change_20 rfl (lv_at hl 3 rfl) ?_
    obtain ⟨i5, h⟩ := ixd_ok h
    refine va_iast hx hb hK hP hD hS 2 1 rfl rfl i5 dX0_change_21 (fun H locs hP hD hS => ?_)
    have hP : va_P (dC, dI) vwCl [(h_this, .inr (0, [.ref h_this_kinds, .ref h_this_numbers, .int v_this_size])), (h_this_kinds, .inl (k_this_kinds, 300, .inl (upd v_this_kinds a_p1.toNatClampNeg a_p2))), (h_this_numbers, .inl (k_this_numbers, 300, .inl (upd v_this_numbers a_p1.toNatClampNeg a_p3)))] H := hP
    have hD : va_D A [(h_this, .inr (0, [.ref h_this_kinds, .ref h_this_numbers, .int v_this_size])), (h_this_kinds, .inl (k_this_kinds, 300, .inl (upd v_this_kinds a_p1.toNatClampNeg a_p2))), (h_this_numbers, .inl (k_this_numbers, 300, .inl (upd v_this_numbers a_p1.toNatClampNeg a_p3)))] := hD
    obtain rfl := Option.some.inj h
    exact W.vret hx hb hr (fun t ht hW => ⟨⟨(upd v_this_kinds a_p1.toNatClampNeg a_p2, upd v_this_numbers a_p1.toNatClampNeg a_p3), rfl, rfl, by rw [ht]; exact hP, va_K.moved hW.alike hK, hD⟩, hS.F ht⟩) hS.2.2 dX0_change_22
abbrev W_X0_copyDown (h_this h_this_kinds h_this_numbers : Nat) (k_this_kinds k_this_numbers : ClassId) (v_this_kinds : Nat → Int32) (v_this_numbers : Nat → Int32) (v_this_size : Int32) : va_W := [(h_this, .inr (0, [.ref h_this_kinds, .ref h_this_numbers, .int v_this_size])), (h_this_kinds, .inl (k_this_kinds, 300, .inl (v_this_kinds))), (h_this_numbers, .inl (k_this_numbers, 300, .inl (v_this_numbers)))]
def f_X0_copyDown (v_this_kinds : Nat → Int32) (v_this_numbers : Nat → Int32) (v_this_size : Int32) (a_p1 : Int32) (a_p2 : Int32) : Option ((Nat → Int32) × (Nat → Int32)) := (f_X0_kindAt v_this_kinds v_this_size a_p1).bind fun q2 => (f_X0_numberAt v_this_numbers v_this_size a_p1).bind fun q4 => (f_X0_change v_this_kinds v_this_numbers v_this_size a_p2 q2.1 q4.1).bind fun q6 => some ((q6.1, q6.2))
theorem hdn_X0_copyDown : yX0_copyDown.cls ≠ "java/lang/invoke/MethodHandle" ∧ yX0_copyDown.cls ≠ "java/lang/invoke/VarHandle" ∧ (parseMethodDescriptor yX0_copyDown.desc).map (fun d => d.parameters.length) = some 2 := by decide +kernel
theorem hd_X0_copyDown : yX0_copyDown.cls = RX0 ∧ yX0_copyDown.cls ≠ "java/lang/invoke/MethodHandle" ∧ yX0_copyDown.cls ≠ "java/lang/invoke/VarHandle" ∧ (parseMethodDescriptor yX0_copyDown.desc).map (fun d => d.parameters.length) = some 2 := ⟨rfl, hdn_X0_copyDown⟩
set_option maxHeartbeats 4000000 in
set_option maxRecDepth 100000 in
theorem c_X0_copyDown (l : Launch) (dC : Nat → ClassId) (dI : Nat → Nat → Nat) (h_this h_this_kinds h_this_numbers : Nat) (k_this_kinds k_this_numbers : ClassId) (sz : Nat) (v_this_kinds : Nat → Int32) (v_this_numbers : Nat → Int32) (v_this_size : Int32) (a_p1 : Int32) (a_p2 : Int32) (res : (Nat → Int32) × (Nat → Int32)) (hd : f_X0_copyDown v_this_kinds v_this_numbers v_this_size a_p1 a_p2 = some res) : Met l yX0_copyDown wsX0_copyDown ({ frames := 2, cells := 0, slots := 0, locals := 44 }) (va_Pc [.ref h_this, .int a_p1, .int a_p2] (fun U => mPre dC dI (W_X0_copyDown h_this h_this_kinds h_this_numbers k_this_kinds k_this_numbers v_this_kinds v_this_numbers v_this_size) [(k_this_kinds, .int), (k_this_numbers, .int)] sz U)) (va_Qv (fun (u : (Nat → Int32) × (Nat → Int32)) => u = res) (fun (u : (Nat → Int32) × (Nat → Int32)) t => mPost dC dI (va_A (W_X0_copyDown h_this h_this_kinds h_this_numbers k_this_kinds k_this_numbers v_this_kinds v_this_numbers v_this_size) sz) (W_X0_copyDown h_this h_this_kinds h_this_numbers k_this_kinds k_this_numbers u.1 u.2 v_this_size) [(k_this_kinds, .int), (k_this_numbers, .int)] t) (va_A (W_X0_copyDown h_this h_this_kinds h_this_numbers k_this_kinds k_this_numbers v_this_kinds v_this_numbers v_this_size) sz)) 0 0 (va_A (W_X0_copyDown h_this h_this_kinds h_this_numbers k_this_kinds k_this_numbers v_this_kinds v_this_numbers v_this_size) sz) := by
  refine Met.ofW (cc := cX0_copyDown) (maxL := 3) (ret := none) (by decide) rfl ?_
  intro p e s m args below meth c s₁ B hml hv
  obtain ⟨rfl, ⟨hsz, hP, hK, hD0⟩⟩ := hv
  have hx := B.exec
  have hb := B.bytes
  have hr := B.returns
  have hts := atoms_spec (ws := wsX0_copyDown) B.pre
  have hown : s.vm.findClass RX0 = some m.cls := findClass_of_methodNamed B.named
  have hlocks := B.notSynchronized
  subst hsz
  have hD := hD0.self (sz := s.heap.size)
  generalize hAe : va_A (W_X0_copyDown h_this h_this_kinds h_this_numbers k_this_kinds k_this_numbers v_this_kinds v_this_numbers v_this_size) s.heap.size = A at hD ⊢
  have hA : ∀ q : Nat, s.heap.size ≤ q → A q := fun q h => by rw [← hAe]; exact Or.inr h
  clear hAe hD0
  have hS : va_S A s.heap s.heap [] := va_S.rf
  have hP : va_P (dC, dI) vwCl [(h_this, .inr (0, [.ref h_this_kinds, .ref h_this_numbers, .int v_this_size])), (h_this_kinds, .inl (k_this_kinds, 300, .inl (v_this_kinds))), (h_this_numbers, .inl (k_this_numbers, 300, .inl (v_this_numbers)))] s.heap := hP
  have hD : va_D A [(h_this, .inr (0, [.ref h_this_kinds, .ref h_this_numbers, .int v_this_size])), (h_this_kinds, .inl (k_this_kinds, 300, .inl (v_this_kinds))), (h_this_numbers, .inl (k_this_numbers, 300, .inl (v_this_numbers)))] := hD
  have hl := lv_entry ([.ref h_this, .int a_p1, .int a_p2]) (n := 3) (Nat.le_of_ble_eq_true rfl)
  rw [lg_entry_eq]
  generalize (lg_sl ([.ref h_this, .int a_p1, .int a_p2]) ++ List.replicate (3 - (lg_sl ([.ref h_this, .int a_p1, .int a_p2])).length) Slot.unset).toArray = ls at hl ⊢
  have hl : lv_has ls 3 [(0, .ref h_this), (1, .int a_p1), (2, .int a_p2)] := hl
  have h := hd
  unfold f_X0_copyDown at h
  obtain ⟨H, hHe⟩ : ∃ H, H = s.heap := ⟨_, rfl⟩
  obtain ⟨locs, hLe⟩ : ∃ L : List Loc, L = [] := ⟨_, rfl⟩
  have hS : va_S A s.heap H locs := by rw [hHe, hLe]; exact hS
  have hP : va_P (dC, dI) vwCl [(h_this, .inr (0, [.ref h_this_kinds, .ref h_this_numbers, .int v_this_size])), (h_this_kinds, .inl (k_this_kinds, 300, .inl (v_this_kinds))), (h_this_numbers, .inl (k_this_numbers, 300, .inl (v_this_numbers)))] H := by rw [hHe]; exact hP
  rw [show W p l e (headSpec wsX0_copyDown ({ frames := 2, cells := 0, slots := 0, locals := 44 })).room s m [.ref h_this, .int a_p1, .int a_p2].toArray below meth c s.heap [] 0 0 = W p l e (headSpec wsX0_copyDown ({ frames := 2, cells := 0, slots := 0, locals := 44 })).room s m [.ref h_this, .int a_p1, .int a_p2].toArray below meth c H locs 0 0 by rw [hHe, hLe]]
  clear hHe hLe
  refine lv_aload_n hx hb dX0_copyDown_0 rfl (lv_at hl 0 rfl) ?_
  refine lv_iload_n hx hb dX0_copyDown_1 rfl (lv_at hl 2 rfl) ?_
  refine lv_aload_n hx hb dX0_copyDown_2 rfl (lv_at hl 0 rfl) ?_
  refine lv_iload_n hx hb dX0_copyDown_3 rfl (lv_at hl 1 rfl) ?_
  obtain ⟨⟨r1, ⟨⟩⟩, gr1, h⟩ := Option.bind_eq_some_iff.mp h
  try dsimp only at h
  have hPc := hP.sub (ws' := W_X0_kindAt h_this h_this_kinds k_this_kinds (.ref h_this_numbers) v_this_kinds v_this_size) [0, 1] rfl
  have hDc := hD.sub (ws' := W_X0_kindAt h_this h_this_kinds k_this_kinds (.ref h_this_numbers) v_this_kinds v_this_size) [0, 1] (by decide) rfl
  have hKc := hK.sub (tys' := [(k_this_kinds, .int)]) [0] rfl
  have hFc := va_free (wc := W_X0_kindAt h_this h_this_kinds k_this_kinds (.ref h_this_numbers) v_this_kinds v_this_size) hD hS hA [0, 1] rfl
  refine va_calli (va_runV (As := [.int a_p1]) (rest := [.int a_p2, .ref h_this]) ⟨hx, hb, hml, hown, hts⟩ (c_X0_kindAt l dC dI h_this h_this_kinds k_this_kinds (.ref h_this_numbers) H.size v_this_kinds v_this_size a_p1 (r1, ()) gr1) (cwV 1 hts gX0_copyDown_X0_kindAt rfl rfl rfl hd_X0_kindAt ⟨Nat.le_of_ble_eq_true rfl, Nat.le_of_ble_eq_true rfl⟩) (preV hKc hPc hDc (va_recv hK hP (ci := 0) (q0 := 0) rfl rfl)) rfl rfl hl.1 rfl (lv_room (Nat.le_of_ble_eq_true rfl)) dX0_copyDown_4 ⟨Nat.zero_le _, Nat.zero_le _⟩) hS (fun q _ h => hFc q h) hFc (fun ar1 ur1 tr1 H1 locs htr1 hvmr1 hw hB hz1 hk1 hS => ?_)
  obtain ⟨rfl, rfl⟩ := And.intro hw.1.symm hw.2.symm
  obtain ⟨hP1, hK1, hD1⟩ := hB
  rw [htr1] at hP1
  obtain ⟨hP, hD⟩ := va_join (wr := [(h_this_numbers, .inl (k_this_numbers, 300, .inl (v_this_numbers)))]) (w1 := W_X0_kindAt h_this h_this_kinds k_this_kinds (.ref h_this_numbers) v_this_kinds v_this_size) hP hD [0, 1] [2] rfl rfl (by decide) (by decide) hk1 hFc hP1 hD1
  have hP := hP.sub (ws' := [(h_this, .inr (0, [.ref h_this_kinds, .ref h_this_numbers, .int v_this_size])), (h_this_kinds, .inl (k_this_kinds, 300, .inl (v_this_kinds))), (h_this_numbers, .inl (k_this_numbers, 300, .inl (v_this_numbers)))]) [1, 2, 0] rfl
  have hD := hD.sub (ws' := [(h_this, .inr (0, [.ref h_this_kinds, .ref h_this_numbers, .int v_this_size])), (h_this_kinds, .inl (k_this_kinds, 300, .inl (v_this_kinds))), (h_this_numbers, .inl (k_this_numbers, 300, .inl (v_this_numbers)))]) [1, 2, 0] (by decide) rfl
  generalize H1 = H at hP hS ⊢
  clear hk1 hz1
  refine lv_aload_n hx hb dX0_copyDown_7 rfl (lv_at hl 0 rfl) ?_
  refine lv_iload_n hx hb dX0_copyDown_8 rfl (lv_at hl 1 rfl) ?_
  obtain ⟨⟨r3, ⟨⟩⟩, gr3, h⟩ := Option.bind_eq_some_iff.mp h
  try dsimp only at h
  have hPc := hP.sub (ws' := W_X0_numberAt h_this h_this_numbers k_this_numbers (.ref h_this_kinds) v_this_numbers v_this_size) [0, 2] rfl
  have hDc := hD.sub (ws' := W_X0_numberAt h_this h_this_numbers k_this_numbers (.ref h_this_kinds) v_this_numbers v_this_size) [0, 2] (by decide) rfl
  have hKc := hK.sub (tys' := [(k_this_numbers, .int)]) [1] rfl
  have hFc := va_free (wc := W_X0_numberAt h_this h_this_numbers k_this_numbers (.ref h_this_kinds) v_this_numbers v_this_size) hD hS hA [0, 2] rfl
  refine va_calli (va_runV (As := [.int a_p1]) (rest := [.int r1, .int a_p2, .ref h_this]) ⟨hx, hb, hml, hown, hts⟩ (c_X0_numberAt l dC dI h_this h_this_numbers k_this_numbers (.ref h_this_kinds) H.size v_this_numbers v_this_size a_p1 (r3, ()) gr3) (cwV 1 hts gX0_copyDown_X0_numberAt rfl rfl rfl hd_X0_numberAt ⟨Nat.le_of_ble_eq_true rfl, Nat.le_of_ble_eq_true rfl⟩) (preV hKc hPc hDc (va_recv hK hP (ci := 0) (q0 := 0) rfl rfl)) rfl rfl hl.1 rfl (lv_room (Nat.le_of_ble_eq_true rfl)) dX0_copyDown_9 ⟨Nat.zero_le _, Nat.zero_le _⟩) hS (fun q _ h => hFc q h) hFc (fun ar3 ur3 tr3 H1 locs htr3 hvmr3 hw hB hz1 hk1 hS => ?_)
  obtain ⟨rfl, rfl⟩ := And.intro hw.1.symm hw.2.symm
  obtain ⟨hP1, hK1, hD1⟩ := hB
  rw [htr3] at hP1
  obtain ⟨hP, hD⟩ := va_join (wr := [(h_this_kinds, .inl (k_this_kinds, 300, .inl (v_this_kinds)))]) (w1 := W_X0_numberAt h_this h_this_numbers k_this_numbers (.ref h_this_kinds) v_this_numbers v_this_size) hP hD [0, 2] [1] rfl rfl (by decide) (by decide) hk1 hFc hP1 hD1
  have hP := hP.sub (ws' := [(h_this, .inr (0, [.ref h_this_kinds, .ref h_this_numbers, .int v_this_size])), (h_this_kinds, .inl (k_this_kinds, 300, .inl (v_this_kinds))), (h_this_numbers, .inl (k_this_numbers, 300, .inl (v_this_numbers)))]) [1, 0, 2] rfl
  have hD := hD.sub (ws' := [(h_this, .inr (0, [.ref h_this_kinds, .ref h_this_numbers, .int v_this_size])), (h_this_kinds, .inl (k_this_kinds, 300, .inl (v_this_kinds))), (h_this_numbers, .inl (k_this_numbers, 300, .inl (v_this_numbers)))]) [1, 0, 2] (by decide) rfl
  generalize H1 = H at hP hS ⊢
  clear hk1 hz1
  obtain ⟨⟨r5_this_kinds, r5_this_numbers⟩, gr5, h⟩ := Option.bind_eq_some_iff.mp h
  try dsimp only at h
  have hPc := hP.sub (ws' := W_X0_change h_this h_this_kinds h_this_numbers k_this_kinds k_this_numbers v_this_kinds v_this_numbers v_this_size) [0, 1, 2] rfl
  have hDc := hD.sub (ws' := W_X0_change h_this h_this_kinds h_this_numbers k_this_kinds k_this_numbers v_this_kinds v_this_numbers v_this_size) [0, 1, 2] (by decide) rfl
  have hKc := hK.sub (tys' := [(k_this_kinds, .int), (k_this_numbers, .int)]) [0, 1] rfl
  have hFc := va_free (wc := W_X0_change h_this h_this_kinds h_this_numbers k_this_kinds k_this_numbers v_this_kinds v_this_numbers v_this_size) hD hS hA [0, 1, 2] rfl
  refine va_callv (va_runV (As := [.int a_p2, .int r1, .int r3]) (rest := []) ⟨hx, hb, hml, hown, hts⟩ (c_X0_change l dC dI h_this h_this_kinds h_this_numbers k_this_kinds k_this_numbers H.size v_this_kinds v_this_numbers v_this_size a_p2 r1 r3 (r5_this_kinds, r5_this_numbers) gr5) (cwV 3 hts gX0_copyDown_X0_change rfl rfl rfl hd_X0_change ⟨Nat.le_of_ble_eq_true rfl, Nat.le_of_ble_eq_true rfl⟩) (preV hKc hPc hDc (va_recv hK hP (ci := 0) (q0 := 0) rfl rfl)) rfl rfl hl.1 rfl (lv_room (Nat.le_of_ble_eq_true rfl)) dX0_copyDown_12 ⟨Nat.zero_le _, Nat.zero_le _⟩) hS (fun q _ h => hFc q h) hFc (fun ur5 tr5 H1 locs htr5 hvmr5 hw hB hz1 hk1 hS => ?_)
  obtain rfl := hw.symm
  obtain ⟨hP1, hK1, hD1⟩ := hB
  rw [htr5] at hP1
  obtain ⟨hP, hD⟩ := va_join (wr := []) (w1 := W_X0_change h_this h_this_kinds h_this_numbers k_this_kinds k_this_numbers r5_this_kinds r5_this_numbers v_this_size) hP hD [0, 1, 2] [] rfl rfl (by decide) (by decide) hk1 hFc hP1 hD1
  have hP := hP.sub (ws' := [(h_this, .inr (0, [.ref h_this_kinds, .ref h_this_numbers, .int v_this_size])), (h_this_kinds, .inl (k_this_kinds, 300, .inl (r5_this_kinds))), (h_this_numbers, .inl (k_this_numbers, 300, .inl (r5_this_numbers)))]) [0, 1, 2] rfl
  have hD := hD.sub (ws' := [(h_this, .inr (0, [.ref h_this_kinds, .ref h_this_numbers, .int v_this_size])), (h_this_kinds, .inl (k_this_kinds, 300, .inl (r5_this_kinds))), (h_this_numbers, .inl (k_this_numbers, 300, .inl (r5_this_numbers)))]) [0, 1, 2] (by decide) rfl
  generalize H1 = H at hP hS ⊢
  clear hk1 hz1
  obtain rfl := Option.some.inj h
  exact W.vret hx hb hr (fun t ht hW => ⟨⟨(r5_this_kinds, r5_this_numbers), rfl, rfl, by rw [ht]; exact hP, va_K.moved hW.alike hK, hD⟩, hS.F ht⟩) hS.2.2 dX0_copyDown_15
abbrev W_X0_exchange (h_this h_this_kinds h_this_numbers : Nat) (k_this_kinds k_this_numbers : ClassId) (v_this_kinds : Nat → Int32) (v_this_numbers : Nat → Int32) (v_this_size : Int32) : va_W := [(h_this, .inr (0, [.ref h_this_kinds, .ref h_this_numbers, .int v_this_size])), (h_this_kinds, .inl (k_this_kinds, 300, .inl (v_this_kinds))), (h_this_numbers, .inl (k_this_numbers, 300, .inl (v_this_numbers)))]
def f_X0_exchange (v_this_kinds : Nat → Int32) (v_this_numbers : Nat → Int32) (v_this_size : Int32) (a_p1 : Int32) (a_p2 : Int32) : Option ((Nat → Int32) × (Nat → Int32)) := (f_X0_kindAt v_this_kinds v_this_size a_p1).bind fun q2 => (f_X0_numberAt v_this_numbers v_this_size a_p1).bind fun q4 => (f_X0_copyDown v_this_kinds v_this_numbers v_this_size a_p2 a_p1).bind fun q6 => (f_X0_change q6.1 q6.2 v_this_size a_p2 q2.1 q4.1).bind fun q8 => some ((q8.1, q8.2))
theorem hdn_X0_exchange : yX0_exchange.cls ≠ "java/lang/invoke/MethodHandle" ∧ yX0_exchange.cls ≠ "java/lang/invoke/VarHandle" ∧ (parseMethodDescriptor yX0_exchange.desc).map (fun d => d.parameters.length) = some 2 := by decide +kernel
theorem hd_X0_exchange : yX0_exchange.cls = RX0 ∧ yX0_exchange.cls ≠ "java/lang/invoke/MethodHandle" ∧ yX0_exchange.cls ≠ "java/lang/invoke/VarHandle" ∧ (parseMethodDescriptor yX0_exchange.desc).map (fun d => d.parameters.length) = some 2 := ⟨rfl, hdn_X0_exchange⟩
set_option maxHeartbeats 4000000 in
set_option maxRecDepth 100000 in
theorem c_X0_exchange (l : Launch) (dC : Nat → ClassId) (dI : Nat → Nat → Nat) (h_this h_this_kinds h_this_numbers : Nat) (k_this_kinds k_this_numbers : ClassId) (sz : Nat) (v_this_kinds : Nat → Int32) (v_this_numbers : Nat → Int32) (v_this_size : Int32) (a_p1 : Int32) (a_p2 : Int32) (res : (Nat → Int32) × (Nat → Int32)) (hd : f_X0_exchange v_this_kinds v_this_numbers v_this_size a_p1 a_p2 = some res) : Met l yX0_exchange wsX0_exchange ({ frames := 3, cells := 0, slots := 0, locals := 66 }) (va_Pc [.ref h_this, .int a_p1, .int a_p2] (fun U => mPre dC dI (W_X0_exchange h_this h_this_kinds h_this_numbers k_this_kinds k_this_numbers v_this_kinds v_this_numbers v_this_size) [(k_this_kinds, .int), (k_this_numbers, .int)] sz U)) (va_Qv (fun (u : (Nat → Int32) × (Nat → Int32)) => u = res) (fun (u : (Nat → Int32) × (Nat → Int32)) t => mPost dC dI (va_A (W_X0_exchange h_this h_this_kinds h_this_numbers k_this_kinds k_this_numbers v_this_kinds v_this_numbers v_this_size) sz) (W_X0_exchange h_this h_this_kinds h_this_numbers k_this_kinds k_this_numbers u.1 u.2 v_this_size) [(k_this_kinds, .int), (k_this_numbers, .int)] t) (va_A (W_X0_exchange h_this h_this_kinds h_this_numbers k_this_kinds k_this_numbers v_this_kinds v_this_numbers v_this_size) sz)) 0 0 (va_A (W_X0_exchange h_this h_this_kinds h_this_numbers k_this_kinds k_this_numbers v_this_kinds v_this_numbers v_this_size) sz) := by
  refine Met.ofW (cc := cX0_exchange) (maxL := 5) (ret := none) (by decide) rfl ?_
  intro p e s m args below meth c s₁ B hml hv
  obtain ⟨rfl, ⟨hsz, hP, hK, hD0⟩⟩ := hv
  have hx := B.exec
  have hb := B.bytes
  have hr := B.returns
  have hts := atoms_spec (ws := wsX0_exchange) B.pre
  have hown : s.vm.findClass RX0 = some m.cls := findClass_of_methodNamed B.named
  have hlocks := B.notSynchronized
  subst hsz
  have hD := hD0.self (sz := s.heap.size)
  generalize hAe : va_A (W_X0_exchange h_this h_this_kinds h_this_numbers k_this_kinds k_this_numbers v_this_kinds v_this_numbers v_this_size) s.heap.size = A at hD ⊢
  have hA : ∀ q : Nat, s.heap.size ≤ q → A q := fun q h => by rw [← hAe]; exact Or.inr h
  clear hAe hD0
  have hS : va_S A s.heap s.heap [] := va_S.rf
  have hP : va_P (dC, dI) vwCl [(h_this, .inr (0, [.ref h_this_kinds, .ref h_this_numbers, .int v_this_size])), (h_this_kinds, .inl (k_this_kinds, 300, .inl (v_this_kinds))), (h_this_numbers, .inl (k_this_numbers, 300, .inl (v_this_numbers)))] s.heap := hP
  have hD : va_D A [(h_this, .inr (0, [.ref h_this_kinds, .ref h_this_numbers, .int v_this_size])), (h_this_kinds, .inl (k_this_kinds, 300, .inl (v_this_kinds))), (h_this_numbers, .inl (k_this_numbers, 300, .inl (v_this_numbers)))] := hD
  have hl := lv_entry ([.ref h_this, .int a_p1, .int a_p2]) (n := 5) (Nat.le_of_ble_eq_true rfl)
  rw [lg_entry_eq]
  generalize (lg_sl ([.ref h_this, .int a_p1, .int a_p2]) ++ List.replicate (5 - (lg_sl ([.ref h_this, .int a_p1, .int a_p2])).length) Slot.unset).toArray = ls at hl ⊢
  have hl : lv_has ls 5 [(0, .ref h_this), (1, .int a_p1), (2, .int a_p2)] := hl
  have h := hd
  unfold f_X0_exchange at h
  obtain ⟨H, hHe⟩ : ∃ H, H = s.heap := ⟨_, rfl⟩
  obtain ⟨locs, hLe⟩ : ∃ L : List Loc, L = [] := ⟨_, rfl⟩
  have hS : va_S A s.heap H locs := by rw [hHe, hLe]; exact hS
  have hP : va_P (dC, dI) vwCl [(h_this, .inr (0, [.ref h_this_kinds, .ref h_this_numbers, .int v_this_size])), (h_this_kinds, .inl (k_this_kinds, 300, .inl (v_this_kinds))), (h_this_numbers, .inl (k_this_numbers, 300, .inl (v_this_numbers)))] H := by rw [hHe]; exact hP
  rw [show W p l e (headSpec wsX0_exchange ({ frames := 3, cells := 0, slots := 0, locals := 66 })).room s m [.ref h_this, .int a_p1, .int a_p2].toArray below meth c s.heap [] 0 0 = W p l e (headSpec wsX0_exchange ({ frames := 3, cells := 0, slots := 0, locals := 66 })).room s m [.ref h_this, .int a_p1, .int a_p2].toArray below meth c H locs 0 0 by rw [hHe, hLe]]
  clear hHe hLe
  refine lv_aload_n hx hb dX0_exchange_0 rfl (lv_at hl 0 rfl) ?_
  refine lv_iload_n hx hb dX0_exchange_1 rfl (lv_at hl 1 rfl) ?_
  obtain ⟨⟨r1, ⟨⟩⟩, gr1, h⟩ := Option.bind_eq_some_iff.mp h
  try dsimp only at h
  have hPc := hP.sub (ws' := W_X0_kindAt h_this h_this_kinds k_this_kinds (.ref h_this_numbers) v_this_kinds v_this_size) [0, 1] rfl
  have hDc := hD.sub (ws' := W_X0_kindAt h_this h_this_kinds k_this_kinds (.ref h_this_numbers) v_this_kinds v_this_size) [0, 1] (by decide) rfl
  have hKc := hK.sub (tys' := [(k_this_kinds, .int)]) [0] rfl
  have hFc := va_free (wc := W_X0_kindAt h_this h_this_kinds k_this_kinds (.ref h_this_numbers) v_this_kinds v_this_size) hD hS hA [0, 1] rfl
  refine va_calli (va_runV (As := [.int a_p1]) (rest := []) ⟨hx, hb, hml, hown, hts⟩ (c_X0_kindAt l dC dI h_this h_this_kinds k_this_kinds (.ref h_this_numbers) H.size v_this_kinds v_this_size a_p1 (r1, ()) gr1) (cwV 1 hts gX0_exchange_X0_kindAt rfl rfl rfl hd_X0_kindAt ⟨Nat.le_of_ble_eq_true rfl, Nat.le_of_ble_eq_true rfl⟩) (preV hKc hPc hDc (va_recv hK hP (ci := 0) (q0 := 0) rfl rfl)) rfl rfl hl.1 rfl (lv_room (Nat.le_of_ble_eq_true rfl)) dX0_exchange_2 ⟨Nat.zero_le _, Nat.zero_le _⟩) hS (fun q _ h => hFc q h) hFc (fun ar1 ur1 tr1 H1 locs htr1 hvmr1 hw hB hz1 hk1 hS => ?_)
  obtain ⟨rfl, rfl⟩ := And.intro hw.1.symm hw.2.symm
  obtain ⟨hP1, hK1, hD1⟩ := hB
  rw [htr1] at hP1
  obtain ⟨hP, hD⟩ := va_join (wr := [(h_this_numbers, .inl (k_this_numbers, 300, .inl (v_this_numbers)))]) (w1 := W_X0_kindAt h_this h_this_kinds k_this_kinds (.ref h_this_numbers) v_this_kinds v_this_size) hP hD [0, 1] [2] rfl rfl (by decide) (by decide) hk1 hFc hP1 hD1
  have hP := hP.sub (ws' := [(h_this, .inr (0, [.ref h_this_kinds, .ref h_this_numbers, .int v_this_size])), (h_this_kinds, .inl (k_this_kinds, 300, .inl (v_this_kinds))), (h_this_numbers, .inl (k_this_numbers, 300, .inl (v_this_numbers)))]) [1, 2, 0] rfl
  have hD := hD.sub (ws' := [(h_this, .inr (0, [.ref h_this_kinds, .ref h_this_numbers, .int v_this_size])), (h_this_kinds, .inl (k_this_kinds, 300, .inl (v_this_kinds))), (h_this_numbers, .inl (k_this_numbers, 300, .inl (v_this_numbers)))]) [1, 2, 0] (by decide) rfl
  generalize H1 = H at hP hS ⊢
  clear hk1 hz1
  refine lv_istore_n (lv' := [(3, .int r1), (0, .ref h_this), (1, .int a_p1), (2, .int a_p2)]) hx hb dX0_exchange_5 rfl hl (by decide) rfl (fun ls hl => ?_)
  refine lv_aload_n hx hb dX0_exchange_6 rfl (lv_at hl 1 rfl) ?_
  refine lv_iload_n hx hb dX0_exchange_7 rfl (lv_at hl 2 rfl) ?_
  obtain ⟨⟨r3, ⟨⟩⟩, gr3, h⟩ := Option.bind_eq_some_iff.mp h
  try dsimp only at h
  have hPc := hP.sub (ws' := W_X0_numberAt h_this h_this_numbers k_this_numbers (.ref h_this_kinds) v_this_numbers v_this_size) [0, 2] rfl
  have hDc := hD.sub (ws' := W_X0_numberAt h_this h_this_numbers k_this_numbers (.ref h_this_kinds) v_this_numbers v_this_size) [0, 2] (by decide) rfl
  have hKc := hK.sub (tys' := [(k_this_numbers, .int)]) [1] rfl
  have hFc := va_free (wc := W_X0_numberAt h_this h_this_numbers k_this_numbers (.ref h_this_kinds) v_this_numbers v_this_size) hD hS hA [0, 2] rfl
  refine va_calli (va_runV (As := [.int a_p1]) (rest := []) ⟨hx, hb, hml, hown, hts⟩ (c_X0_numberAt l dC dI h_this h_this_numbers k_this_numbers (.ref h_this_kinds) H.size v_this_numbers v_this_size a_p1 (r3, ()) gr3) (cwV 1 hts gX0_exchange_X0_numberAt rfl rfl rfl hd_X0_numberAt ⟨Nat.le_of_ble_eq_true rfl, Nat.le_of_ble_eq_true rfl⟩) (preV hKc hPc hDc (va_recv hK hP (ci := 0) (q0 := 0) rfl rfl)) rfl rfl hl.1 rfl (lv_room (Nat.le_of_ble_eq_true rfl)) dX0_exchange_8 ⟨Nat.zero_le _, Nat.zero_le _⟩) hS (fun q _ h => hFc q h) hFc (fun ar3 ur3 tr3 H1 locs htr3 hvmr3 hw hB hz1 hk1 hS => ?_)
  obtain ⟨rfl, rfl⟩ := And.intro hw.1.symm hw.2.symm
  obtain ⟨hP1, hK1, hD1⟩ := hB
  rw [htr3] at hP1
  obtain ⟨hP, hD⟩ := va_join (wr := [(h_this_kinds, .inl (k_this_kinds, 300, .inl (v_this_kinds)))]) (w1 := W_X0_numberAt h_this h_this_numbers k_this_numbers (.ref h_this_kinds) v_this_numbers v_this_size) hP hD [0, 2] [1] rfl rfl (by decide) (by decide) hk1 hFc hP1 hD1
  have hP := hP.sub (ws' := [(h_this, .inr (0, [.ref h_this_kinds, .ref h_this_numbers, .int v_this_size])), (h_this_kinds, .inl (k_this_kinds, 300, .inl (v_this_kinds))), (h_this_numbers, .inl (k_this_numbers, 300, .inl (v_this_numbers)))]) [1, 0, 2] rfl
  have hD := hD.sub (ws' := [(h_this, .inr (0, [.ref h_this_kinds, .ref h_this_numbers, .int v_this_size])), (h_this_kinds, .inl (k_this_kinds, 300, .inl (v_this_kinds))), (h_this_numbers, .inl (k_this_numbers, 300, .inl (v_this_numbers)))]) [1, 0, 2] (by decide) rfl
  generalize H1 = H at hP hS ⊢
  clear hk1 hz1
  refine lv_istore (lv' := [(4, .int r3), (3, .int r1), (0, .ref h_this), (1, .int a_p1), (2, .int a_p2)]) hx hb dX0_exchange_11 hl (by decide) rfl (fun ls hl => ?_)
  refine lv_aload_n hx hb dX0_exchange_13 rfl (lv_at hl 2 rfl) ?_
  refine lv_iload_n hx hb dX0_exchange_14 rfl (lv_at hl 4 rfl) ?_
  refine lv_iload_n hx hb dX0_exchange_15 rfl (lv_at hl 3 rfl) ?_
  obtain ⟨⟨r5_this_kinds, r5_this_numbers⟩, gr5, h⟩ := Option.bind_eq_some_iff.mp h
  try dsimp only at h
  have hPc := hP.sub (ws' := W_X0_copyDown h_this h_this_kinds h_this_numbers k_this_kinds k_this_numbers v_this_kinds v_this_numbers v_this_size) [0, 1, 2] rfl
  have hDc := hD.sub (ws' := W_X0_copyDown h_this h_this_kinds h_this_numbers k_this_kinds k_this_numbers v_this_kinds v_this_numbers v_this_size) [0, 1, 2] (by decide) rfl
  have hKc := hK.sub (tys' := [(k_this_kinds, .int), (k_this_numbers, .int)]) [0, 1] rfl
  have hFc := va_free (wc := W_X0_copyDown h_this h_this_kinds h_this_numbers k_this_kinds k_this_numbers v_this_kinds v_this_numbers v_this_size) hD hS hA [0, 1, 2] rfl
  refine va_callv (va_runV (As := [.int a_p2, .int a_p1]) (rest := []) ⟨hx, hb, hml, hown, hts⟩ (c_X0_copyDown l dC dI h_this h_this_kinds h_this_numbers k_this_kinds k_this_numbers H.size v_this_kinds v_this_numbers v_this_size a_p2 a_p1 (r5_this_kinds, r5_this_numbers) gr5) (cwV 2 hts gX0_exchange_X0_copyDown rfl rfl rfl hd_X0_copyDown ⟨Nat.le_of_ble_eq_true rfl, Nat.le_of_ble_eq_true rfl⟩) (preV hKc hPc hDc (va_recv hK hP (ci := 0) (q0 := 0) rfl rfl)) rfl rfl hl.1 rfl (lv_room (Nat.le_of_ble_eq_true rfl)) dX0_exchange_16 ⟨Nat.zero_le _, Nat.zero_le _⟩) hS (fun q _ h => hFc q h) hFc (fun ur5 tr5 H1 locs htr5 hvmr5 hw hB hz1 hk1 hS => ?_)
  obtain rfl := hw.symm
  obtain ⟨hP1, hK1, hD1⟩ := hB
  rw [htr5] at hP1
  obtain ⟨hP, hD⟩ := va_join (wr := []) (w1 := W_X0_copyDown h_this h_this_kinds h_this_numbers k_this_kinds k_this_numbers r5_this_kinds r5_this_numbers v_this_size) hP hD [0, 1, 2] [] rfl rfl (by decide) (by decide) hk1 hFc hP1 hD1
  have hP := hP.sub (ws' := [(h_this, .inr (0, [.ref h_this_kinds, .ref h_this_numbers, .int v_this_size])), (h_this_kinds, .inl (k_this_kinds, 300, .inl (r5_this_kinds))), (h_this_numbers, .inl (k_this_numbers, 300, .inl (r5_this_numbers)))]) [0, 1, 2] rfl
  have hD := hD.sub (ws' := [(h_this, .inr (0, [.ref h_this_kinds, .ref h_this_numbers, .int v_this_size])), (h_this_kinds, .inl (k_this_kinds, 300, .inl (r5_this_kinds))), (h_this_numbers, .inl (k_this_numbers, 300, .inl (r5_this_numbers)))]) [0, 1, 2] (by decide) rfl
  generalize H1 = H at hP hS ⊢
  clear hk1 hz1
  refine lv_aload_n hx hb dX0_exchange_19 rfl (lv_at hl 2 rfl) ?_
  refine lv_iload_n hx hb dX0_exchange_20 rfl (lv_at hl 4 rfl) ?_
  refine lv_iload_n hx hb dX0_exchange_21 rfl (lv_at hl 1 rfl) ?_
  refine lv_iload hx hb dX0_exchange_22 (lv_at hl 0 rfl) ?_
  obtain ⟨⟨r7_this_kinds, r7_this_numbers⟩, gr7, h⟩ := Option.bind_eq_some_iff.mp h
  try dsimp only at h
  have hPc := hP.sub (ws' := W_X0_change h_this h_this_kinds h_this_numbers k_this_kinds k_this_numbers r5_this_kinds r5_this_numbers v_this_size) [0, 1, 2] rfl
  have hDc := hD.sub (ws' := W_X0_change h_this h_this_kinds h_this_numbers k_this_kinds k_this_numbers r5_this_kinds r5_this_numbers v_this_size) [0, 1, 2] (by decide) rfl
  have hKc := hK.sub (tys' := [(k_this_kinds, .int), (k_this_numbers, .int)]) [0, 1] rfl
  have hFc := va_free (wc := W_X0_change h_this h_this_kinds h_this_numbers k_this_kinds k_this_numbers r5_this_kinds r5_this_numbers v_this_size) hD hS hA [0, 1, 2] rfl
  refine va_callv (va_runV (As := [.int a_p2, .int r1, .int r3]) (rest := []) ⟨hx, hb, hml, hown, hts⟩ (c_X0_change l dC dI h_this h_this_kinds h_this_numbers k_this_kinds k_this_numbers H.size r5_this_kinds r5_this_numbers v_this_size a_p2 r1 r3 (r7_this_kinds, r7_this_numbers) gr7) (cwV 3 hts gX0_exchange_X0_change rfl rfl rfl hd_X0_change ⟨Nat.le_of_ble_eq_true rfl, Nat.le_of_ble_eq_true rfl⟩) (preV hKc hPc hDc (va_recv hK hP (ci := 0) (q0 := 0) rfl rfl)) rfl rfl hl.1 rfl (lv_room (Nat.le_of_ble_eq_true rfl)) dX0_exchange_24 ⟨Nat.zero_le _, Nat.zero_le _⟩) hS (fun q _ h => hFc q h) hFc (fun ur7 tr7 H1 locs htr7 hvmr7 hw hB hz1 hk1 hS => ?_)
  obtain rfl := hw.symm
  obtain ⟨hP1, hK1, hD1⟩ := hB
  rw [htr7] at hP1
  obtain ⟨hP, hD⟩ := va_join (wr := []) (w1 := W_X0_change h_this h_this_kinds h_this_numbers k_this_kinds k_this_numbers r7_this_kinds r7_this_numbers v_this_size) hP hD [0, 1, 2] [] rfl rfl (by decide) (by decide) hk1 hFc hP1 hD1
  have hP := hP.sub (ws' := [(h_this, .inr (0, [.ref h_this_kinds, .ref h_this_numbers, .int v_this_size])), (h_this_kinds, .inl (k_this_kinds, 300, .inl (r7_this_kinds))), (h_this_numbers, .inl (k_this_numbers, 300, .inl (r7_this_numbers)))]) [0, 1, 2] rfl
  have hD := hD.sub (ws' := [(h_this, .inr (0, [.ref h_this_kinds, .ref h_this_numbers, .int v_this_size])), (h_this_kinds, .inl (k_this_kinds, 300, .inl (r7_this_kinds))), (h_this_numbers, .inl (k_this_numbers, 300, .inl (r7_this_numbers)))]) [0, 1, 2] (by decide) rfl
  generalize H1 = H at hP hS ⊢
  clear hk1 hz1
  obtain rfl := Option.some.inj h
  exact W.vret hx hb hr (fun t ht hW => ⟨⟨(r7_this_kinds, r7_this_numbers), rfl, rfl, by rw [ht]; exact hP, va_K.moved hW.alike hK, hD⟩, hS.F ht⟩) hS.2.2 dX0_exchange_27
abbrev W_X0_cutTo (h_this : Nat) (u_this_kinds u_this_numbers : Value) (v_this_size : Int32) : va_W := [(h_this, .inr (0, [u_this_kinds, u_this_numbers, .int v_this_size]))]
def f_X0_cutTo (v_this_size : Int32) (a_p1 : Int32) : Option (Int32) := if a_p1 < 0 then some (v_this_size) else if v_this_size ≤ a_p1 then some (v_this_size) else some (a_p1)
theorem hdn_X0_cutTo : yX0_cutTo.cls ≠ "java/lang/invoke/MethodHandle" ∧ yX0_cutTo.cls ≠ "java/lang/invoke/VarHandle" ∧ (parseMethodDescriptor yX0_cutTo.desc).map (fun d => d.parameters.length) = some 1 := by decide +kernel
theorem hd_X0_cutTo : yX0_cutTo.cls = RX0 ∧ yX0_cutTo.cls ≠ "java/lang/invoke/MethodHandle" ∧ yX0_cutTo.cls ≠ "java/lang/invoke/VarHandle" ∧ (parseMethodDescriptor yX0_cutTo.desc).map (fun d => d.parameters.length) = some 1 := ⟨rfl, hdn_X0_cutTo⟩
set_option maxHeartbeats 4000000 in
set_option maxRecDepth 100000 in
theorem c_X0_cutTo (l : Launch) (dC : Nat → ClassId) (dI : Nat → Nat → Nat) (h_this : Nat) (u_this_kinds u_this_numbers : Value) (sz : Nat) (v_this_size : Int32) (a_p1 : Int32) (res : Int32) (hd : f_X0_cutTo v_this_size a_p1 = some res) : Met l yX0_cutTo wsX0_cutTo ({ frames := 0, cells := 0, slots := 0, locals := 0 }) (va_Pc [.ref h_this, .int a_p1] (fun U => mPre dC dI (W_X0_cutTo h_this u_this_kinds u_this_numbers v_this_size) [] sz U)) (va_Qv (fun (u : Int32) => u = res) (fun (u : Int32) t => mPost dC dI (va_A (W_X0_cutTo h_this u_this_kinds u_this_numbers v_this_size) sz) (W_X0_cutTo h_this u_this_kinds u_this_numbers u) [] t) (va_A (W_X0_cutTo h_this u_this_kinds u_this_numbers v_this_size) sz)) 0 0 (va_A (W_X0_cutTo h_this u_this_kinds u_this_numbers v_this_size) sz) := by
  refine Met.ofW (cc := cX0_cutTo) (maxL := 2) (ret := none) (by decide) rfl ?_
  intro p e s m args below meth c s₁ B hml hv
  obtain ⟨rfl, ⟨hsz, hP, hK, hD0⟩⟩ := hv
  have hx := B.exec
  have hb := B.bytes
  have hr := B.returns
  have hts := atoms_spec (ws := wsX0_cutTo) B.pre
  have hown : s.vm.findClass RX0 = some m.cls := findClass_of_methodNamed B.named
  have hlocks := B.notSynchronized
  have w_1 := hts (.fieldLink RX0 18 "TermPile$Code" "size" "I") (by decide +kernel)
  have in_X0 : ∀ w ∈ wsX00, w ∈ wsX0_cutTo := by decide +kernel
  subst hsz
  have hD := hD0.self (sz := s.heap.size)
  generalize hAe : va_A (W_X0_cutTo h_this u_this_kinds u_this_numbers v_this_size) s.heap.size = A at hD ⊢
  have hA : ∀ q : Nat, s.heap.size ≤ q → A q := fun q h => by rw [← hAe]; exact Or.inr h
  clear hAe hD0
  have hS : va_S A s.heap s.heap [] := va_S.rf
  have hP : va_P (dC, dI) vwCl [(h_this, .inr (0, [u_this_kinds, u_this_numbers, .int v_this_size]))] s.heap := hP
  have hD : va_D A [(h_this, .inr (0, [u_this_kinds, u_this_numbers, .int v_this_size]))] := hD
  have hl := lv_entry ([.ref h_this, .int a_p1]) (n := 2) (Nat.le_of_ble_eq_true rfl)
  rw [lg_entry_eq]
  generalize (lg_sl ([.ref h_this, .int a_p1]) ++ List.replicate (2 - (lg_sl ([.ref h_this, .int a_p1])).length) Slot.unset).toArray = ls at hl ⊢
  have hl : lv_has ls 2 [(0, .ref h_this), (1, .int a_p1)] := hl
  have h := hd
  unfold f_X0_cutTo at h
  obtain ⟨H, hHe⟩ : ∃ H, H = s.heap := ⟨_, rfl⟩
  obtain ⟨locs, hLe⟩ : ∃ L : List Loc, L = [] := ⟨_, rfl⟩
  have hS : va_S A s.heap H locs := by rw [hHe, hLe]; exact hS
  have hP : va_P (dC, dI) vwCl [(h_this, .inr (0, [u_this_kinds, u_this_numbers, .int v_this_size]))] H := by rw [hHe]; exact hP
  rw [show W p l e (headSpec wsX0_cutTo ({ frames := 0, cells := 0, slots := 0, locals := 0 })).room s m [.ref h_this, .int a_p1].toArray below meth c s.heap [] 0 0 = W p l e (headSpec wsX0_cutTo ({ frames := 0, cells := 0, slots := 0, locals := 0 })).room s m [.ref h_this, .int a_p1].toArray below meth c H locs 0 0 by rw [hHe, hLe]]
  clear hHe hLe
  refine lv_iload_n hx hb dX0_cutTo_0 rfl (lv_at hl 1 rfl) ?_
  refine lv_if_lt (tgt := 17) hx hb dX0_cutTo_1 (by decide) (fun c1 => ?_) (fun c1 => ?_)
  · have h := it_t h c1
    obtain rfl := Option.some.inj h
    exact W.vret hx hb hr (fun t ht hW => ⟨⟨v_this_size, rfl, rfl, by rw [ht]; exact hP, va_K.moved hW.alike hK, hD⟩, hS.F ht⟩) hS.2.2 dX0_cutTo_17
  · have h := it_f h c1
    refine lv_iload_n hx hb dX0_cutTo_4 rfl (lv_at hl 1 rfl) ?_
    refine lv_aload_n hx hb dX0_cutTo_5 rfl (lv_at hl 0 rfl) ?_
    refine va_get (D := (dC, dI)) (ci := 0) (v := .int v_this_size) (C := RX0) (T := TX0) (N := 3) hx hb hts in_X0 hown hK hP 0 rfl rfl 2 (by decide) w_1 (fun _ h9 => h9) rfl dX0_cutTo_6 ?_
    refine lv_icmp_ge (tgt := 17) hx hb dX0_cutTo_9 (by decide) (fun c2 => ?_) (fun c2 => ?_)
    · have h := it_t h c2
      obtain rfl := Option.some.inj h
      exact W.vret hx hb hr (fun t ht hW => ⟨⟨v_this_size, rfl, rfl, by rw [ht]; exact hP, va_K.moved hW.alike hK, hD⟩, hS.F ht⟩) hS.2.2 dX0_cutTo_17
    · have h := it_f h c2
      refine lv_aload_n hx hb dX0_cutTo_12 rfl (lv_at hl 0 rfl) ?_
      refine lv_iload_n hx hb dX0_cutTo_13 rfl (lv_at hl 1 rfl) ?_
      refine va_put (D := (dC, dI)) (ci := 0) (v := .int a_p1) (ty := .int) (C := RX0) (T := TX0) (N := 3) hx hb hts in_X0 tyX0 tyX0_ok nmX0 hown hK hP hD hS 0 rfl rfl 2 (by decide) w_1 (fun _ h9 => h9) rfl (by decide +kernel) rfl rfl (Nat.le_of_ble_eq_true rfl) dX0_cutTo_14 (fun H locs hP hD hS => ?_)
      have hP : va_P (dC, dI) vwCl [(h_this, .inr (0, [u_this_kinds, u_this_numbers, .int a_p1]))] H := hP
      have hD : va_D A [(h_this, .inr (0, [u_this_kinds, u_this_numbers, .int a_p1]))] := hD
      obtain rfl := Option.some.inj h
      exact W.vret hx hb hr (fun t ht hW => ⟨⟨a_p1, rfl, rfl, by rw [ht]; exact hP, va_K.moved hW.alike hK, hD⟩, hS.F ht⟩) hS.2.2 dX0_cutTo_17
