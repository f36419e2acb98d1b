abbrev W_X3_signAt (h_this h_this_signs : Nat) (k_this_signs : ClassId) (u_this_waiting u_this_waitingSize : Value) (v_this_first : Int32) (v_this_signs : Nat → Int32) : va_W := [(h_this, .inr (3, [.ref h_this_signs, .int v_this_first, u_this_waiting, u_this_waitingSize])), (h_this_signs, .inl (k_this_signs, 800, .inl (v_this_signs)))]
def f_X3_signAt (v_this_first : Int32) (v_this_signs : Nat → Int32) (a_p1 : Int32) : Option (Int32 × Unit) := if a_p1 < 0 then some ((-1), ()) else if (800 - v_this_first) ≤ a_p1 then some ((-1), ()) else ixd (v_this_first + a_p1) 800 (some (v_this_signs (v_this_first + a_p1).toNatClampNeg, ()))
theorem hdn_X3_signAt : yX3_signAt.cls ≠ "java/lang/invoke/MethodHandle" ∧ yX3_signAt.cls ≠ "java/lang/invoke/VarHandle" ∧ (parseMethodDescriptor yX3_signAt.desc).map (fun d => d.parameters.length) = some 1 := by decide +kernel
theorem hd_X3_signAt : yX3_signAt.cls = RX3 ∧ yX3_signAt.cls ≠ "java/lang/invoke/MethodHandle" ∧ yX3_signAt.cls ≠ "java/lang/invoke/VarHandle" ∧ (parseMethodDescriptor yX3_signAt.desc).map (fun d => d.parameters.length) = some 1 := ⟨rfl, hdn_X3_signAt⟩
set_option maxHeartbeats 4000000 in
set_option maxRecDepth 100000 in
theorem c_X3_signAt (l : Launch) (dC : Nat → ClassId) (dI : Nat → Nat → Nat) (h_this h_this_signs : Nat) (k_this_signs : ClassId) (u_this_waiting u_this_waitingSize : Value) (sz : Nat) (v_this_first : Int32) (v_this_signs : Nat → Int32) (a_p1 : Int32) (res : Int32 × Unit) (hd : f_X3_signAt v_this_first v_this_signs a_p1 = some res) : Met l yX3_signAt wsX3_signAt ({ frames := 0, cells := 0, slots := 0, locals := 0 }) (va_Pc [.ref h_this, .int a_p1] (fun U => mPre dC dI (W_X3_signAt h_this h_this_signs k_this_signs u_this_waiting u_this_waitingSize v_this_first v_this_signs) [(k_this_signs, .char)] sz U)) (va_Qi (fun (r : Int32) (u : Unit) => r = res.1 ∧ u = res.2) (fun (u : Unit) t => mPost dC dI (va_A (W_X3_signAt h_this h_this_signs k_this_signs u_this_waiting u_this_waitingSize v_this_first v_this_signs) sz) (W_X3_signAt h_this h_this_signs k_this_signs u_this_waiting u_this_waitingSize v_this_first v_this_signs) [(k_this_signs, .char)] t) (va_A (W_X3_signAt h_this h_this_signs k_this_signs u_this_waiting u_this_waitingSize v_this_first v_this_signs) sz)) 0 0 (va_A (W_X3_signAt h_this h_this_signs k_this_signs u_this_waiting u_this_waitingSize v_this_first v_this_signs) sz) := by
  refine Met.ofW (cc := cX3_signAt) (maxL := 2) (ret := (some .int)) (by decide) rfl ?_
  intro p e s m args below meth c s₁ B hml hv
  obtain ⟨rfl, ⟨hsz, hP, hK, hD0⟩⟩ := hv
  have hx := B.exec
  have hb := B.bytes
  have hr := B.returns
  have hts := atoms_spec (ws := wsX3_signAt) B.pre
  have hown : s.vm.findClass RX3 = some m.cls := findClass_of_methodNamed B.named
  have hlocks := B.notSynchronized
  have w_1 := hts (.fieldLink RX3 15 "TermPile$Scribe" "first" "I") (by decide +kernel)
  have w_2 := hts (.fieldLink RX3 9 "TermPile$Scribe" "signs" "[C") (by decide +kernel)
  have in_X3 : ∀ w ∈ wsX30, w ∈ wsX3_signAt := by decide +kernel
  subst hsz
  have hD := hD0.self (sz := s.heap.size)
  generalize hAe : va_A (W_X3_signAt h_this h_this_signs k_this_signs u_this_waiting u_this_waitingSize v_this_first v_this_signs) s.heap.size = A at hD ⊢
  have hA : ∀ q : Nat, s.heap.size ≤ q → A q := fun q h => by rw [← hAe]; exact Or.inr h
  clear hAe hD0
  have hS : va_S A s.heap s.heap [] := va_S.rf
  have hP : va_P (dC, dI) vwCl [(h_this, .inr (3, [.ref h_this_signs, .int v_this_first, u_this_waiting, u_this_waitingSize])), (h_this_signs, .inl (k_this_signs, 800, .inl (v_this_signs)))] s.heap := hP
  have hD : va_D A [(h_this, .inr (3, [.ref h_this_signs, .int v_this_first, u_this_waiting, u_this_waitingSize])), (h_this_signs, .inl (k_this_signs, 800, .inl (v_this_signs)))] := hD
  have hl := lv_entry ([.ref h_this, .int a_p1]) (n := 2) (Nat.le_of_ble_eq_true rfl)
  rw [lg_entry_eq]
  generalize (lg_sl ([.ref h_this, .int a_p1]) ++ List.replicate (2 - (lg_sl ([.ref h_this, .int a_p1])).length) Slot.unset).toArray = ls at hl ⊢
  have hl : lv_has ls 2 [(0, .ref h_this), (1, .int a_p1)] := hl
  have h := hd
  unfold f_X3_signAt at h
  obtain ⟨H, hHe⟩ : ∃ H, H = s.heap := ⟨_, rfl⟩
  obtain ⟨locs, hLe⟩ : ∃ L : List Loc, L = [] := ⟨_, rfl⟩
  have hS : va_S A s.heap H locs := by rw [hHe, hLe]; exact hS
  have hP : va_P (dC, dI) vwCl [(h_this, .inr (3, [.ref h_this_signs, .int v_this_first, u_this_waiting, u_this_waitingSize])), (h_this_signs, .inl (k_this_signs, 800, .inl (v_this_signs)))] H := by rw [hHe]; exact hP
  rw [show W p l e (headSpec wsX3_signAt ({ frames := 0, cells := 0, slots := 0, locals := 0 })).room s m [.ref h_this, .int a_p1].toArray below meth c s.heap [] 0 0 = W p l e (headSpec wsX3_signAt ({ frames := 0, cells := 0, slots := 0, locals := 0 })).room s m [.ref h_this, .int a_p1].toArray below meth c H locs 0 0 by rw [hHe, hLe]]
  clear hHe hLe
  refine lv_iload_n hx hb dX3_signAt_0 rfl (lv_at hl 1 rfl) ?_
  refine lv_if_lt (tgt := 30) hx hb dX3_signAt_1 (by decide) (fun c1 => ?_) (fun c1 => ?_)
  · have h := it_t h c1
    refine lv_iconst (v := (-1)) hx hb dX3_signAt_30 (by decide) ?_
    obtain rfl := Option.some.inj h
    exact W.iret (v := (-1)) hx hb hr (fun t ht hW => ⟨⟨(-1), (), rfl, ⟨rfl, rfl⟩, by rw [ht]; exact hP, va_K.moved hW.alike hK, hD⟩, hS.F ht⟩) hS.2.2 dX3_signAt_31
  · have h := it_f h c1
    refine lv_iload_n hx hb dX3_signAt_4 rfl (lv_at hl 1 rfl) ?_
    refine lv_sipush (v := 800) hx hb dX3_signAt_5 (by decide) ?_
    refine lv_aload_n hx hb dX3_signAt_8 rfl (lv_at hl 0 rfl) ?_
    refine va_get (D := (dC, dI)) (ci := 3) (v := .int v_this_first) (C := RX3) (T := TX3) (N := 4) hx hb hts in_X3 hown hK hP 0 rfl rfl 1 (by decide) w_1 (fun _ h9 => h9) rfl dX3_signAt_9 ?_
    refine lv_isub hx hb dX3_signAt_12 ?_
    refine lv_icmp_ge (tgt := 30) hx hb dX3_signAt_13 (by decide) (fun c2 => ?_) (fun c2 => ?_)
    · have h := it_t h c2
      refine lv_iconst (v := (-1)) hx hb dX3_signAt_30 (by decide) ?_
      obtain rfl := Option.some.inj h
      exact W.iret (v := (-1)) hx hb hr (fun t ht hW => ⟨⟨(-1), (), rfl, ⟨rfl, rfl⟩, by rw [ht]; exact hP, va_K.moved hW.alike hK, hD⟩, hS.F ht⟩) hS.2.2 dX3_signAt_31
    · have h := it_f h c2
      refine lv_aload_n hx hb dX3_signAt_16 rfl (lv_at hl 0 rfl) ?_
      refine va_get (D := (dC, dI)) (ci := 3) (v := .ref h_this_signs) (C := RX3) (T := TX3) (N := 4) hx hb hts in_X3 hown hK hP 0 rfl rfl 0 (by decide) w_2 (fun _ h9 => h9) rfl dX3_signAt_17 ?_
      refine lv_aload_n hx hb dX3_signAt_20 rfl (lv_at hl 0 rfl) ?_
      refine va_get (D := (dC, dI)) (ci := 3) (v := .int v_this_first) (C := RX3) (T := TX3) (N := 4) hx hb hts in_X3 hown hK hP 0 rfl rfl 1 (by decide) w_1 (fun _ h9 => h9) rfl dX3_signAt_21 ?_
      refine lv_iload_n hx hb dX3_signAt_24 rfl (lv_at hl 1 rfl) ?_
      refine lv_iadd hx hb dX3_signAt_25 ?_
      obtain ⟨i3, h⟩ := ixd_ok h
      refine va_cald hx hb hK hP 1 0 rfl rfl i3 dX3_signAt_26 ?_
      refine lv_goto (tgt := 31) hx hb dX3_signAt_27 (by decide) ?_
      obtain rfl := Option.some.inj h
      exact W.iret (v := v_this_signs (v_this_first + a_p1).toNatClampNeg) hx hb hr (fun t ht hW => ⟨⟨v_this_signs (v_this_first + a_p1).toNatClampNeg, (), rfl, ⟨rfl, rfl⟩, by rw [ht]; exact hP, va_K.moved hW.alike hK, hD⟩, hS.F ht⟩) hS.2.2 dX3_signAt_31
abbrev W_X3_await (h_this h_this_waiting : Nat) (k_this_waiting : ClassId) (u_this_signs u_this_first : Value) (v_this_waiting : Nat → Int32) (v_this_waitingSize : Int32) : va_W := [(h_this, .inr (3, [u_this_signs, u_this_first, .ref h_this_waiting, .int v_this_waitingSize])), (h_this_waiting, .inl (k_this_waiting, 800, .inl (v_this_waiting)))]
def f_X3_await (v_this_waiting : Nat → Int32) (v_this_waitingSize : Int32) (a_p1 : Int32) : Option ((Nat → Int32) × Int32) := if 800 ≤ v_this_waitingSize then some ((v_this_waiting, v_this_waitingSize)) else ixd v_this_waitingSize 800 (some ((upd v_this_waiting v_this_waitingSize.toNatClampNeg a_p1, v_this_waitingSize + 1)))
theorem hdn_X3_await : yX3_await.cls ≠ "java/lang/invoke/MethodHandle" ∧ yX3_await.cls ≠ "java/lang/invoke/VarHandle" ∧ (parseMethodDescriptor yX3_await.desc).map (fun d => d.parameters.length) = some 1 := by decide +kernel
theorem hd_X3_await : yX3_await.cls = RX3 ∧ yX3_await.cls ≠ "java/lang/invoke/MethodHandle" ∧ yX3_await.cls ≠ "java/lang/invoke/VarHandle" ∧ (parseMethodDescriptor yX3_await.desc).map (fun d => d.parameters.length) = some 1 := ⟨rfl, hdn_X3_await⟩
set_option maxHeartbeats 4000000 in
set_option maxRecDepth 100000 in
theorem c_X3_await (l : Launch) (dC : Nat → ClassId) (dI : Nat → Nat → Nat) (h_this h_this_waiting : Nat) (k_this_waiting : ClassId) (u_this_signs u_this_first : Value) (sz : Nat) (v_this_waiting : Nat → Int32) (v_this_waitingSize : Int32) (a_p1 : Int32) (res : (Nat → Int32) × Int32) (hd : f_X3_await v_this_waiting v_this_waitingSize a_p1 = some res) : Met l yX3_await wsX3_await ({ frames := 0, cells := 0, slots := 0, locals := 0 }) (va_Pc [.ref h_this, .int a_p1] (fun U => mPre dC dI (W_X3_await h_this h_this_waiting k_this_waiting u_this_signs u_this_first v_this_waiting v_this_waitingSize) [(k_this_waiting, .int)] sz U)) (va_Qv (fun (u : (Nat → Int32) × Int32) => u = res) (fun (u : (Nat → Int32) × Int32) t => mPost dC dI (va_A (W_X3_await h_this h_this_waiting k_this_waiting u_this_signs u_this_first v_this_waiting v_this_waitingSize) sz) (W_X3_await h_this h_this_waiting k_this_waiting u_this_signs u_this_first u.1 u.2) [(k_this_waiting, .int)] t) (va_A (W_X3_await h_this h_this_waiting k_this_waiting u_this_signs u_this_first v_this_waiting v_this_waitingSize) sz)) 0 0 (va_A (W_X3_await h_this h_this_waiting k_this_waiting u_this_signs u_this_first v_this_waiting v_this_waitingSize) sz) := by
  refine Met.ofW (cc := cX3_await) (maxL := 2) (ret := none) (by decide) rfl ?_
  intro p e s m args below meth c s₁ B hml hv
  obtain ⟨rfl, ⟨hsz, hP, hK, hD0⟩⟩ := hv
  have hx := B.exec
  have hb := B.bytes
  have hr := B.returns
  have hts := atoms_spec (ws := wsX3_await) B.pre
  have hown : s.vm.findClass RX3 = some m.cls := findClass_of_methodNamed B.named
  have hlocks := B.notSynchronized
  have w_1 := hts (.fieldLink RX3 23 "TermPile$Scribe" "waitingSize" "I") (by decide +kernel)
  have w_2 := hts (.fieldLink RX3 19 "TermPile$Scribe" "waiting" "[I") (by decide +kernel)
  have in_X3 : ∀ w ∈ wsX30, w ∈ wsX3_await := by decide +kernel
  subst hsz
  have hD := hD0.self (sz := s.heap.size)
  generalize hAe : va_A (W_X3_await h_this h_this_waiting k_this_waiting u_this_signs u_this_first v_this_waiting v_this_waitingSize) s.heap.size = A at hD ⊢
  have hA : ∀ q : Nat, s.heap.size ≤ q → A q := fun q h => by rw [← hAe]; exact Or.inr h
  clear hAe hD0
  have hS : va_S A s.heap s.heap [] := va_S.rf
  have hP : va_P (dC, dI) vwCl [(h_this, .inr (3, [u_this_signs, u_this_first, .ref h_this_waiting, .int v_this_waitingSize])), (h_this_waiting, .inl (k_this_waiting, 800, .inl (v_this_waiting)))] s.heap := hP
  have hD : va_D A [(h_this, .inr (3, [u_this_signs, u_this_first, .ref h_this_waiting, .int v_this_waitingSize])), (h_this_waiting, .inl (k_this_waiting, 800, .inl (v_this_waiting)))] := hD
  have hl := lv_entry ([.ref h_this, .int a_p1]) (n := 2) (Nat.le_of_ble_eq_true rfl)
  rw [lg_entry_eq]
  generalize (lg_sl ([.ref h_this, .int a_p1]) ++ List.replicate (2 - (lg_sl ([.ref h_this, .int a_p1])).length) Slot.unset).toArray = ls at hl ⊢
  have hl : lv_has ls 2 [(0, .ref h_this), (1, .int a_p1)] := hl
  have h := hd
  unfold f_X3_await at h
  obtain ⟨H, hHe⟩ : ∃ H, H = s.heap := ⟨_, rfl⟩
  obtain ⟨locs, hLe⟩ : ∃ L : List Loc, L = [] := ⟨_, rfl⟩
  have hS : va_S A s.heap H locs := by rw [hHe, hLe]; exact hS
  have hP : va_P (dC, dI) vwCl [(h_this, .inr (3, [u_this_signs, u_this_first, .ref h_this_waiting, .int v_this_waitingSize])), (h_this_waiting, .inl (k_this_waiting, 800, .inl (v_this_waiting)))] H := by rw [hHe]; exact hP
  rw [show W p l e (headSpec wsX3_await ({ frames := 0, cells := 0, slots := 0, locals := 0 })).room s m [.ref h_this, .int a_p1].toArray below meth c s.heap [] 0 0 = W p l e (headSpec wsX3_await ({ frames := 0, cells := 0, slots := 0, locals := 0 })).room s m [.ref h_this, .int a_p1].toArray below meth c H locs 0 0 by rw [hHe, hLe]]
  clear hHe hLe
  refine lv_aload_n hx hb dX3_await_0 rfl (lv_at hl 0 rfl) ?_
  refine va_get (D := (dC, dI)) (ci := 3) (v := .int v_this_waitingSize) (C := RX3) (T := TX3) (N := 4) hx hb hts in_X3 hown hK hP 0 rfl rfl 3 (by decide) w_1 (fun _ h9 => h9) rfl dX3_await_1 ?_
  refine lv_sipush (v := 800) hx hb dX3_await_4 (by decide) ?_
  refine lv_icmp_ge (tgt := 30) hx hb dX3_await_7 (by decide) (fun c1 => ?_) (fun c1 => ?_)
  · have h := it_t h c1
    obtain rfl := Option.some.inj h
    exact W.vret hx hb hr (fun t ht hW => ⟨⟨(v_this_waiting, v_this_waitingSize), rfl, rfl, by rw [ht]; exact hP, va_K.moved hW.alike hK, hD⟩, hS.F ht⟩) hS.2.2 dX3_await_30
  · have h := it_f h c1
    refine lv_aload_n hx hb dX3_await_10 rfl (lv_at hl 0 rfl) ?_
    refine va_get (D := (dC, dI)) (ci := 3) (v := .ref h_this_waiting) (C := RX3) (T := TX3) (N := 4) hx hb hts in_X3 hown hK hP 0 rfl rfl 2 (by decide) w_2 (fun _ h9 => h9) rfl dX3_await_11 ?_
    refine lv_aload_n hx hb dX3_await_14 rfl (lv_at hl 0 rfl) ?_
    refine va_get (D := (dC, dI)) (ci := 3) (v := .int v_this_waitingSize) (C := RX3) (T := TX3) (N := 4) hx hb hts in_X3 hown hK hP 0 rfl rfl 3 (by decide) w_1 (fun _ h9 => h9) rfl dX3_await_15 ?_
    refine lv_iload_n hx hb dX3_await_18 rfl (lv_at hl 1 rfl) ?_
    obtain ⟨i2, h⟩ := ixd_ok h
    refine va_iast hx hb hK hP hD hS 1 0 rfl rfl i2 dX3_await_19 (fun H locs hP hD hS => ?_)
    have hP : va_P (dC, dI) vwCl [(h_this, .inr (3, [u_this_signs, u_this_first, .ref h_this_waiting, .int v_this_waitingSize])), (h_this_waiting, .inl (k_this_waiting, 800, .inl (upd v_this_waiting v_this_waitingSize.toNatClampNeg a_p1)))] H := hP
    have hD : va_D A [(h_this, .inr (3, [u_this_signs, u_this_first, .ref h_this_waiting, .int v_this_waitingSize])), (h_this_waiting, .inl (k_this_waiting, 800, .inl (upd v_this_waiting v_this_waitingSize.toNatClampNeg a_p1)))] := hD
    refine lv_aload_n hx hb dX3_await_20 rfl (lv_at hl 0 rfl) ?_
    refine lv_dup hx hb dX3_await_21 rfl ?_
    refine va_get (D := (dC, dI)) (ci := 3) (v := .int v_this_waitingSize) (C := RX3) (T := TX3) (N := 4) hx hb hts in_X3 hown hK hP 0 rfl rfl 3 (by decide) w_1 (fun _ h9 => h9) rfl dX3_await_22 ?_
    refine lv_iconst (v := 1) hx hb dX3_await_25 (by decide) ?_
    refine lv_iadd hx hb dX3_await_26 ?_
    refine va_put (D := (dC, dI)) (ci := 3) (v := .int (v_this_waitingSize + 1)) (ty := .int) (C := RX3) (T := TX3) (N := 4) hx hb hts in_X3 tyX3 tyX3_ok nmX3 hown hK hP hD hS 0 rfl rfl 3 (by decide) w_1 (fun _ h9 => h9) rfl (by decide +kernel) rfl rfl (Nat.le_of_ble_eq_true rfl) dX3_await_27 (fun H locs hP hD hS => ?_)
    have hP : va_P (dC, dI) vwCl [(h_this, .inr (3, [u_this_signs, u_this_first, .ref h_this_waiting, .int (v_this_waitingSize + 1)])), (h_this_waiting, .inl (k_this_waiting, 800, .inl (upd v_this_waiting v_this_waitingSize.toNatClampNeg a_p1)))] H := hP
    have hD : va_D A [(h_this, .inr (3, [u_this_signs, u_this_first, .ref h_this_waiting, .int (v_this_waitingSize + 1)])), (h_this_waiting, .inl (k_this_waiting, 800, .inl (upd v_this_waiting v_this_waitingSize.toNatClampNeg a_p1)))] := hD
    obtain rfl := Option.some.inj h
    exact W.vret hx hb hr (fun t ht hW => ⟨⟨(upd v_this_waiting v_this_waitingSize.toNatClampNeg a_p1, v_this_waitingSize + 1), rfl, rfl, by rw [ht]; exact hP, va_K.moved hW.alike hK, hD⟩, hS.F ht⟩) hS.2.2 dX3_await_30
abbrev W_X3_write (h_this h_this_signs : Nat) (k_this_signs : ClassId) (u_this_waiting u_this_waitingSize : Value) (v_this_first : Int32) (v_this_signs : Nat → Int32) : va_W := [(h_this, .inr (3, [.ref h_this_signs, .int v_this_first, u_this_waiting, u_this_waitingSize])), (h_this_signs, .inl (k_this_signs, 800, .inl (v_this_signs)))]
def f_X3_write (v_this_first : Int32) (v_this_signs : Nat → Int32) (a_p1 : Int32) : Option (Int32 × (Nat → Int32)) := if v_this_first ≤ 0 then some ((v_this_first, v_this_signs)) else ixd (v_this_first - 1) 800 (some ((v_this_first - 1, upd v_this_signs (v_this_first - 1).toNatClampNeg (vp_nar .char a_p1))))
theorem hdn_X3_write : yX3_write.cls ≠ "java/lang/invoke/MethodHandle" ∧ yX3_write.cls ≠ "java/lang/invoke/VarHandle" ∧ (parseMethodDescriptor yX3_write.desc).map (fun d => d.parameters.length) = some 1 := by decide +kernel
theorem hd_X3_write : yX3_write.cls = RX3 ∧ yX3_write.cls ≠ "java/lang/invoke/MethodHandle" ∧ yX3_write.cls ≠ "java/lang/invoke/VarHandle" ∧ (parseMethodDescriptor yX3_write.desc).map (fun d => d.parameters.length) = some 1 := ⟨rfl, hdn_X3_write⟩
set_option maxHeartbeats 4000000 in
set_option maxRecDepth 100000 in
theorem c_X3_write (l : Launch) (dC : Nat → ClassId) (dI : Nat → Nat → Nat) (h_this h_this_signs : Nat) (k_this_signs : ClassId) (u_this_waiting u_this_waitingSize : Value) (sz : Nat) (v_this_first : Int32) (v_this_signs : Nat → Int32) (a_p1 : Int32) (res : Int32 × (Nat → Int32)) (hd : f_X3_write v_this_first v_this_signs a_p1 = some res) : Met l yX3_write wsX3_write ({ frames := 0, cells := 0, slots := 0, locals := 0 }) (va_Pc [.ref h_this, .int a_p1] (fun U => mPre dC dI (W_X3_write h_this h_this_signs k_this_signs u_this_waiting u_this_waitingSize v_this_first v_this_signs) [(k_this_signs, .char)] sz U)) (va_Qv (fun (u : Int32 × (Nat → Int32)) => u = res) (fun (u : Int32 × (Nat → Int32)) t => mPost dC dI (va_A (W_X3_write h_this h_this_signs k_this_signs u_this_waiting u_this_waitingSize v_this_first v_this_signs) sz) (W_X3_write h_this h_this_signs k_this_signs u_this_waiting u_this_waitingSize u.1 u.2) [(k_this_signs, .char)] t) (va_A (W_X3_write h_this h_this_signs k_this_signs u_this_waiting u_this_waitingSize v_this_first v_this_signs) sz)) 0 0 (va_A (W_X3_write h_this h_this_signs k_this_signs u_this_waiting u_this_waitingSize v_this_first v_this_signs) sz) := by
  refine Met.ofW (cc := cX3_write) (maxL := 2) (ret := none) (by decide) rfl ?_
  intro p e s m args below meth c s₁ B hml hv
  obtain ⟨rfl, ⟨hsz, hP, hK, hD0⟩⟩ := hv
  have hx := B.exec
  have hb := B.bytes
  have hr := B.returns
  have hts := atoms_spec (ws := wsX3_write) B.pre
  have hown : s.vm.findClass RX3 = some m.cls := findClass_of_methodNamed B.named
  have hlocks := B.notSynchronized
  have w_1 := hts (.fieldLink RX3 15 "TermPile$Scribe" "first" "I") (by decide +kernel)
  have w_2 := hts (.fieldLink RX3 9 "TermPile$Scribe" "signs" "[C") (by decide +kernel)
  have in_X3 : ∀ w ∈ wsX30, w ∈ wsX3_write := by decide +kernel
  subst hsz
  have hD := hD0.self (sz := s.heap.size)
  generalize hAe : va_A (W_X3_write h_this h_this_signs k_this_signs u_this_waiting u_this_waitingSize v_this_first v_this_signs) s.heap.size = A at hD ⊢
  have hA : ∀ q : Nat, s.heap.size ≤ q → A q := fun q h => by rw [← hAe]; exact Or.inr h
  clear hAe hD0
  have hS : va_S A s.heap s.heap [] := va_S.rf
  have hP : va_P (dC, dI) vwCl [(h_this, .inr (3, [.ref h_this_signs, .int v_this_first, u_this_waiting, u_this_waitingSize])), (h_this_signs, .inl (k_this_signs, 800, .inl (v_this_signs)))] s.heap := hP
  have hD : va_D A [(h_this, .inr (3, [.ref h_this_signs, .int v_this_first, u_this_waiting, u_this_waitingSize])), (h_this_signs, .inl (k_this_signs, 800, .inl (v_this_signs)))] := hD
  have hl := lv_entry ([.ref h_this, .int a_p1]) (n := 2) (Nat.le_of_ble_eq_true rfl)
  rw [lg_entry_eq]
  generalize (lg_sl ([.ref h_this, .int a_p1]) ++ List.replicate (2 - (lg_sl ([.ref h_this, .int a_p1])).length) Slot.unset).toArray = ls at hl ⊢
  have hl : lv_has ls 2 [(0, .ref h_this), (1, .int a_p1)] := hl
  have h := hd
  unfold f_X3_write at h
  obtain ⟨H, hHe⟩ : ∃ H, H = s.heap := ⟨_, rfl⟩
  obtain ⟨locs, hLe⟩ : ∃ L : List Loc, L = [] := ⟨_, rfl⟩
  have hS : va_S A s.heap H locs := by rw [hHe, hLe]; exact hS
  have hP : va_P (dC, dI) vwCl [(h_this, .inr (3, [.ref h_this_signs, .int v_this_first, u_this_waiting, u_this_waitingSize])), (h_this_signs, .inl (k_this_signs, 800, .inl (v_this_signs)))] H := by rw [hHe]; exact hP
  rw [show W p l e (headSpec wsX3_write ({ frames := 0, cells := 0, slots := 0, locals := 0 })).room s m [.ref h_this, .int a_p1].toArray below meth c s.heap [] 0 0 = W p l e (headSpec wsX3_write ({ frames := 0, cells := 0, slots := 0, locals := 0 })).room s m [.ref h_this, .int a_p1].toArray below meth c H locs 0 0 by rw [hHe, hLe]]
  clear hHe hLe
  refine lv_aload_n hx hb dX3_write_0 rfl (lv_at hl 0 rfl) ?_
  refine va_get (D := (dC, dI)) (ci := 3) (v := .int v_this_first) (C := RX3) (T := TX3) (N := 4) hx hb hts in_X3 hown hK hP 0 rfl rfl 1 (by decide) w_1 (fun _ h9 => h9) rfl dX3_write_1 ?_
  refine lv_if_le (tgt := 27) hx hb dX3_write_4 (by decide) (fun c1 => ?_) (fun c1 => ?_)
  · have h := it_t h c1
    obtain rfl := Option.some.inj h
    exact W.vret hx hb hr (fun t ht hW => ⟨⟨(v_this_first, v_this_signs), rfl, rfl, by rw [ht]; exact hP, va_K.moved hW.alike hK, hD⟩, hS.F ht⟩) hS.2.2 dX3_write_27
  · have h := it_f h c1
    refine lv_aload_n hx hb dX3_write_7 rfl (lv_at hl 0 rfl) ?_
    refine lv_dup hx hb dX3_write_8 rfl ?_
    refine va_get (D := (dC, dI)) (ci := 3) (v := .int v_this_first) (C := RX3) (T := TX3) (N := 4) hx hb hts in_X3 hown hK hP 0 rfl rfl 1 (by decide) w_1 (fun _ h9 => h9) rfl dX3_write_9 ?_
    refine lv_iconst (v := 1) hx hb dX3_write_12 (by decide) ?_
    refine lv_isub hx hb dX3_write_13 ?_
    refine va_put (D := (dC, dI)) (ci := 3) (v := .int (v_this_first - 1)) (ty := .int) (C := RX3) (T := TX3) (N := 4) hx hb hts in_X3 tyX3 tyX3_ok nmX3 hown hK hP hD hS 0 rfl rfl 1 (by decide) w_1 (fun _ h9 => h9) rfl (by decide +kernel) rfl rfl (Nat.le_of_ble_eq_true rfl) dX3_write_14 (fun H locs hP hD hS => ?_)
    have hP : va_P (dC, dI) vwCl [(h_this, .inr (3, [.ref h_this_signs, .int (v_this_first - 1), u_this_waiting, u_this_waitingSize])), (h_this_signs, .inl (k_this_signs, 800, .inl (v_this_signs)))] H := hP
    have hD : va_D A [(h_this, .inr (3, [.ref h_this_signs, .int (v_this_first - 1), u_this_waiting, u_this_waitingSize])), (h_this_signs, .inl (k_this_signs, 800, .inl (v_this_signs)))] := hD
    refine lv_aload_n hx hb dX3_write_17 rfl (lv_at hl 0 rfl) ?_
    refine va_get (D := (dC, dI)) (ci := 3) (v := .ref h_this_signs) (C := RX3) (T := TX3) (N := 4) hx hb hts in_X3 hown hK hP 0 rfl rfl 0 (by decide) w_2 (fun _ h9 => h9) rfl dX3_write_18 ?_
    refine lv_aload_n hx hb dX3_write_21 rfl (lv_at hl 0 rfl) ?_
    refine va_get (D := (dC, dI)) (ci := 3) (v := .int (v_this_first - 1)) (C := RX3) (T := TX3) (N := 4) hx hb hts in_X3 hown hK hP 0 rfl rfl 1 (by decide) w_1 (fun _ h9 => h9) rfl dX3_write_22 ?_
    refine lv_iload_n hx hb dX3_write_25 rfl (lv_at hl 1 rfl) ?_
    obtain ⟨i2, h⟩ := ixd_ok h
    refine va_cast hx hb hK hP hD hS 1 0 rfl rfl i2 dX3_write_26 (fun H locs hP hD hS => ?_)
    have hP : va_P (dC, dI) vwCl [(h_this, .inr (3, [.ref h_this_signs, .int (v_this_first - 1), u_this_waiting, u_this_waitingSize])), (h_this_signs, .inl (k_this_signs, 800, .inl (upd v_this_signs (v_this_first - 1).toNatClampNeg (vp_nar .char a_p1))))] H := hP
    have hD : va_D A [(h_this, .inr (3, [.ref h_this_signs, .int (v_this_first - 1), u_this_waiting, u_this_waitingSize])), (h_this_signs, .inl (k_this_signs, 800, .inl (upd v_this_signs (v_this_first - 1).toNatClampNeg (vp_nar .char a_p1))))] := hD
    obtain rfl := Option.some.inj h
    exact W.vret hx hb hr (fun t ht hW => ⟨⟨(v_this_first - 1, upd v_this_signs (v_this_first - 1).toNatClampNeg (vp_nar .char a_p1)), rfl, rfl, by rw [ht]; exact hP, va_K.moved hW.alike hK, hD⟩, hS.F ht⟩) hS.2.2 dX3_write_27
abbrev W_X3_writeVariable (h_this h_this_signs : Nat) (k_this_signs : ClassId) (u_this_waiting u_this_waitingSize : Value) (v_this_first : Int32) (v_this_signs : Nat → Int32) : va_W := [(h_this, .inr (3, [.ref h_this_signs, .int v_this_first, u_this_waiting, u_this_waitingSize])), (h_this_signs, .inl (k_this_signs, 800, .inl (v_this_signs)))]
def f_X3_writeVariable (v_this_first : Int32) (v_this_signs : Nat → Int32) (a_p1 : Int32) : Option (Int32 × (Nat → Int32)) := (f_X3_write v_this_first v_this_signs (((97 + a_p1).toUInt32 % 65536).toInt32)).bind fun q2 => some ((q2.1, q2.2))
theorem hdn_X3_writeVariable : yX3_writeVariable.cls ≠ "java/lang/invoke/MethodHandle" ∧ yX3_writeVariable.cls ≠ "java/lang/invoke/VarHandle" ∧ (parseMethodDescriptor yX3_writeVariable.desc).map (fun d => d.parameters.length) = some 1 := by decide +kernel
theorem hd_X3_writeVariable : yX3_writeVariable.cls = RX3 ∧ yX3_writeVariable.cls ≠ "java/lang/invoke/MethodHandle" ∧ yX3_writeVariable.cls ≠ "java/lang/invoke/VarHandle" ∧ (parseMethodDescriptor yX3_writeVariable.desc).map (fun d => d.parameters.length) = some 1 := ⟨rfl, hdn_X3_writeVariable⟩
set_option maxHeartbeats 4000000 in
set_option maxRecDepth 100000 in
theorem c_X3_writeVariable (l : Launch) (dC : Nat → ClassId) (dI : Nat → Nat → Nat) (h_this h_this_signs : Nat) (k_this_signs : ClassId) (u_this_waiting u_this_waitingSize : Value) (sz : Nat) (v_this_first : Int32) (v_this_signs : Nat → Int32) (a_p1 : Int32) (res : Int32 × (Nat → Int32)) (hd : f_X3_writeVariable v_this_first v_this_signs a_p1 = some res) : Met l yX3_writeVariable wsX3_writeVariable ({ frames := 1, cells := 0, slots := 0, locals := 21 }) (va_Pc [.ref h_this, .int a_p1] (fun U => mPre dC dI (W_X3_writeVariable h_this h_this_signs k_this_signs u_this_waiting u_this_waitingSize v_this_first v_this_signs) [(k_this_signs, .char)] sz U)) (va_Qv (fun (u : Int32 × (Nat → Int32)) => u = res) (fun (u : Int32 × (Nat → Int32)) t => mPost dC dI (va_A (W_X3_writeVariable h_this h_this_signs k_this_signs u_this_waiting u_this_waitingSize v_this_first v_this_signs) sz) (W_X3_writeVariable h_this h_this_signs k_this_signs u_this_waiting u_this_waitingSize u.1 u.2) [(k_this_signs, .char)] t) (va_A (W_X3_writeVariable h_this h_this_signs k_this_signs u_this_waiting u_this_waitingSize v_this_first v_this_signs) sz)) 0 0 (va_A (W_X3_writeVariable h_this h_this_signs k_this_signs u_this_waiting u_this_waitingSize v_this_first v_this_signs) sz) := by
  refine Met.ofW (cc := cX3_writeVariable) (maxL := 2) (ret := none) (by decide) rfl ?_
  intro p e s m args below meth c s₁ B hml hv
  obtain ⟨rfl, ⟨hsz, hP, hK, hD0⟩⟩ := hv
  have hx := B.exec
  have hb := B.bytes
  have hr := B.returns
  have hts := atoms_spec (ws := wsX3_writeVariable) B.pre
  have hown : s.vm.findClass RX3 = some m.cls := findClass_of_methodNamed B.named
  have hlocks := B.notSynchronized
  subst hsz
  have hD := hD0.self (sz := s.heap.size)
  generalize hAe : va_A (W_X3_writeVariable h_this h_this_signs k_this_signs u_this_waiting u_this_waitingSize v_this_first v_this_signs) s.heap.size = A at hD ⊢
  have hA : ∀ q : Nat, s.heap.size ≤ q → A q := fun q h => by rw [← hAe]; exact Or.inr h
  clear hAe hD0
  have hS : va_S A s.heap s.heap [] := va_S.rf
  have hP : va_P (dC, dI) vwCl [(h_this, .inr (3, [.ref h_this_signs, .int v_this_first, u_this_waiting, u_this_waitingSize])), (h_this_signs, .inl (k_this_signs, 800, .inl (v_this_signs)))] s.heap := hP
  have hD : va_D A [(h_this, .inr (3, [.ref h_this_signs, .int v_this_first, u_this_waiting, u_this_waitingSize])), (h_this_signs, .inl (k_this_signs, 800, .inl (v_this_signs)))] := hD
  have hl := lv_entry ([.ref h_this, .int a_p1]) (n := 2) (Nat.le_of_ble_eq_true rfl)
  rw [lg_entry_eq]
  generalize (lg_sl ([.ref h_this, .int a_p1]) ++ List.replicate (2 - (lg_sl ([.ref h_this, .int a_p1])).length) Slot.unset).toArray = ls at hl ⊢
  have hl : lv_has ls 2 [(0, .ref h_this), (1, .int a_p1)] := hl
  have h := hd
  unfold f_X3_writeVariable at h
  obtain ⟨H, hHe⟩ : ∃ H, H = s.heap := ⟨_, rfl⟩
  obtain ⟨locs, hLe⟩ : ∃ L : List Loc, L = [] := ⟨_, rfl⟩
  have hS : va_S A s.heap H locs := by rw [hHe, hLe]; exact hS
  have hP : va_P (dC, dI) vwCl [(h_this, .inr (3, [.ref h_this_signs, .int v_this_first, u_this_waiting, u_this_waitingSize])), (h_this_signs, .inl (k_this_signs, 800, .inl (v_this_signs)))] H := by rw [hHe]; exact hP
  rw [show W p l e (headSpec wsX3_writeVariable ({ frames := 1, cells := 0, slots := 0, locals := 21 })).room s m [.ref h_this, .int a_p1].toArray below meth c s.heap [] 0 0 = W p l e (headSpec wsX3_writeVariable ({ frames := 1, cells := 0, slots := 0, locals := 21 })).room s m [.ref h_this, .int a_p1].toArray below meth c H locs 0 0 by rw [hHe, hLe]]
  clear hHe hLe
  refine lv_aload_n hx hb dX3_writeVariable_0 rfl (lv_at hl 0 rfl) ?_
  refine lv_bipush (v := 97) hx hb dX3_writeVariable_1 (by decide) ?_
  refine lv_iload_n hx hb dX3_writeVariable_3 rfl (lv_at hl 1 rfl) ?_
  refine lv_iadd hx hb dX3_writeVariable_4 ?_
  refine lv_i2c hx hb dX3_writeVariable_5 rfl ?_
  obtain ⟨⟨r1_this_first, r1_this_signs⟩, gr1, h⟩ := Option.bind_eq_some_iff.mp h
  try dsimp only at h
  have hPc := hP.sub (ws' := W_X3_write h_this h_this_signs k_this_signs u_this_waiting u_this_waitingSize v_this_first v_this_signs) [0, 1] rfl
  have hDc := hD.sub (ws' := W_X3_write h_this h_this_signs k_this_signs u_this_waiting u_this_waitingSize v_this_first v_this_signs) [0, 1] (by decide) rfl
  have hKc := hK.sub (tys' := [(k_this_signs, .char)]) [0] rfl
  have hFc := va_free (wc := W_X3_write h_this h_this_signs k_this_signs u_this_waiting u_this_waitingSize v_this_first v_this_signs) hD hS hA [0, 1] rfl
  refine va_callv (va_runV (As := [.int (((97 + a_p1).toUInt32 % 65536).toInt32)]) (rest := []) ⟨hx, hb, hml, hown, hts⟩ (c_X3_write l dC dI h_this h_this_signs k_this_signs u_this_waiting u_this_waitingSize H.size v_this_first v_this_signs (((97 + a_p1).toUInt32 % 65536).toInt32) (r1_this_first, r1_this_signs) gr1) (cwV 1 hts gX3_writeVariable_X3_write rfl rfl rfl hd_X3_write ⟨Nat.le_of_ble_eq_true rfl, Nat.le_of_ble_eq_true rfl⟩) (preV hKc hPc hDc (va_recv hK hP (ci := 3) (q0 := 0) rfl rfl)) rfl rfl hl.1 rfl (lv_room (Nat.le_of_ble_eq_true rfl)) dX3_writeVariable_6 ⟨Nat.zero_le _, Nat.zero_le _⟩) hS (fun q _ h => hFc q h) hFc (fun ur1 tr1 H1 locs htr1 hvmr1 hw hB hz1 hk1 hS => ?_)
  obtain rfl := hw.symm
  obtain ⟨hP1, hK1, hD1⟩ := hB
  rw [htr1] at hP1
  obtain ⟨hP, hD⟩ := va_join (wr := []) (w1 := W_X3_write h_this h_this_signs k_this_signs u_this_waiting u_this_waitingSize r1_this_first r1_this_signs) hP hD [0, 1] [] rfl rfl (by decide) (by decide) hk1 hFc hP1 hD1
  have hP := hP.sub (ws' := [(h_this, .inr (3, [.ref h_this_signs, .int r1_this_first, u_this_waiting, u_this_waitingSize])), (h_this_signs, .inl (k_this_signs, 800, .inl (r1_this_signs)))]) [0, 1] rfl
  have hD := hD.sub (ws' := [(h_this, .inr (3, [.ref h_this_signs, .int r1_this_first, u_this_waiting, u_this_waitingSize])), (h_this_signs, .inl (k_this_signs, 800, .inl (r1_this_signs)))]) [0, 1] (by decide) rfl
  generalize H1 = H at hP hS ⊢
  clear hk1 hz1
  obtain rfl := Option.some.inj h
  exact W.vret hx hb hr (fun t ht hW => ⟨⟨(r1_this_first, r1_this_signs), rfl, rfl, by rw [ht]; exact hP, va_K.moved hW.alike hK, hD⟩, hS.F ht⟩) hS.2.2 dX3_writeVariable_9
abbrev W_X3_writeNumber (h_this h_this_signs : Nat) (k_this_signs : ClassId) (u_this_waiting u_this_waitingSize : Value) (v_this_first : Int32) (v_this_signs : Nat → Int32) : va_W := [(h_this, .inr (3, [.ref h_this_signs, .int v_this_first, u_this_waiting, u_this_waitingSize])), (h_this_signs, .inl (k_this_signs, 800, .inl (v_this_signs)))]
def f_X3_writeNumber_B13 (n : Nat) (v_this_first : Int32) (v_this_signs : Nat → Int32) (l1 : Int32) (l2 : Int32) (l3 : Int32) : Option (Int32 × (Nat → Int32)) := match n with
  | 0 => none
  | n + 1 => if 3 ≤ l3 then if 0 ≤ l1 then some ((v_this_first, v_this_signs)) else (f_X3_write v_this_first v_this_signs 45).bind fun q6 => some ((q6.1, q6.2)) else if l3 = 0 then (f_X3_write v_this_first v_this_signs (((48 + (l2 - l2 / 10 * 10)).toUInt32 % 65536).toInt32)).bind fun q10 => f_X3_writeNumber_B13 n q10.1 q10.2 l1 (l2 / 10) (l3 + 1) else if l2 ≤ 0 then if 0 ≤ l1 then some ((v_this_first, v_this_signs)) else (f_X3_write v_this_first v_this_signs 45).bind fun q16 => some ((q16.1, q16.2)) else (f_X3_write v_this_first v_this_signs (((48 + (l2 - l2 / 10 * 10)).toUInt32 % 65536).toInt32)).bind fun q19 => f_X3_writeNumber_B13 n q19.1 q19.2 l1 (l2 / 10) (l3 + 1)
def f_X3_writeNumber (v_this_first : Int32) (v_this_signs : Nat → Int32) (a_p1 : Int32) : Option (Int32 × (Nat → Int32)) := if 0 ≤ a_p1 then f_X3_writeNumber_B13 FU v_this_first v_this_signs a_p1 a_p1 0 else f_X3_writeNumber_B13 FU v_this_first v_this_signs a_p1 (-a_p1) 0
theorem hdn_X3_writeNumber : yX3_writeNumber.cls ≠ "java/lang/invoke/MethodHandle" ∧ yX3_writeNumber.cls ≠ "java/lang/invoke/VarHandle" ∧ (parseMethodDescriptor yX3_writeNumber.desc).map (fun d => d.parameters.length) = some 1 := by decide +kernel
theorem hd_X3_writeNumber : yX3_writeNumber.cls = RX3 ∧ yX3_writeNumber.cls ≠ "java/lang/invoke/MethodHandle" ∧ yX3_writeNumber.cls ≠ "java/lang/invoke/VarHandle" ∧ (parseMethodDescriptor yX3_writeNumber.desc).map (fun d => d.parameters.length) = some 1 := ⟨rfl, hdn_X3_writeNumber⟩
set_option maxHeartbeats 4000000 in
set_option maxRecDepth 100000 in
theorem c_X3_writeNumber (l : Launch) (dC : Nat → ClassId) (dI : Nat → Nat → Nat) (h_this h_this_signs : Nat) (k_this_signs : ClassId) (u_this_waiting u_this_waitingSize : Value) (sz : Nat) (v_this_first : Int32) (v_this_signs : Nat → Int32) (a_p1 : Int32) (res : Int32 × (Nat → Int32)) (hd : f_X3_writeNumber v_this_first v_this_signs a_p1 = some res) : Met l yX3_writeNumber wsX3_writeNumber ({ frames := 1, cells := 0, slots := 0, locals := 21 }) (va_Pc [.ref h_this, .int a_p1] (fun U => mPre dC dI (W_X3_writeNumber h_this h_this_signs k_this_signs u_this_waiting u_this_waitingSize v_this_first v_this_signs) [(k_this_signs, .char)] sz U)) (va_Qv (fun (u : Int32 × (Nat → Int32)) => u = res) (fun (u : Int32 × (Nat → Int32)) t => mPost dC dI (va_A (W_X3_writeNumber h_this h_this_signs k_this_signs u_this_waiting u_this_waitingSize v_this_first v_this_signs) sz) (W_X3_writeNumber h_this h_this_signs k_this_signs u_this_waiting u_this_waitingSize u.1 u.2) [(k_this_signs, .char)] t) (va_A (W_X3_writeNumber h_this h_this_signs k_this_signs u_this_waiting u_this_waitingSize v_this_first v_this_signs) sz)) 0 0 (va_A (W_X3_writeNumber h_this h_this_signs k_this_signs u_this_waiting u_this_waitingSize v_this_first v_this_signs) sz) := by
  refine Met.ofW (cc := cX3_writeNumber) (maxL := 4) (ret := none) (by decide) rfl ?_
  intro p e s m args below meth c s₁ B hml hv
  obtain ⟨rfl, ⟨hsz, hP, hK, hD0⟩⟩ := hv
  have hx := B.exec
  have hb := B.bytes
  have hr := B.returns
  have hts := atoms_spec (ws := wsX3_writeNumber) B.pre
  have hown : s.vm.findClass RX3 = some m.cls := findClass_of_methodNamed B.named
  have hlocks := B.notSynchronized
  subst hsz
  have hD := hD0.self (sz := s.heap.size)
  generalize hAe : va_A (W_X3_writeNumber h_this h_this_signs k_this_signs u_this_waiting u_this_waitingSize v_this_first v_this_signs) s.heap.size = A at hD ⊢
  have hA : ∀ q : Nat, s.heap.size ≤ q → A q := fun q h => by rw [← hAe]; exact Or.inr h
  clear hAe hD0
  have hS : va_S A s.heap s.heap [] := va_S.rf
  have hP : va_P (dC, dI) vwCl [(h_this, .inr (3, [.ref h_this_signs, .int v_this_first, u_this_waiting, u_this_waitingSize])), (h_this_signs, .inl (k_this_signs, 800, .inl (v_this_signs)))] s.heap := hP
  have hD : va_D A [(h_this, .inr (3, [.ref h_this_signs, .int v_this_first, u_this_waiting, u_this_waitingSize])), (h_this_signs, .inl (k_this_signs, 800, .inl (v_this_signs)))] := hD
  have B13 : ∀ n : Nat, ∀ (v_this_first : Int32) (v_this_signs : Nat → Int32) (l1 : Int32) (l2 : Int32) (l3 : Int32) (H : Heap) (locs : List Loc) (ls : Array Slot), f_X3_writeNumber_B13 n v_this_first v_this_signs l1 l2 l3 = some res → va_P (dC, dI) vwCl [(h_this, .inr (3, [.ref h_this_signs, .int v_this_first, u_this_waiting, u_this_waitingSize])), (h_this_signs, .inl (k_this_signs, 800, .inl (v_this_signs)))] H → va_D A [(h_this, .inr (3, [.ref h_this_signs, .int v_this_first, u_this_waiting, u_this_waitingSize])), (h_this_signs, .inl (k_this_signs, 800, .inl (v_this_signs)))] → va_S A s.heap H locs → lv_has ls 4 [(0, .ref h_this), (1, .int l1), (2, .int l2), (3, .int l3)] → W p l e (headSpec wsX3_writeNumber ({ frames := 1, cells := 0, slots := 0, locals := 21 })).room s m [.ref h_this, .int a_p1].toArray below meth c H locs 0 0 (MQ below (va_Qv (fun (u : Int32 × (Nat → Int32)) => u = res) (fun (u : Int32 × (Nat → Int32)) t => mPost dC dI A (W_X3_writeNumber h_this h_this_signs k_this_signs u_this_waiting u_this_waitingSize u.1 u.2) [(k_this_signs, .char)] t) A) [.ref h_this, .int a_p1].toArray s 0 0 A) (F0 m 13 ls []) := by
    intro n
    clear hP hD hS hd
    induction n with
    | zero => intro v_this_first v_this_signs l1 l2 l3 H locs ls h; exact absurd h (by rw [f_X3_writeNumber_B13]; exact fun z => nomatch z)
    | succ n ih13 =>
      intro v_this_first v_this_signs l1 l2 l3 H locs ls h hP hD hS hl
      rw [f_X3_writeNumber_B13] at h
      refine lv_iload_n hx hb dX3_writeNumber_13 rfl (lv_at hl 3 rfl) ?_
      refine lv_iconst (v := 3) hx hb dX3_writeNumber_14 (by decide) ?_
      refine lv_icmp_ge (tgt := 49) hx hb dX3_writeNumber_15 (by decide) (fun c3 => ?_) (fun c3 => ?_)
      · have h := it_t h c3
        refine lv_iload_n hx hb dX3_writeNumber_49 rfl (lv_at hl 1 rfl) ?_
        refine lv_if_ge (tgt := 59) hx hb dX3_writeNumber_50 (by decide) (fun c4 => ?_) (fun c4 => ?_)
        · have h := it_t h c4
          obtain rfl := Option.some.inj h
          exact W.vret hx hb hr (fun t ht hW => ⟨⟨(v_this_first, v_this_signs), rfl, rfl, by rw [ht]; exact hP, va_K.moved hW.alike hK, hD⟩, hS.F ht⟩) hS.2.2 dX3_writeNumber_59
        · have h := it_f h c4
          refine lv_aload_n hx hb dX3_writeNumber_53 rfl (lv_at hl 0 rfl) ?_
          refine lv_bipush (v := 45) hx hb dX3_writeNumber_54 (by decide) ?_
          obtain ⟨⟨r5_this_first, r5_this_signs⟩, gr5, h⟩ := Option.bind_eq_some_iff.mp h
          try dsimp only at h
          have hPc := hP.sub (ws' := W_X3_write h_this h_this_signs k_this_signs u_this_waiting u_this_waitingSize v_this_first v_this_signs) [0, 1] rfl
          have hDc := hD.sub (ws' := W_X3_write h_this h_this_signs k_this_signs u_this_waiting u_this_waitingSize v_this_first v_this_signs) [0, 1] (by decide) rfl
          have hKc := hK.sub (tys' := [(k_this_signs, .char)]) [0] rfl
          have hFc := va_free (wc := W_X3_write h_this h_this_signs k_this_signs u_this_waiting u_this_waitingSize v_this_first v_this_signs) hD hS hA [0, 1] rfl
          refine va_callv (va_runV (As := [.int 45]) (rest := []) ⟨hx, hb, hml, hown, hts⟩ (c_X3_write l dC dI h_this h_this_signs k_this_signs u_this_waiting u_this_waitingSize H.size v_this_first v_this_signs 45 (r5_this_first, r5_this_signs) gr5) (cwV 1 hts gX3_writeNumber_X3_write rfl rfl rfl hd_X3_write ⟨Nat.le_of_ble_eq_true rfl, Nat.le_of_ble_eq_true rfl⟩) (preV hKc hPc hDc (va_recv hK hP (ci := 3) (q0 := 0) rfl rfl)) rfl rfl hl.1 rfl (lv_room (Nat.le_of_ble_eq_true rfl)) dX3_writeNumber_56 ⟨Nat.zero_le _, Nat.zero_le _⟩) hS (fun q _ h => hFc q h) hFc (fun ur5 tr5 H1 locs htr5 hvmr5 hw hB hz1 hk1 hS => ?_)
          obtain rfl := hw.symm
          obtain ⟨hP1, hK1, hD1⟩ := hB
          rw [htr5] at hP1
          obtain ⟨hP, hD⟩ := va_join (wr := []) (w1 := W_X3_write h_this h_this_signs k_this_signs u_this_waiting u_this_waitingSize r5_this_first r5_this_signs) hP hD [0, 1] [] rfl rfl (by decide) (by decide) hk1 hFc hP1 hD1
          have hP := hP.sub (ws' := [(h_this, .inr (3, [.ref h_this_signs, .int r5_this_first, u_this_waiting, u_this_waitingSize])), (h_this_signs, .inl (k_this_signs, 800, .inl (r5_this_signs)))]) [0, 1] rfl
          have hD := hD.sub (ws' := [(h_this, .inr (3, [.ref h_this_signs, .int r5_this_first, u_this_waiting, u_this_waitingSize])), (h_this_signs, .inl (k_this_signs, 800, .inl (r5_this_signs)))]) [0, 1] (by decide) rfl
          generalize H1 = H at hP hS ⊢
          clear hk1 hz1
          obtain rfl := Option.some.inj h
          exact W.vret hx hb hr (fun t ht hW => ⟨⟨(r5_this_first, r5_this_signs), rfl, rfl, by rw [ht]; exact hP, va_K.moved hW.alike hK, hD⟩, hS.F ht⟩) hS.2.2 dX3_writeNumber_59
      · have h := it_f h c3
        refine lv_iload_n hx hb dX3_writeNumber_18 rfl (lv_at hl 3 rfl) ?_
        refine lv_if_eq (tgt := 26) hx hb dX3_writeNumber_19 (by decide) (fun c7 => ?_) (fun c7 => ?_)
        · have h := it_t h c7
          refine lv_aload_n hx hb dX3_writeNumber_26 rfl (lv_at hl 0 rfl) ?_
          refine lv_bipush (v := 48) hx hb dX3_writeNumber_27 (by decide) ?_
          refine lv_iload_n hx hb dX3_writeNumber_29 rfl (lv_at hl 2 rfl) ?_
          refine lv_bipush (v := 10) hx hb dX3_writeNumber_30 (by decide) ?_
          refine lv_irem hx hb dX3_writeNumber_32 (by decide) ?_
          refine lv_iadd hx hb dX3_writeNumber_33 ?_
          refine lv_i2c hx hb dX3_writeNumber_34 rfl ?_
          obtain ⟨⟨r9_this_first, r9_this_signs⟩, gr9, h⟩ := Option.bind_eq_some_iff.mp h
          try dsimp only at h
          have hPc := hP.sub (ws' := W_X3_write h_this h_this_signs k_this_signs u_this_waiting u_this_waitingSize v_this_first v_this_signs) [0, 1] rfl
          have hDc := hD.sub (ws' := W_X3_write h_this h_this_signs k_this_signs u_this_waiting u_this_waitingSize v_this_first v_this_signs) [0, 1] (by decide) rfl
          have hKc := hK.sub (tys' := [(k_this_signs, .char)]) [0] rfl
          have hFc := va_free (wc := W_X3_write h_this h_this_signs k_this_signs u_this_waiting u_this_waitingSize v_this_first v_this_signs) hD hS hA [0, 1] rfl
          refine va_callv (va_runV (As := [.int (((48 + (l2 - l2 / 10 * 10)).toUInt32 % 65536).toInt32)]) (rest := []) ⟨hx, hb, hml, hown, hts⟩ (c_X3_write l dC dI h_this h_this_signs k_this_signs u_this_waiting u_this_waitingSize H.size v_this_first v_this_signs (((48 + (l2 - l2 / 10 * 10)).toUInt32 % 65536).toInt32) (r9_this_first, r9_this_signs) gr9) (cwV 1 hts gX3_writeNumber_X3_write rfl rfl rfl hd_X3_write ⟨Nat.le_of_ble_eq_true rfl, Nat.le_of_ble_eq_true rfl⟩) (preV hKc hPc hDc (va_recv hK hP (ci := 3) (q0 := 0) rfl rfl)) rfl rfl hl.1 rfl (lv_room (Nat.le_of_ble_eq_true rfl)) dX3_writeNumber_35 ⟨Nat.zero_le _, Nat.zero_le _⟩) hS (fun q _ h => hFc q h) hFc (fun ur9 tr9 H1 locs htr9 hvmr9 hw hB hz1 hk1 hS => ?_)
          obtain rfl := hw.symm
          obtain ⟨hP1, hK1, hD1⟩ := hB
          rw [htr9] at hP1
          obtain ⟨hP, hD⟩ := va_join (wr := []) (w1 := W_X3_write h_this h_this_signs k_this_signs u_this_waiting u_this_waitingSize r9_this_first r9_this_signs) hP hD [0, 1] [] rfl rfl (by decide) (by decide) hk1 hFc hP1 hD1
          have hP := hP.sub (ws' := [(h_this, .inr (3, [.ref h_this_signs, .int r9_this_first, u_this_waiting, u_this_waitingSize])), (h_this_signs, .inl (k_this_signs, 800, .inl (r9_this_signs)))]) [0, 1] rfl
          have hD := hD.sub (ws' := [(h_this, .inr (3, [.ref h_this_signs, .int r9_this_first, u_this_waiting, u_this_waitingSize])), (h_this_signs, .inl (k_this_signs, 800, .inl (r9_this_signs)))]) [0, 1] (by decide) rfl
          generalize H1 = H at hP hS ⊢
          clear hk1 hz1
          refine lv_iload_n hx hb dX3_writeNumber_38 rfl (lv_at hl 2 rfl) ?_
          refine lv_bipush (v := 10) hx hb dX3_writeNumber_39 (by decide) ?_
          refine lv_idiv hx hb dX3_writeNumber_41 (by decide) ?_
          refine lv_topi (fun y12 ey12 => ?_)
          subst ey12
          refine lv_istore_n (lv' := [(2, .int (l2 / 10)), (0, .ref h_this), (1, .int l1), (3, .int l3)]) hx hb dX3_writeNumber_42 rfl hl (by decide) rfl (fun ls hl => ?_)
          refine lv_iinc (v := l3 + 1) (lv' := [(3, .int (l3 + 1)), (2, .int (l2 / 10)), (0, .ref h_this), (1, .int l1)]) hx hb dX3_writeNumber_43 hl (k := 3) rfl rfl (by decide) rfl (fun ls hl => ?_)
          refine lv_goto (tgt := 13) hx hb dX3_writeNumber_46 (by decide) ?_
          exact ih13 r9_this_first r9_this_signs l1 (l2 / 10) (l3 + 1) H locs ls h hP hD hS (lv_sub hl [2, 3, 1, 0] rfl)
        · have h := it_f h c7
          refine lv_iload_n hx hb dX3_writeNumber_22 rfl (lv_at hl 2 rfl) ?_
          refine lv_if_le (tgt := 49) hx hb dX3_writeNumber_23 (by decide) (fun c13 => ?_) (fun c13 => ?_)
          · have h := it_t h c13
            refine lv_iload_n hx hb dX3_writeNumber_49 rfl (lv_at hl 1 rfl) ?_
            refine lv_if_ge (tgt := 59) hx hb dX3_writeNumber_50 (by decide) (fun c14 => ?_) (fun c14 => ?_)
            · have h := it_t h c14
              obtain rfl := Option.some.inj h
              exact W.vret hx hb hr (fun t ht hW => ⟨⟨(v_this_first, v_this_signs), rfl, rfl, by rw [ht]; exact hP, va_K.moved hW.alike hK, hD⟩, hS.F ht⟩) hS.2.2 dX3_writeNumber_59
            · have h := it_f h c14
              refine lv_aload_n hx hb dX3_writeNumber_53 rfl (lv_at hl 0 rfl) ?_
              refine lv_bipush (v := 45) hx hb dX3_writeNumber_54 (by decide) ?_
              obtain ⟨⟨r15_this_first, r15_this_signs⟩, gr15, h⟩ := Option.bind_eq_some_iff.mp h
              try dsimp only at h
              have hPc := hP.sub (ws' := W_X3_write h_this h_this_signs k_this_signs u_this_waiting u_this_waitingSize v_this_first v_this_signs) [0, 1] rfl
              have hDc := hD.sub (ws' := W_X3_write h_this h_this_signs k_this_signs u_this_waiting u_this_waitingSize v_this_first v_this_signs) [0, 1] (by decide) rfl
              have hKc := hK.sub (tys' := [(k_this_signs, .char)]) [0] rfl
              have hFc := va_free (wc := W_X3_write h_this h_this_signs k_this_signs u_this_waiting u_this_waitingSize v_this_first v_this_signs) hD hS hA [0, 1] rfl
              refine va_callv (va_runV (As := [.int 45]) (rest := []) ⟨hx, hb, hml, hown, hts⟩ (c_X3_write l dC dI h_this h_this_signs k_this_signs u_this_waiting u_this_waitingSize H.size v_this_first v_this_signs 45 (r15_this_first, r15_this_signs) gr15) (cwV 1 hts gX3_writeNumber_X3_write rfl rfl rfl hd_X3_write ⟨Nat.le_of_ble_eq_true rfl, Nat.le_of_ble_eq_true rfl⟩) (preV hKc hPc hDc (va_recv hK hP (ci := 3) (q0 := 0) rfl rfl)) rfl rfl hl.1 rfl (lv_room (Nat.le_of_ble_eq_true rfl)) dX3_writeNumber_56 ⟨Nat.zero_le _, Nat.zero_le _⟩) hS (fun q _ h => hFc q h) hFc (fun ur15 tr15 H1 locs htr15 hvmr15 hw hB hz1 hk1 hS => ?_)
              obtain rfl := hw.symm
              obtain ⟨hP1, hK1, hD1⟩ := hB
              rw [htr15] at hP1
              obtain ⟨hP, hD⟩ := va_join (wr := []) (w1 := W_X3_write h_this h_this_signs k_this_signs u_this_waiting u_this_waitingSize r15_this_first r15_this_signs) hP hD [0, 1] [] rfl rfl (by decide) (by decide) hk1 hFc hP1 hD1
              have hP := hP.sub (ws' := [(h_this, .inr (3, [.ref h_this_signs, .int r15_this_first, u_this_waiting, u_this_waitingSize])), (h_this_signs, .inl (k_this_signs, 800, .inl (r15_this_signs)))]) [0, 1] rfl
              have hD := hD.sub (ws' := [(h_this, .inr (3, [.ref h_this_signs, .int r15_this_first, u_this_waiting, u_this_waitingSize])), (h_this_signs, .inl (k_this_signs, 800, .inl (r15_this_signs)))]) [0, 1] (by decide) rfl
              generalize H1 = H at hP hS ⊢
              clear hk1 hz1
              obtain rfl := Option.some.inj h
              exact W.vret hx hb hr (fun t ht hW => ⟨⟨(r15_this_first, r15_this_signs), rfl, rfl, by rw [ht]; exact hP, va_K.moved hW.alike hK, hD⟩, hS.F ht⟩) hS.2.2 dX3_writeNumber_59
          · have h := it_f h c13
            refine lv_aload_n hx hb dX3_writeNumber_26 rfl (lv_at hl 0 rfl) ?_
            refine lv_bipush (v := 48) hx hb dX3_writeNumber_27 (by decide) ?_
            refine lv_iload_n hx hb dX3_writeNumber_29 rfl (lv_at hl 2 rfl) ?_
            refine lv_bipush (v := 10) hx hb dX3_writeNumber_30 (by decide) ?_
            refine lv_irem hx hb dX3_writeNumber_32 (by decide) ?_
            refine lv_iadd hx hb dX3_writeNumber_33 ?_
            refine lv_i2c hx hb dX3_writeNumber_34 rfl ?_
            obtain ⟨⟨r18_this_first, r18_this_signs⟩, gr18, h⟩ := Option.bind_eq_some_iff.mp h
            try dsimp only at h
            have hPc := hP.sub (ws' := W_X3_write h_this h_this_signs k_this_signs u_this_waiting u_this_waitingSize v_this_first v_this_signs) [0, 1] rfl
            have hDc := hD.sub (ws' := W_X3_write h_this h_this_signs k_this_signs u_this_waiting u_this_waitingSize v_this_first v_this_signs) [0, 1] (by decide) rfl
            have hKc := hK.sub (tys' := [(k_this_signs, .char)]) [0] rfl
            have hFc := va_free (wc := W_X3_write h_this h_this_signs k_this_signs u_this_waiting u_this_waitingSize v_this_first v_this_signs) hD hS hA [0, 1] rfl
            refine va_callv (va_runV (As := [.int (((48 + (l2 - l2 / 10 * 10)).toUInt32 % 65536).toInt32)]) (rest := []) ⟨hx, hb, hml, hown, hts⟩ (c_X3_write l dC dI h_this h_this_signs k_this_signs u_this_waiting u_this_waitingSize H.size v_this_first v_this_signs (((48 + (l2 - l2 / 10 * 10)).toUInt32 % 65536).toInt32) (r18_this_first, r18_this_signs) gr18) (cwV 1 hts gX3_writeNumber_X3_write rfl rfl rfl hd_X3_write ⟨Nat.le_of_ble_eq_true rfl, Nat.le_of_ble_eq_true rfl⟩) (preV hKc hPc hDc (va_recv hK hP (ci := 3) (q0 := 0) rfl rfl)) rfl rfl hl.1 rfl (lv_room (Nat.le_of_ble_eq_true rfl)) dX3_writeNumber_35 ⟨Nat.zero_le _, Nat.zero_le _⟩) hS (fun q _ h => hFc q h) hFc (fun ur18 tr18 H1 locs htr18 hvmr18 hw hB hz1 hk1 hS => ?_)
            obtain rfl := hw.symm
            obtain ⟨hP1, hK1, hD1⟩ := hB
            rw [htr18] at hP1
            obtain ⟨hP, hD⟩ := va_join (wr := []) (w1 := W_X3_write h_this h_this_signs k_this_signs u_this_waiting u_this_waitingSize r18_this_first r18_this_signs) hP hD [0, 1] [] rfl rfl (by decide) (by decide) hk1 hFc hP1 hD1
            have hP := hP.sub (ws' := [(h_this, .inr (3, [.ref h_this_signs, .int r18_this_first, u_this_waiting, u_this_waitingSize])), (h_this_signs, .inl (k_this_signs, 800, .inl (r18_this_signs)))]) [0, 1] rfl
            have hD := hD.sub (ws' := [(h_this, .inr (3, [.ref h_this_signs, .int r18_this_first, u_this_waiting, u_this_waitingSize])), (h_this_signs, .inl (k_this_signs, 800, .inl (r18_this_signs)))]) [0, 1] (by decide) rfl
            generalize H1 = H at hP hS ⊢
            clear hk1 hz1
            refine lv_iload_n hx hb dX3_writeNumber_38 rfl (lv_at hl 2 rfl) ?_
            refine lv_bipush (v := 10) hx hb dX3_writeNumber_39 (by decide) ?_
            refine lv_idiv hx hb dX3_writeNumber_41 (by decide) ?_
            refine lv_topi (fun y21 ey21 => ?_)
            subst ey21
            refine lv_istore_n (lv' := [(2, .int (l2 / 10)), (0, .ref h_this), (1, .int l1), (3, .int l3)]) hx hb dX3_writeNumber_42 rfl hl (by decide) rfl (fun ls hl => ?_)
            refine lv_iinc (v := l3 + 1) (lv' := [(3, .int (l3 + 1)), (2, .int (l2 / 10)), (0, .ref h_this), (1, .int l1)]) hx hb dX3_writeNumber_43 hl (k := 3) rfl rfl (by decide) rfl (fun ls hl => ?_)
            refine lv_goto (tgt := 13) hx hb dX3_writeNumber_46 (by decide) ?_
            exact ih13 r18_this_first r18_this_signs l1 (l2 / 10) (l3 + 1) H locs ls h hP hD hS (lv_sub hl [2, 3, 1, 0] rfl)
  have hl := lv_entry ([.ref h_this, .int a_p1]) (n := 4) (Nat.le_of_ble_eq_true rfl)
  rw [lg_entry_eq]
  generalize (lg_sl ([.ref h_this, .int a_p1]) ++ List.replicate (4 - (lg_sl ([.ref h_this, .int a_p1])).length) Slot.unset).toArray = ls at hl ⊢
  have hl : lv_has ls 4 [(0, .ref h_this), (1, .int a_p1)] := hl
  have h := hd
  unfold f_X3_writeNumber at h
  obtain ⟨H, hHe⟩ : ∃ H, H = s.heap := ⟨_, rfl⟩
  obtain ⟨locs, hLe⟩ : ∃ L : List Loc, L = [] := ⟨_, rfl⟩
  have hS : va_S A s.heap H locs := by rw [hHe, hLe]; exact hS
  have hP : va_P (dC, dI) vwCl [(h_this, .inr (3, [.ref h_this_signs, .int v_this_first, u_this_waiting, u_this_waitingSize])), (h_this_signs, .inl (k_this_signs, 800, .inl (v_this_signs)))] H := by rw [hHe]; exact hP
  rw [show W p l e (headSpec wsX3_writeNumber ({ frames := 1, cells := 0, slots := 0, locals := 21 })).room s m [.ref h_this, .int a_p1].toArray below meth c s.heap [] 0 0 = W p l e (headSpec wsX3_writeNumber ({ frames := 1, cells := 0, slots := 0, locals := 21 })).room s m [.ref h_this, .int a_p1].toArray below meth c H locs 0 0 by rw [hHe, hLe]]
  clear hHe hLe
  refine lv_iload_n hx hb dX3_writeNumber_0 rfl (lv_at hl 1 rfl) ?_
  refine lv_if_ge (tgt := 9) hx hb dX3_writeNumber_1 (by decide) (fun c1 => ?_) (fun c1 => ?_)
  · have h := it_t h c1
    refine lv_iload_n hx hb dX3_writeNumber_9 rfl (lv_at hl 1 rfl) ?_
    refine lv_istore_n (lv' := [(2, .int a_p1), (0, .ref h_this), (1, .int a_p1)]) hx hb dX3_writeNumber_10 rfl hl (by decide) rfl (fun ls hl => ?_)
    refine lv_iconst (v := 0) hx hb dX3_writeNumber_11 (by decide) ?_
    refine lv_istore_n (lv' := [(3, .int 0), (2, .int a_p1), (0, .ref h_this), (1, .int a_p1)]) hx hb dX3_writeNumber_12 rfl hl (by decide) rfl (fun ls hl => ?_)
    exact B13 FU v_this_first v_this_signs a_p1 a_p1 0 H locs ls h hP hD hS (lv_sub hl [2, 3, 1, 0] rfl)
  · have h := it_f h c1
    refine lv_iload_n hx hb dX3_writeNumber_4 rfl (lv_at hl 1 rfl) ?_
    refine lv_ineg hx hb dX3_writeNumber_5 ?_
    refine lv_goto (tgt := 10) hx hb dX3_writeNumber_6 (by decide) ?_
    refine lv_topi (fun y2 ey2 => ?_)
    subst ey2
    refine lv_istore_n (lv' := [(2, .int (-a_p1)), (0, .ref h_this), (1, .int a_p1)]) hx hb dX3_writeNumber_10 rfl hl (by decide) rfl (fun ls hl => ?_)
    refine lv_iconst (v := 0) hx hb dX3_writeNumber_11 (by decide) ?_
    refine lv_istore_n (lv' := [(3, .int 0), (2, .int (-a_p1)), (0, .ref h_this), (1, .int a_p1)]) hx hb dX3_writeNumber_12 rfl hl (by decide) rfl (fun ls hl => ?_)
    exact B13 FU v_this_first v_this_signs a_p1 (-a_p1) 0 H locs ls h hP hD hS (lv_sub hl [2, 3, 1, 0] rfl)
abbrev W_X3_writeTemporary (h_this h_this_signs : Nat) (k_this_signs : ClassId) (u_this_waiting u_this_waitingSize : Value) (v_this_first : Int32) (v_this_signs : Nat → Int32) : va_W := [(h_this, .inr (3, [.ref h_this_signs, .int v_this_first, u_this_waiting, u_this_waitingSize])), (h_this_signs, .inl (k_this_signs, 800, .inl (v_this_signs)))]
def f_X3_writeTemporary (v_this_first : Int32) (v_this_signs : Nat → Int32) (a_p1 : Int32) : Option (Int32 × (Nat → Int32)) := (f_X3_writeNumber v_this_first v_this_signs a_p1).bind fun q2 => (f_X3_write q2.1 q2.2 116).bind fun q4 => some ((q4.1, q4.2))
theorem hdn_X3_writeTemporary : yX3_writeTemporary.cls ≠ "java/lang/invoke/MethodHandle" ∧ yX3_writeTemporary.cls ≠ "java/lang/invoke/VarHandle" ∧ (parseMethodDescriptor yX3_writeTemporary.desc).map (fun d => d.parameters.length) = some 1 := by decide +kernel
theorem hd_X3_writeTemporary : yX3_writeTemporary.cls = RX3 ∧ yX3_writeTemporary.cls ≠ "java/lang/invoke/MethodHandle" ∧ yX3_writeTemporary.cls ≠ "java/lang/invoke/VarHandle" ∧ (parseMethodDescriptor yX3_writeTemporary.desc).map (fun d => d.parameters.length) = some 1 := ⟨rfl, hdn_X3_writeTemporary⟩
set_option maxHeartbeats 4000000 in
set_option maxRecDepth 100000 in
theorem c_X3_writeTemporary (l : Launch) (dC : Nat → ClassId) (dI : Nat → Nat → Nat) (h_this h_this_signs : Nat) (k_this_signs : ClassId) (u_this_waiting u_this_waitingSize : Value) (sz : Nat) (v_this_first : Int32) (v_this_signs : Nat → Int32) (a_p1 : Int32) (res : Int32 × (Nat → Int32)) (hd : f_X3_writeTemporary v_this_first v_this_signs a_p1 = some res) : Met l yX3_writeTemporary wsX3_writeTemporary ({ frames := 2, cells := 0, slots := 0, locals := 44 }) (va_Pc [.ref h_this, .int a_p1] (fun U => mPre dC dI (W_X3_writeTemporary h_this h_this_signs k_this_signs u_this_waiting u_this_waitingSize v_this_first v_this_signs) [(k_this_signs, .char)] sz U)) (va_Qv (fun (u : Int32 × (Nat → Int32)) => u = res) (fun (u : Int32 × (Nat → Int32)) t => mPost dC dI (va_A (W_X3_writeTemporary h_this h_this_signs k_this_signs u_this_waiting u_this_waitingSize v_this_first v_this_signs) sz) (W_X3_writeTemporary h_this h_this_signs k_this_signs u_this_waiting u_this_waitingSize u.1 u.2) [(k_this_signs, .char)] t) (va_A (W_X3_writeTemporary h_this h_this_signs k_this_signs u_this_waiting u_this_waitingSize v_this_first v_this_signs) sz)) 0 0 (va_A (W_X3_writeTemporary h_this h_this_signs k_this_signs u_this_waiting u_this_waitingSize v_this_first v_this_signs) sz) := by
  refine Met.ofW (cc := cX3_writeTemporary) (maxL := 2) (ret := none) (by decide) rfl ?_
  intro p e s m args below meth c s₁ B hml hv
  obtain ⟨rfl, ⟨hsz, hP, hK, hD0⟩⟩ := hv
  have hx := B.exec
  have hb := B.bytes
  have hr := B.returns
  have hts := atoms_spec (ws := wsX3_writeTemporary) B.pre
  have hown : s.vm.findClass RX3 = some m.cls := findClass_of_methodNamed B.named
  have hlocks := B.notSynchronized
  subst hsz
  have hD := hD0.self (sz := s.heap.size)
  generalize hAe : va_A (W_X3_writeTemporary h_this h_this_signs k_this_signs u_this_waiting u_this_waitingSize v_this_first v_this_signs) s.heap.size = A at hD ⊢
  have hA : ∀ q : Nat, s.heap.size ≤ q → A q := fun q h => by rw [← hAe]; exact Or.inr h
  clear hAe hD0
  have hS : va_S A s.heap s.heap [] := va_S.rf
  have hP : va_P (dC, dI) vwCl [(h_this, .inr (3, [.ref h_this_signs, .int v_this_first, u_this_waiting, u_this_waitingSize])), (h_this_signs, .inl (k_this_signs, 800, .inl (v_this_signs)))] s.heap := hP
  have hD : va_D A [(h_this, .inr (3, [.ref h_this_signs, .int v_this_first, u_this_waiting, u_this_waitingSize])), (h_this_signs, .inl (k_this_signs, 800, .inl (v_this_signs)))] := hD
  have hl := lv_entry ([.ref h_this, .int a_p1]) (n := 2) (Nat.le_of_ble_eq_true rfl)
  rw [lg_entry_eq]
  generalize (lg_sl ([.ref h_this, .int a_p1]) ++ List.replicate (2 - (lg_sl ([.ref h_this, .int a_p1])).length) Slot.unset).toArray = ls at hl ⊢
  have hl : lv_has ls 2 [(0, .ref h_this), (1, .int a_p1)] := hl
  have h := hd
  unfold f_X3_writeTemporary at h
  obtain ⟨H, hHe⟩ : ∃ H, H = s.heap := ⟨_, rfl⟩
  obtain ⟨locs, hLe⟩ : ∃ L : List Loc, L = [] := ⟨_, rfl⟩
  have hS : va_S A s.heap H locs := by rw [hHe, hLe]; exact hS
  have hP : va_P (dC, dI) vwCl [(h_this, .inr (3, [.ref h_this_signs, .int v_this_first, u_this_waiting, u_this_waitingSize])), (h_this_signs, .inl (k_this_signs, 800, .inl (v_this_signs)))] H := by rw [hHe]; exact hP
  rw [show W p l e (headSpec wsX3_writeTemporary ({ frames := 2, cells := 0, slots := 0, locals := 44 })).room s m [.ref h_this, .int a_p1].toArray below meth c s.heap [] 0 0 = W p l e (headSpec wsX3_writeTemporary ({ frames := 2, cells := 0, slots := 0, locals := 44 })).room s m [.ref h_this, .int a_p1].toArray below meth c H locs 0 0 by rw [hHe, hLe]]
  clear hHe hLe
  refine lv_aload_n hx hb dX3_writeTemporary_0 rfl (lv_at hl 0 rfl) ?_
  refine lv_iload_n hx hb dX3_writeTemporary_1 rfl (lv_at hl 1 rfl) ?_
  obtain ⟨⟨r1_this_first, r1_this_signs⟩, gr1, h⟩ := Option.bind_eq_some_iff.mp h
  try dsimp only at h
  have hPc := hP.sub (ws' := W_X3_writeNumber h_this h_this_signs k_this_signs u_this_waiting u_this_waitingSize v_this_first v_this_signs) [0, 1] rfl
  have hDc := hD.sub (ws' := W_X3_writeNumber h_this h_this_signs k_this_signs u_this_waiting u_this_waitingSize v_this_first v_this_signs) [0, 1] (by decide) rfl
  have hKc := hK.sub (tys' := [(k_this_signs, .char)]) [0] rfl
  have hFc := va_free (wc := W_X3_writeNumber h_this h_this_signs k_this_signs u_this_waiting u_this_waitingSize v_this_first v_this_signs) hD hS hA [0, 1] rfl
  refine va_callv (va_runV (As := [.int a_p1]) (rest := []) ⟨hx, hb, hml, hown, hts⟩ (c_X3_writeNumber l dC dI h_this h_this_signs k_this_signs u_this_waiting u_this_waitingSize H.size v_this_first v_this_signs a_p1 (r1_this_first, r1_this_signs) gr1) (cwV 1 hts gX3_writeTemporary_X3_writeNumber rfl rfl rfl hd_X3_writeNumber ⟨Nat.le_of_ble_eq_true rfl, Nat.le_of_ble_eq_true rfl⟩) (preV hKc hPc hDc (va_recv hK hP (ci := 3) (q0 := 0) rfl rfl)) rfl rfl hl.1 rfl (lv_room (Nat.le_of_ble_eq_true rfl)) dX3_writeTemporary_2 ⟨Nat.zero_le _, Nat.zero_le _⟩) hS (fun q _ h => hFc q h) hFc (fun ur1 tr1 H1 locs htr1 hvmr1 hw hB hz1 hk1 hS => ?_)
  obtain rfl := hw.symm
  obtain ⟨hP1, hK1, hD1⟩ := hB
  rw [htr1] at hP1
  obtain ⟨hP, hD⟩ := va_join (wr := []) (w1 := W_X3_writeNumber h_this h_this_signs k_this_signs u_this_waiting u_this_waitingSize r1_this_first r1_this_signs) hP hD [0, 1] [] rfl rfl (by decide) (by decide) hk1 hFc hP1 hD1
  have hP := hP.sub (ws' := [(h_this, .inr (3, [.ref h_this_signs, .int r1_this_first, u_this_waiting, u_this_waitingSize])), (h_this_signs, .inl (k_this_signs, 800, .inl (r1_this_signs)))]) [0, 1] rfl
  have hD := hD.sub (ws' := [(h_this, .inr (3, [.ref h_this_signs, .int r1_this_first, u_this_waiting, u_this_waitingSize])), (h_this_signs, .inl (k_this_signs, 800, .inl (r1_this_signs)))]) [0, 1] (by decide) rfl
  generalize H1 = H at hP hS ⊢
  clear hk1 hz1
  refine lv_aload_n hx hb dX3_writeTemporary_5 rfl (lv_at hl 0 rfl) ?_
  refine lv_bipush (v := 116) hx hb dX3_writeTemporary_6 (by decide) ?_
  obtain ⟨⟨r3_this_first, r3_this_signs⟩, gr3, h⟩ := Option.bind_eq_some_iff.mp h
  try dsimp only at h
  have hPc := hP.sub (ws' := W_X3_write h_this h_this_signs k_this_signs u_this_waiting u_this_waitingSize r1_this_first r1_this_signs) [0, 1] rfl
  have hDc := hD.sub (ws' := W_X3_write h_this h_this_signs k_this_signs u_this_waiting u_this_waitingSize r1_this_first r1_this_signs) [0, 1] (by decide) rfl
  have hKc := hK.sub (tys' := [(k_this_signs, .char)]) [0] rfl
  have hFc := va_free (wc := W_X3_write h_this h_this_signs k_this_signs u_this_waiting u_this_waitingSize r1_this_first r1_this_signs) hD hS hA [0, 1] rfl
  refine va_callv (va_runV (As := [.int 116]) (rest := []) ⟨hx, hb, hml, hown, hts⟩ (c_X3_write l dC dI h_this h_this_signs k_this_signs u_this_waiting u_this_waitingSize H.size r1_this_first r1_this_signs 116 (r3_this_first, r3_this_signs) gr3) (cwV 1 hts gX3_writeTemporary_X3_write rfl rfl rfl hd_X3_write ⟨Nat.le_of_ble_eq_true rfl, Nat.le_of_ble_eq_true rfl⟩) (preV hKc hPc hDc (va_recv hK hP (ci := 3) (q0 := 0) rfl rfl)) rfl rfl hl.1 rfl (lv_room (Nat.le_of_ble_eq_true rfl)) dX3_writeTemporary_8 ⟨Nat.zero_le _, Nat.zero_le _⟩) hS (fun q _ h => hFc q h) hFc (fun ur3 tr3 H1 locs htr3 hvmr3 hw hB hz1 hk1 hS => ?_)
  obtain rfl := hw.symm
  obtain ⟨hP1, hK1, hD1⟩ := hB
  rw [htr3] at hP1
  obtain ⟨hP, hD⟩ := va_join (wr := []) (w1 := W_X3_write h_this h_this_signs k_this_signs u_this_waiting u_this_waitingSize r3_this_first r3_this_signs) hP hD [0, 1] [] rfl rfl (by decide) (by decide) hk1 hFc hP1 hD1
  have hP := hP.sub (ws' := [(h_this, .inr (3, [.ref h_this_signs, .int r3_this_first, u_this_waiting, u_this_waitingSize])), (h_this_signs, .inl (k_this_signs, 800, .inl (r3_this_signs)))]) [0, 1] rfl
  have hD := hD.sub (ws' := [(h_this, .inr (3, [.ref h_this_signs, .int r3_this_first, u_this_waiting, u_this_waitingSize])), (h_this_signs, .inl (k_this_signs, 800, .inl (r3_this_signs)))]) [0, 1] (by decide) rfl
  generalize H1 = H at hP hS ⊢
  clear hk1 hz1
  obtain rfl := Option.some.inj h
  exact W.vret hx hb hr (fun t ht hW => ⟨⟨(r3_this_first, r3_this_signs), rfl, rfl, by rw [ht]; exact hP, va_K.moved hW.alike hK, hD⟩, hS.F ht⟩) hS.2.2 dX3_writeTemporary_11
abbrev W_X3_rankOf : va_W := []
def f_X3_rankOf (a_p1 : Int32) (a_p2 : Int32) : Option (Int32 × Unit) := if a_p1 = 0 then some (6, ()) else if a_p1 = 4 then if a_p2 < 0 then some (7, ()) else if 8 ≤ a_p2 then some (7, ()) else ixd a_p2 8 (some (tb_OP_RANKS a_p2.toNatClampNeg, ())) else if a_p1 = 5 then some (5, ()) else some (7, ())
theorem hdn_X3_rankOf : yX3_rankOf.cls ≠ "java/lang/invoke/MethodHandle" ∧ yX3_rankOf.cls ≠ "java/lang/invoke/VarHandle" ∧ (parseMethodDescriptor yX3_rankOf.desc).map (fun d => d.parameters.length) = some 2 := by decide +kernel
set_option maxHeartbeats 4000000 in
set_option maxRecDepth 100000 in
theorem c_X3_rankOf (l : Launch) (dC : Nat → ClassId) (dI : Nat → Nat → Nat) (adK adV : Nat → Nat) (sz : Nat) (a_p1 : Int32) (a_p2 : Int32) (res : Int32 × Unit) (hd : f_X3_rankOf a_p1 a_p2 = some res) : Met l yX3_rankOf wsX3_rankOf ({ frames := 0, cells := 0, slots := 0, locals := 0 }) (va_Pc [.int a_p1, .int a_p2] (fun U => mPre dC dI ([]) [] sz U ∧ env adK adV (va_A ([]) sz) U U.heap)) (va_Qi (fun (r : Int32) (u : Unit) => r = res.1 ∧ u = res.2) (fun (u : Unit) t => mPost dC dI (va_A ([]) sz) ([]) [] t) (va_A ([]) sz)) 0 0 (va_A ([]) sz) := by
  refine Met.ofW (cc := cX3_rankOf) (maxL := 2) (ret := (some .int)) (by decide) rfl ?_
  intro p e s m args below meth c s₁ B hml hv
  obtain ⟨rfl, ⟨hsz, hP, hK, hD0⟩, hE⟩ := hv
  have hx := B.exec
  have hb := B.bytes
  have hr := B.returns
  have hts := atoms_spec (ws := wsX3_rankOf) B.pre
  have hown : s.vm.findClass RX3 = some m.cls := findClass_of_methodNamed B.named
  have hlocks := B.notSynchronized
  subst hsz
  have hD := hD0.self (sz := s.heap.size)
  generalize hAe : va_A ([]) s.heap.size = A at hD hE ⊢
  have hA : ∀ q : Nat, s.heap.size ≤ q → A q := fun q h => by rw [← hAe]; exact Or.inr h
  clear hAe hD0
  have hS : va_S A s.heap s.heap [] := va_S.rf
  have hl := lv_entry ([.int a_p1, .int a_p2]) (n := 2) (Nat.le_of_ble_eq_true rfl)
  rw [lg_entry_eq]
  generalize (lg_sl ([.int a_p1, .int a_p2]) ++ List.replicate (2 - (lg_sl ([.int a_p1, .int a_p2])).length) Slot.unset).toArray = ls at hl ⊢
  have hl : lv_has ls 2 [(0, .int a_p1), (1, .int a_p2)] := hl
  have h := hd
  unfold f_X3_rankOf at h
  obtain ⟨H, hHe⟩ : ∃ H, H = s.heap := ⟨_, rfl⟩
  obtain ⟨locs, hLe⟩ : ∃ L : List Loc, L = [] := ⟨_, rfl⟩
  have hS : va_S A s.heap H locs := by rw [hHe, hLe]; exact hS
  have hP : va_P (dC, dI) vwCl [] H := by rw [hHe]; exact hP
  rw [show W p l e (headSpec wsX3_rankOf ({ frames := 0, cells := 0, slots := 0, locals := 0 })).room s m [.int a_p1, .int a_p2].toArray below meth c s.heap [] 0 0 = W p l e (headSpec wsX3_rankOf ({ frames := 0, cells := 0, slots := 0, locals := 0 })).room s m [.int a_p1, .int a_p2].toArray below meth c H locs 0 0 by rw [hHe, hLe]]
  clear hHe hLe
  refine lv_iload_n hx hb dX3_rankOf_0 rfl (lv_at hl 0 rfl) ?_
  by_cases s1 : a_p1 = 0
  · have h := it_t h s1
    refine lv_lookup (tgt := 61) (off := 60) hx hb dX3_rankOf_1 (by decide) (by rw [s1] <;> rfl) (by decide) ?_
    refine lv_bipush (v := 6) hx hb dX3_rankOf_61 (by decide) ?_
    obtain rfl := Option.some.inj h
    exact W.iret (v := 6) hx hb hr (fun t ht hW => ⟨⟨6, (), rfl, ⟨rfl, rfl⟩, by rw [ht]; exact hP, va_K.moved hW.alike hK, hD⟩, hS.F ht⟩) hS.2.2 dX3_rankOf_63
  have h := it_f h s1
  by_cases s2 : a_p1 = 4
  · have h := it_t h s2
    refine lv_lookup (tgt := 36) (off := 35) hx hb dX3_rankOf_1 (by decide) (by rw [s2] <;> rfl) (by decide) ?_
    refine lv_iload_n hx hb dX3_rankOf_36 rfl (lv_at hl 1 rfl) ?_
    refine lv_if_lt (tgt := 56) hx hb dX3_rankOf_37 (by decide) (fun c3 => ?_) (fun c3 => ?_)
    · have h := it_t h c3
      refine lv_bipush (v := 7) hx hb dX3_rankOf_56 (by decide) ?_
      obtain rfl := Option.some.inj h
      exact W.iret (v := 7) hx hb hr (fun t ht hW => ⟨⟨7, (), rfl, ⟨rfl, rfl⟩, by rw [ht]; exact hP, va_K.moved hW.alike hK, hD⟩, hS.F ht⟩) hS.2.2 dX3_rankOf_58
    · have h := it_f h c3
      refine lv_iload_n hx hb dX3_rankOf_40 rfl (lv_at hl 1 rfl) ?_
      obtain ⟨t_OP_RANKS, z_OP_RANKS, T_OP_RANKS⟩ := hE.2.2.2.2.2.1
      refine va_getsN hx hb z_OP_RANKS hS hown (va_Nw.use rfl (hE.1 _ (nz_X3_87 : _ ∈ nzL))) (fun _ h9 => h9) dX3_rankOf_41 ?_
      refine va_tlen (v := 8) hx hb T_OP_RANKS hS (by decide) dX3_rankOf_44 ?_
      refine lv_icmp_ge (tgt := 56) hx hb dX3_rankOf_45 (by decide) (fun c4 => ?_) (fun c4 => ?_)
      · have h := it_t h c4
        refine lv_bipush (v := 7) hx hb dX3_rankOf_56 (by decide) ?_
        obtain rfl := Option.some.inj h
        exact W.iret (v := 7) hx hb hr (fun t ht hW => ⟨⟨7, (), rfl, ⟨rfl, rfl⟩, by rw [ht]; exact hP, va_K.moved hW.alike hK, hD⟩, hS.F ht⟩) hS.2.2 dX3_rankOf_58
      · have h := it_f h c4
        obtain ⟨t_OP_RANKS, z_OP_RANKS, T_OP_RANKS⟩ := hE.2.2.2.2.2.1
        refine va_getsN hx hb z_OP_RANKS hS hown (va_Nw.use rfl (hE.1 _ (nz_X3_87 : _ ∈ nzL))) (fun _ h9 => h9) dX3_rankOf_48 ?_
        refine lv_iload_n hx hb dX3_rankOf_51 rfl (lv_at hl 1 rfl) ?_
        obtain ⟨i5, h⟩ := ixd_ok h
        refine va_ti hx hb T_OP_RANKS hS i5 rfl dX3_rankOf_52 ?_
        refine lv_goto (tgt := 58) hx hb dX3_rankOf_53 (by decide) ?_
        obtain rfl := Option.some.inj h
        exact W.iret (v := tb_OP_RANKS a_p2.toNatClampNeg) hx hb hr (fun t ht hW => ⟨⟨tb_OP_RANKS a_p2.toNatClampNeg, (), rfl, ⟨rfl, rfl⟩, by rw [ht]; exact hP, va_K.moved hW.alike hK, hD⟩, hS.F ht⟩) hS.2.2 dX3_rankOf_58
  have h := it_f h s2
  by_cases s6 : a_p1 = 5
  · have h := it_t h s6
    refine lv_lookup (tgt := 59) (off := 58) hx hb dX3_rankOf_1 (by decide) (by rw [s6] <;> rfl) (by decide) ?_
    refine lv_iconst (v := 5) hx hb dX3_rankOf_59 (by decide) ?_
    obtain rfl := Option.some.inj h
    exact W.iret (v := 5) hx hb hr (fun t ht hW => ⟨⟨5, (), rfl, ⟨rfl, rfl⟩, by rw [ht]; exact hP, va_K.moved hW.alike hK, hD⟩, hS.F ht⟩) hS.2.2 dX3_rankOf_60
  have h := it_f h s6
  refine lv_lookup (tgt := 64) (off := 63) hx hb dX3_rankOf_1 (by decide) (by show Op.lookupswitch.offset [(0, 60), (4, 35), (5, 58)] _ _ = _; rw [lv_osw (a := 0) s1 rfl, lv_osw (a := 4) s2 rfl, lv_osw (a := 5) s6 rfl] <;> rfl) (by decide) ?_
  refine lv_bipush (v := 7) hx hb dX3_rankOf_64 (by decide) ?_
  obtain rfl := Option.some.inj h
  exact W.iret (v := 7) hx hb hr (fun t ht hW => ⟨⟨7, (), rfl, ⟨rfl, rfl⟩, by rw [ht]; exact hP, va_K.moved hW.alike hK, hD⟩, hS.F ht⟩) hS.2.2 dX3_rankOf_66
abbrev W_X3_signOf : va_W := []
def f_X3_signOf (a_p1 : Int32) : Option (Int32 × Unit) := if a_p1 < 0 then some (32, ()) else (f_J0_length_8abf5 0).bind fun q3 => if q3.1 ≤ a_p1 then some (32, ()) else (f_J0_charAt_5068e 0 a_p1).bind fun q6 => ckc q6.1 (some (q6.1, ()))
theorem hdn_X3_signOf : yX3_signOf.cls ≠ "java/lang/invoke/MethodHandle" ∧ yX3_signOf.cls ≠ "java/lang/invoke/VarHandle" ∧ (parseMethodDescriptor yX3_signOf.desc).map (fun d => d.parameters.length) = some 1 := by decide +kernel
set_option maxHeartbeats 4000000 in
set_option maxRecDepth 100000 in
theorem c_X3_signOf (l : Launch) (dC : Nat → ClassId) (dI : Nat → Nat → Nat) (adK adV : Nat → Nat) (sz : Nat) (a_p1 : Int32) (res : Int32 × Unit) (hd : f_X3_signOf a_p1 = some res) : Met l yX3_signOf wsX3_signOf ({ frames := 4, cells := 0, slots := 0, locals := 85 }) (va_Pc [.int a_p1] (fun U => mPre dC dI ([]) [] sz U ∧ env adK adV (va_A ([]) sz) U U.heap)) (va_Qi (fun (r : Int32) (u : Unit) => r = res.1 ∧ u = res.2) (fun (u : Unit) t => mPost dC dI (va_A ([]) sz) ([]) [] t) (va_A ([]) sz)) 0 0 (va_A ([]) sz) := by
  refine Met.ofW (cc := cX3_signOf) (maxL := 1) (ret := (some .char)) (by decide) rfl ?_
  intro p e s m args below meth c s₁ B hml hv
  obtain ⟨rfl, ⟨hsz, hP, hK, hD0⟩, hE⟩ := hv
  have hx := B.exec
  have hb := B.bytes
  have hr := B.returns
  have hts := atoms_spec (ws := wsX3_signOf) B.pre
  have hown : s.vm.findClass RX3 = some m.cls := findClass_of_methodNamed B.named
  have hlocks := B.notSynchronized
  subst hsz
  have hD := hD0.self (sz := s.heap.size)
  generalize hAe : va_A ([]) s.heap.size = A at hD hE ⊢
  have hA : ∀ q : Nat, s.heap.size ≤ q → A q := fun q h => by rw [← hAe]; exact Or.inr h
  clear hAe hD0
  have hS : va_S A s.heap s.heap [] := va_S.rf
  have hl := lv_entry ([.int a_p1]) (n := 1) (Nat.le_of_ble_eq_true rfl)
  rw [lg_entry_eq]
  generalize (lg_sl ([.int a_p1]) ++ List.replicate (1 - (lg_sl ([.int a_p1])).length) Slot.unset).toArray = ls at hl ⊢
  have hl : lv_has ls 1 [(0, .int a_p1)] := hl
  have h := hd
  unfold f_X3_signOf at h
  obtain ⟨H, hHe⟩ : ∃ H, H = s.heap := ⟨_, rfl⟩
  obtain ⟨locs, hLe⟩ : ∃ L : List Loc, L = [] := ⟨_, rfl⟩
  have hS : va_S A s.heap H locs := by rw [hHe, hLe]; exact hS
  have hP : va_P (dC, dI) vwCl [] H := by rw [hHe]; exact hP
  rw [show W p l e (headSpec wsX3_signOf ({ frames := 4, cells := 0, slots := 0, locals := 85 })).room s m [.int a_p1].toArray below meth c s.heap [] 0 0 = W p l e (headSpec wsX3_signOf ({ frames := 4, cells := 0, slots := 0, locals := 85 })).room s m [.int a_p1].toArray below meth c H locs 0 0 by rw [hHe, hLe]]
  clear hHe hLe
  refine lv_iload_n hx hb dX3_signOf_0 rfl (lv_at hl 0 rfl) ?_
  refine lv_if_lt (tgt := 22) hx hb dX3_signOf_1 (by decide) (fun c1 => ?_) (fun c1 => ?_)
  · have h := it_t h c1
    refine lv_bipush (v := 32) hx hb dX3_signOf_22 (by decide) ?_
    obtain rfl := Option.some.inj h
    exact W.zret (v := 32) hx hb hr (by decide) (fun t ht hW => ⟨⟨32, (), rfl, ⟨rfl, rfl⟩, by rw [ht]; exact hP, va_K.moved hW.alike hK, hD⟩, hS.F ht⟩) hS.2.2 dX3_signOf_24
  · have h := it_f h c1
    refine lv_iload_n hx hb dX3_signOf_4 rfl (lv_at hl 0 rfl) ?_
    refine va_ldcS hx hb hown hE.2.2.2.2.2.2.2.1 dX3_signOf_5 ?_
    obtain ⟨⟨r2, ⟨⟩⟩, gr2, h⟩ := Option.bind_eq_some_iff.mp h
    try dsimp only at h
    have hPc := hP.sub (ws' := []) [] rfl
    have hDc := hD.sub (ws' := []) [] (by decide) rfl
    have hKc := hK.sub (tys' := []) [] rfl
    have hFc := va_free (wc := []) hD hS hA [] rfl
    refine va_calli (va_runV (As := []) (rest := [.int a_p1]) ⟨hx, hb, hml, hown, hts⟩ (c_J0_length_8abf5 l dC dI adK adV H.size 0 (r2, ()) gr2) (cwV 0 hts gX3_signOf_J0_length_8abf5 rfl rfl rfl hd_J0_length_8abf5 ⟨Nat.le_of_ble_eq_true rfl, Nat.le_of_ble_eq_true rfl⟩) (preVE hKc hPc hDc (vk_recv hE.2.2.2.2.2.2.1 (f_J0_length_8abf5_in gr2) hS) (fun U hU hW => envp hE hS hFc hU hW)) rfl rfl hl.1 rfl (lv_room (Nat.le_of_ble_eq_true rfl)) dX3_signOf_7 ⟨Nat.zero_le _, Nat.zero_le _⟩) hS (fun q _ h => hFc q h) hFc (fun ar2 ur2 tr2 H1 locs htr2 hvmr2 hw hB hz1 hk1 hS => ?_)
    obtain ⟨rfl, rfl⟩ := And.intro hw.1.symm hw.2.symm
    obtain ⟨hP1, hK1, hD1⟩ := hB
    rw [htr2] at hP1
    have hP : va_P (dC, dI) vwCl [] H1 := keep0 hP hk1
    generalize H1 = H at hP hS ⊢
    clear hk1 hz1
    refine lv_icmp_ge (tgt := 22) hx hb dX3_signOf_10 (by decide) (fun c4 => ?_) (fun c4 => ?_)
    · have h := it_t h c4
      refine lv_bipush (v := 32) hx hb dX3_signOf_22 (by decide) ?_
      obtain rfl := Option.some.inj h
      exact W.zret (v := 32) hx hb hr (by decide) (fun t ht hW => ⟨⟨32, (), rfl, ⟨rfl, rfl⟩, by rw [ht]; exact hP, va_K.moved hW.alike hK, hD⟩, hS.F ht⟩) hS.2.2 dX3_signOf_24
    · have h := it_f h c4
      refine va_ldcS hx hb hown hE.2.2.2.2.2.2.2.1 dX3_signOf_13 ?_
      refine lv_iload_n hx hb dX3_signOf_15 rfl (lv_at hl 0 rfl) ?_
      obtain ⟨⟨r5, ⟨⟩⟩, gr5, h⟩ := Option.bind_eq_some_iff.mp h
      try dsimp only at h
      have hPc := hP.sub (ws' := []) [] rfl
      have hDc := hD.sub (ws' := []) [] (by decide) rfl
      have hKc := hK.sub (tys' := []) [] rfl
      have hFc := va_free (wc := []) hD hS hA [] rfl
      refine va_calli (va_runV (As := [.int a_p1]) (rest := []) ⟨hx, hb, hml, hown, hts⟩ (c_J0_charAt_5068e l dC dI adK adV H.size 0 a_p1 (r5, ()) gr5) (cwV 1 hts gX3_signOf_J0_charAt_5068e rfl rfl rfl hd_J0_charAt_5068e ⟨Nat.le_of_ble_eq_true rfl, Nat.le_of_ble_eq_true rfl⟩) (preVE hKc hPc hDc (vk_recv hE.2.2.2.2.2.2.1 (f_J0_charAt_5068e_in gr5) hS) (fun U hU hW => envp hE hS hFc hU hW)) rfl rfl hl.1 rfl (lv_room (Nat.le_of_ble_eq_true rfl)) dX3_signOf_16 ⟨Nat.zero_le _, Nat.zero_le _⟩) hS (fun q _ h => hFc q h) hFc (fun ar5 ur5 tr5 H1 locs htr5 hvmr5 hw hB hz1 hk1 hS => ?_)
      obtain ⟨rfl, rfl⟩ := And.intro hw.1.symm hw.2.symm
      obtain ⟨hP1, hK1, hD1⟩ := hB
      rw [htr5] at hP1
      have hP : va_P (dC, dI) vwCl [] H1 := keep0 hP hk1
      generalize H1 = H at hP hS ⊢
      clear hk1 hz1
      refine lv_goto (tgt := 24) hx hb dX3_signOf_19 (by decide) ?_
      obtain ⟨n7, h⟩ := ckc_ok h
      obtain rfl := Option.some.inj h
      exact W.zret (v := r5) hx hb hr n7 (fun t ht hW => ⟨⟨r5, (), rfl, ⟨rfl, rfl⟩, by rw [ht]; exact hP, va_K.moved hW.alike hK, hD⟩, hS.F ht⟩) hS.2.2 dX3_signOf_24
abbrev W_X3_awaitCall (h_this h_this_waiting : Nat) (k_this_waiting : ClassId) (u_this_signs u_this_first : Value) (v_this_waiting : Nat → Int32) (v_this_waitingSize : Int32) : va_W := [(h_this, .inr (3, [u_this_signs, u_this_first, .ref h_this_waiting, .int v_this_waitingSize])), (h_this_waiting, .inl (k_this_waiting, 800, .inl (v_this_waiting)))]
def f_X3_awaitCall_B14 (n : Nat) (v_this_waiting : Nat → Int32) (v_this_waitingSize : Int32) (l1 : Int32) (l2 : Int32) : Option ((Nat → Int32) × Int32) := match n with
  | 0 => none
  | n + 1 => if l1 ≤ l2 then some ((v_this_waiting, v_this_waitingSize)) else if l2 ≤ 0 then (f_X3_await v_this_waiting v_this_waitingSize 0).bind fun q8 => f_X3_awaitCall_B14 n q8.1 q8.2 l1 (l2 + 1) else (f_X3_await v_this_waiting v_this_waitingSize 44).bind fun q10 => (f_X3_await q10.1 q10.2 32).bind fun q12 => (f_X3_await q12.1 q12.2 0).bind fun q14 => f_X3_awaitCall_B14 n q14.1 q14.2 l1 (l2 + 1)
def f_X3_awaitCall (v_this_waiting : Nat → Int32) (v_this_waitingSize : Int32) (a_p1 : Int32) : Option ((Nat → Int32) × Int32) := (f_X3_await v_this_waiting v_this_waitingSize 102).bind fun q2 => (f_X3_await q2.1 q2.2 40).bind fun q4 => f_X3_awaitCall_B14 FU q4.1 q4.2 a_p1 0
theorem hdn_X3_awaitCall : yX3_awaitCall.cls ≠ "java/lang/invoke/MethodHandle" ∧ yX3_awaitCall.cls ≠ "java/lang/invoke/VarHandle" ∧ (parseMethodDescriptor yX3_awaitCall.desc).map (fun d => d.parameters.length) = some 1 := by decide +kernel
theorem hd_X3_awaitCall : yX3_awaitCall.cls = RX3 ∧ yX3_awaitCall.cls ≠ "java/lang/invoke/MethodHandle" ∧ yX3_awaitCall.cls ≠ "java/lang/invoke/VarHandle" ∧ (parseMethodDescriptor yX3_awaitCall.desc).map (fun d => d.parameters.length) = some 1 := ⟨rfl, hdn_X3_awaitCall⟩
set_option maxHeartbeats 4000000 in
set_option maxRecDepth 100000 in
theorem c_X3_awaitCall (l : Launch) (dC : Nat → ClassId) (dI : Nat → Nat → Nat) (h_this h_this_waiting : Nat) (k_this_waiting : ClassId) (u_this_signs u_this_first : Value) (sz : Nat) (v_this_waiting : Nat → Int32) (v_this_waitingSize : Int32) (a_p1 : Int32) (res : (Nat → Int32) × Int32) (hd : f_X3_awaitCall v_this_waiting v_this_waitingSize a_p1 = some res) : Met l yX3_awaitCall wsX3_awaitCall ({ frames := 1, cells := 0, slots := 0, locals := 21 }) (va_Pc [.ref h_this, .int a_p1] (fun U => mPre dC dI (W_X3_awaitCall h_this h_this_waiting k_this_waiting u_this_signs u_this_first v_this_waiting v_this_waitingSize) [(k_this_waiting, .int)] sz U)) (va_Qv (fun (u : (Nat → Int32) × Int32) => u = res) (fun (u : (Nat → Int32) × Int32) t => mPost dC dI (va_A (W_X3_awaitCall h_this h_this_waiting k_this_waiting u_this_signs u_this_first v_this_waiting v_this_waitingSize) sz) (W_X3_awaitCall h_this h_this_waiting k_this_waiting u_this_signs u_this_first u.1 u.2) [(k_this_waiting, .int)] t) (va_A (W_X3_awaitCall h_this h_this_waiting k_this_waiting u_this_signs u_this_first v_this_waiting v_this_waitingSize) sz)) 0 0 (va_A (W_X3_awaitCall h_this h_this_waiting k_this_waiting u_this_signs u_this_first v_this_waiting v_this_waitingSize) sz) := by
  refine Met.ofW (cc := cX3_awaitCall) (maxL := 3) (ret := none) (by decide) rfl ?_
  intro p e s m args below meth c s₁ B hml hv
  obtain ⟨rfl, ⟨hsz, hP, hK, hD0⟩⟩ := hv
  have hx := B.exec
  have hb := B.bytes
  have hr := B.returns
  have hts := atoms_spec (ws := wsX3_awaitCall) B.pre
  have hown : s.vm.findClass RX3 = some m.cls := findClass_of_methodNamed B.named
  have hlocks := B.notSynchronized
  subst hsz
  have hD := hD0.self (sz := s.heap.size)
  generalize hAe : va_A (W_X3_awaitCall h_this h_this_waiting k_this_waiting u_this_signs u_this_first v_this_waiting v_this_waitingSize) s.heap.size = A at hD ⊢
  have hA : ∀ q : Nat, s.heap.size ≤ q → A q := fun q h => by rw [← hAe]; exact Or.inr h
  clear hAe hD0
  have hS : va_S A s.heap s.heap [] := va_S.rf
  have hP : va_P (dC, dI) vwCl [(h_this, .inr (3, [u_this_signs, u_this_first, .ref h_this_waiting, .int v_this_waitingSize])), (h_this_waiting, .inl (k_this_waiting, 800, .inl (v_this_waiting)))] s.heap := hP
  have hD : va_D A [(h_this, .inr (3, [u_this_signs, u_this_first, .ref h_this_waiting, .int v_this_waitingSize])), (h_this_waiting, .inl (k_this_waiting, 800, .inl (v_this_waiting)))] := hD
  have B14 : ∀ n : Nat, ∀ (v_this_waiting : Nat → Int32) (v_this_waitingSize : Int32) (l1 : Int32) (l2 : Int32) (H : Heap) (locs : List Loc) (ls : Array Slot), f_X3_awaitCall_B14 n v_this_waiting v_this_waitingSize l1 l2 = some res → va_P (dC, dI) vwCl [(h_this, .inr (3, [u_this_signs, u_this_first, .ref h_this_waiting, .int v_this_waitingSize])), (h_this_waiting, .inl (k_this_waiting, 800, .inl (v_this_waiting)))] H → va_D A [(h_this, .inr (3, [u_this_signs, u_this_first, .ref h_this_waiting, .int v_this_waitingSize])), (h_this_waiting, .inl (k_this_waiting, 800, .inl (v_this_waiting)))] → va_S A s.heap H locs → lv_has ls 3 [(0, .ref h_this), (1, .int l1), (2, .int l2)] → W p l e (headSpec wsX3_awaitCall ({ frames := 1, cells := 0, slots := 0, locals := 21 })).room s m [.ref h_this, .int a_p1].toArray below meth c H locs 0 0 (MQ below (va_Qv (fun (u : (Nat → Int32) × Int32) => u = res) (fun (u : (Nat → Int32) × Int32) t => mPost dC dI A (W_X3_awaitCall h_this h_this_waiting k_this_waiting u_this_signs u_this_first u.1 u.2) [(k_this_waiting, .int)] t) A) [.ref h_this, .int a_p1].toArray s 0 0 A) (F0 m 14 ls []) := by
    intro n
    clear hP hD hS hd
    induction n with
    | zero => intro v_this_waiting v_this_waitingSize l1 l2 H locs ls h; exact absurd h (by rw [f_X3_awaitCall_B14]; exact fun z => nomatch z)
    | succ n ih14 =>
      intro v_this_waiting v_this_waitingSize l1 l2 H locs ls h hP hD hS hl
      rw [f_X3_awaitCall_B14] at h
      refine lv_iload_n hx hb dX3_awaitCall_14 rfl (lv_at hl 2 rfl) ?_
      refine lv_iload_n hx hb dX3_awaitCall_15 rfl (lv_at hl 1 rfl) ?_
      refine lv_icmp_ge (tgt := 46) hx hb dX3_awaitCall_16 (by decide) (fun c5 => ?_) (fun c5 => ?_)
      · have h := it_t h c5
        obtain rfl := Option.some.inj h
        exact W.vret hx hb hr (fun t ht hW => ⟨⟨(v_this_waiting, v_this_waitingSize), rfl, rfl, by rw [ht]; exact hP, va_K.moved hW.alike hK, hD⟩, hS.F ht⟩) hS.2.2 dX3_awaitCall_46
      · have h := it_f h c5
        refine lv_iload_n hx hb dX3_awaitCall_19 rfl (lv_at hl 2 rfl) ?_
        refine lv_if_le (tgt := 35) hx hb dX3_awaitCall_20 (by decide) (fun c6 => ?_) (fun c6 => ?_)
        · have h := it_t h c6
          refine lv_aload_n hx hb dX3_awaitCall_35 rfl (lv_at hl 0 rfl) ?_
          refine lv_iconst (v := 0) hx hb dX3_awaitCall_36 (by decide) ?_
          obtain ⟨⟨r7_this_waiting, r7_this_waitingSize⟩, gr7, h⟩ := Option.bind_eq_some_iff.mp h
          try dsimp only at h
          have hPc := hP.sub (ws' := W_X3_await h_this h_this_waiting k_this_waiting u_this_signs u_this_first v_this_waiting v_this_waitingSize) [0, 1] rfl
          have hDc := hD.sub (ws' := W_X3_await h_this h_this_waiting k_this_waiting u_this_signs u_this_first v_this_waiting v_this_waitingSize) [0, 1] (by decide) rfl
          have hKc := hK.sub (tys' := [(k_this_waiting, .int)]) [0] rfl
          have hFc := va_free (wc := W_X3_await h_this h_this_waiting k_this_waiting u_this_signs u_this_first v_this_waiting v_this_waitingSize) hD hS hA [0, 1] rfl
          refine va_callv (va_runV (As := [.int 0]) (rest := []) ⟨hx, hb, hml, hown, hts⟩ (c_X3_await l dC dI h_this h_this_waiting k_this_waiting u_this_signs u_this_first H.size v_this_waiting v_this_waitingSize 0 (r7_this_waiting, r7_this_waitingSize) gr7) (cwV 1 hts gX3_awaitCall_X3_await rfl rfl rfl hd_X3_await ⟨Nat.le_of_ble_eq_true rfl, Nat.le_of_ble_eq_true rfl⟩) (preV hKc hPc hDc (va_recv hK hP (ci := 3) (q0 := 0) rfl rfl)) rfl rfl hl.1 rfl (lv_room (Nat.le_of_ble_eq_true rfl)) dX3_awaitCall_37 ⟨Nat.zero_le _, Nat.zero_le _⟩) hS (fun q _ h => hFc q h) hFc (fun ur7 tr7 H1 locs htr7 hvmr7 hw hB hz1 hk1 hS => ?_)
          obtain rfl := hw.symm
          obtain ⟨hP1, hK1, hD1⟩ := hB
          rw [htr7] at hP1
          obtain ⟨hP, hD⟩ := va_join (wr := []) (w1 := W_X3_await h_this h_this_waiting k_this_waiting u_this_signs u_this_first r7_this_waiting r7_this_waitingSize) hP hD [0, 1] [] rfl rfl (by decide) (by decide) hk1 hFc hP1 hD1
          have hP := hP.sub (ws' := [(h_this, .inr (3, [u_this_signs, u_this_first, .ref h_this_waiting, .int r7_this_waitingSize])), (h_this_waiting, .inl (k_this_waiting, 800, .inl (r7_this_waiting)))]) [0, 1] rfl
          have hD := hD.sub (ws' := [(h_this, .inr (3, [u_this_signs, u_this_first, .ref h_this_waiting, .int r7_this_waitingSize])), (h_this_waiting, .inl (k_this_waiting, 800, .inl (r7_this_waiting)))]) [0, 1] (by decide) rfl
          generalize H1 = H at hP hS ⊢
          clear hk1 hz1
          refine lv_iinc (v := l2 + 1) (lv' := [(2, .int (l2 + 1)), (0, .ref h_this), (1, .int l1)]) hx hb dX3_awaitCall_40 hl (k := 2) rfl rfl (by decide) rfl (fun ls hl => ?_)
          refine lv_goto (tgt := 14) hx hb dX3_awaitCall_43 (by decide) ?_
          exact ih14 r7_this_waiting r7_this_waitingSize l1 (l2 + 1) H locs ls h hP hD hS (lv_sub hl [1, 2, 0] rfl)
        · have h := it_f h c6
          refine lv_aload_n hx hb dX3_awaitCall_23 rfl (lv_at hl 0 rfl) ?_
          refine lv_bipush (v := 44) hx hb dX3_awaitCall_24 (by decide) ?_
          obtain ⟨⟨r9_this_waiting, r9_this_waitingSize⟩, gr9, h⟩ := Option.bind_eq_some_iff.mp h
          try dsimp only at h
          have hPc := hP.sub (ws' := W_X3_await h_this h_this_waiting k_this_waiting u_this_signs u_this_first v_this_waiting v_this_waitingSize) [0, 1] rfl
          have hDc := hD.sub (ws' := W_X3_await h_this h_this_waiting k_this_waiting u_this_signs u_this_first v_this_waiting v_this_waitingSize) [0, 1] (by decide) rfl
          have hKc := hK.sub (tys' := [(k_this_waiting, .int)]) [0] rfl
          have hFc := va_free (wc := W_X3_await h_this h_this_waiting k_this_waiting u_this_signs u_this_first v_this_waiting v_this_waitingSize) hD hS hA [0, 1] rfl
          refine va_callv (va_runV (As := [.int 44]) (rest := []) ⟨hx, hb, hml, hown, hts⟩ (c_X3_await l dC dI h_this h_this_waiting k_this_waiting u_this_signs u_this_first H.size v_this_waiting v_this_waitingSize 44 (r9_this_waiting, r9_this_waitingSize) gr9) (cwV 1 hts gX3_awaitCall_X3_await rfl rfl rfl hd_X3_await ⟨Nat.le_of_ble_eq_true rfl, Nat.le_of_ble_eq_true rfl⟩) (preV hKc hPc hDc (va_recv hK hP (ci := 3) (q0 := 0) rfl rfl)) rfl rfl hl.1 rfl (lv_room (Nat.le_of_ble_eq_true rfl)) dX3_awaitCall_26 ⟨Nat.zero_le _, Nat.zero_le _⟩) hS (fun q _ h => hFc q h) hFc (fun ur9 tr9 H1 locs htr9 hvmr9 hw hB hz1 hk1 hS => ?_)
          obtain rfl := hw.symm
          obtain ⟨hP1, hK1, hD1⟩ := hB
          rw [htr9] at hP1
          obtain ⟨hP, hD⟩ := va_join (wr := []) (w1 := W_X3_await h_this h_this_waiting k_this_waiting u_this_signs u_this_first r9_this_waiting r9_this_waitingSize) hP hD [0, 1] [] rfl rfl (by decide) (by decide) hk1 hFc hP1 hD1
          have hP := hP.sub (ws' := [(h_this, .inr (3, [u_this_signs, u_this_first, .ref h_this_waiting, .int r9_this_waitingSize])), (h_this_waiting, .inl (k_this_waiting, 800, .inl (r9_this_waiting)))]) [0, 1] rfl
          have hD := hD.sub (ws' := [(h_this, .inr (3, [u_this_signs, u_this_first, .ref h_this_waiting, .int r9_this_waitingSize])), (h_this_waiting, .inl (k_this_waiting, 800, .inl (r9_this_waiting)))]) [0, 1] (by decide) rfl
          generalize H1 = H at hP hS ⊢
          clear hk1 hz1
          refine lv_aload_n hx hb dX3_awaitCall_29 rfl (lv_at hl 0 rfl) ?_
          refine lv_bipush (v := 32) hx hb dX3_awaitCall_30 (by decide) ?_
          obtain ⟨⟨r11_this_waiting, r11_this_waitingSize⟩, gr11, h⟩ := Option.bind_eq_some_iff.mp h
          try dsimp only at h
          have hPc := hP.sub (ws' := W_X3_await h_this h_this_waiting k_this_waiting u_this_signs u_this_first r9_this_waiting r9_this_waitingSize) [0, 1] rfl
          have hDc := hD.sub (ws' := W_X3_await h_this h_this_waiting k_this_waiting u_this_signs u_this_first r9_this_waiting r9_this_waitingSize) [0, 1] (by decide) rfl
          have hKc := hK.sub (tys' := [(k_this_waiting, .int)]) [0] rfl
          have hFc := va_free (wc := W_X3_await h_this h_this_waiting k_this_waiting u_this_signs u_this_first r9_this_waiting r9_this_waitingSize) hD hS hA [0, 1] rfl
          refine va_callv (va_runV (As := [.int 32]) (rest := []) ⟨hx, hb, hml, hown, hts⟩ (c_X3_await l dC dI h_this h_this_waiting k_this_waiting u_this_signs u_this_first H.size r9_this_waiting r9_this_waitingSize 32 (r11_this_waiting, r11_this_waitingSize) gr11) (cwV 1 hts gX3_awaitCall_X3_await rfl rfl rfl hd_X3_await ⟨Nat.le_of_ble_eq_true rfl, Nat.le_of_ble_eq_true rfl⟩) (preV hKc hPc hDc (va_recv hK hP (ci := 3) (q0 := 0) rfl rfl)) rfl rfl hl.1 rfl (lv_room (Nat.le_of_ble_eq_true rfl)) dX3_awaitCall_32 ⟨Nat.zero_le _, Nat.zero_le _⟩) hS (fun q _ h => hFc q h) hFc (fun ur11 tr11 H1 locs htr11 hvmr11 hw hB hz1 hk1 hS => ?_)
          obtain rfl := hw.symm
          obtain ⟨hP1, hK1, hD1⟩ := hB
          rw [htr11] at hP1
          obtain ⟨hP, hD⟩ := va_join (wr := []) (w1 := W_X3_await h_this h_this_waiting k_this_waiting u_this_signs u_this_first r11_this_waiting r11_this_waitingSize) hP hD [0, 1] [] rfl rfl (by decide) (by decide) hk1 hFc hP1 hD1
          have hP := hP.sub (ws' := [(h_this, .inr (3, [u_this_signs, u_this_first, .ref h_this_waiting, .int r11_this_waitingSize])), (h_this_waiting, .inl (k_this_waiting, 800, .inl (r11_this_waiting)))]) [0, 1] rfl
          have hD := hD.sub (ws' := [(h_this, .inr (3, [u_this_signs, u_this_first, .ref h_this_waiting, .int r11_this_waitingSize])), (h_this_waiting, .inl (k_this_waiting, 800, .inl (r11_this_waiting)))]) [0, 1] (by decide) rfl
          generalize H1 = H at hP hS ⊢
          clear hk1 hz1
          refine lv_aload_n hx hb dX3_awaitCall_35 rfl (lv_at hl 0 rfl) ?_
          refine lv_iconst (v := 0) hx hb dX3_awaitCall_36 (by decide) ?_
          obtain ⟨⟨r13_this_waiting, r13_this_waitingSize⟩, gr13, h⟩ := Option.bind_eq_some_iff.mp h
          try dsimp only at h
          have hPc := hP.sub (ws' := W_X3_await h_this h_this_waiting k_this_waiting u_this_signs u_this_first r11_this_waiting r11_this_waitingSize) [0, 1] rfl
          have hDc := hD.sub (ws' := W_X3_await h_this h_this_waiting k_this_waiting u_this_signs u_this_first r11_this_waiting r11_this_waitingSize) [0, 1] (by decide) rfl
          have hKc := hK.sub (tys' := [(k_this_waiting, .int)]) [0] rfl
          have hFc := va_free (wc := W_X3_await h_this h_this_waiting k_this_waiting u_this_signs u_this_first r11_this_waiting r11_this_waitingSize) hD hS hA [0, 1] rfl
          refine va_callv (va_runV (As := [.int 0]) (rest := []) ⟨hx, hb, hml, hown, hts⟩ (c_X3_await l dC dI h_this h_this_waiting k_this_waiting u_this_signs u_this_first H.size r11_this_waiting r11_this_waitingSize 0 (r13_this_waiting, r13_this_waitingSize) gr13) (cwV 1 hts gX3_awaitCall_X3_await rfl rfl rfl hd_X3_await ⟨Nat.le_of_ble_eq_true rfl, Nat.le_of_ble_eq_true rfl⟩) (preV hKc hPc hDc (va_recv hK hP (ci := 3) (q0 := 0) rfl rfl)) rfl rfl hl.1 rfl (lv_room (Nat.le_of_ble_eq_true rfl)) dX3_awaitCall_37 ⟨Nat.zero_le _, Nat.zero_le _⟩) hS (fun q _ h => hFc q h) hFc (fun ur13 tr13 H1 locs htr13 hvmr13 hw hB hz1 hk1 hS => ?_)
          obtain rfl := hw.symm
          obtain ⟨hP1, hK1, hD1⟩ := hB
          rw [htr13] at hP1
          obtain ⟨hP, hD⟩ := va_join (wr := []) (w1 := W_X3_await h_this h_this_waiting k_this_waiting u_this_signs u_this_first r13_this_waiting r13_this_waitingSize) hP hD [0, 1] [] rfl rfl (by decide) (by decide) hk1 hFc hP1 hD1
          have hP := hP.sub (ws' := [(h_this, .inr (3, [u_this_signs, u_this_first, .ref h_this_waiting, .int r13_this_waitingSize])), (h_this_waiting, .inl (k_this_waiting, 800, .inl (r13_this_waiting)))]) [0, 1] rfl
          have hD := hD.sub (ws' := [(h_this, .inr (3, [u_this_signs, u_this_first, .ref h_this_waiting, .int r13_this_waitingSize])), (h_this_waiting, .inl (k_this_waiting, 800, .inl (r13_this_waiting)))]) [0, 1] (by decide) rfl
          generalize H1 = H at hP hS ⊢
          clear hk1 hz1
          refine lv_iinc (v := l2 + 1) (lv' := [(2, .int (l2 + 1)), (0, .ref h_this), (1, .int l1)]) hx hb dX3_awaitCall_40 hl (k := 2) rfl rfl (by decide) rfl (fun ls hl => ?_)
          refine lv_goto (tgt := 14) hx hb dX3_awaitCall_43 (by decide) ?_
          exact ih14 r13_this_waiting r13_this_waitingSize l1 (l2 + 1) H locs ls h hP hD hS (lv_sub hl [1, 2, 0] rfl)
  have hl := lv_entry ([.ref h_this, .int a_p1]) (n := 3) (Nat.le_of_ble_eq_true rfl)
  rw [lg_entry_eq]
  generalize (lg_sl ([.ref h_this, .int a_p1]) ++ List.replicate (3 - (lg_sl ([.ref h_this, .int a_p1])).length) Slot.unset).toArray = ls at hl ⊢
  have hl : lv_has ls 3 [(0, .ref h_this), (1, .int a_p1)] := hl
  have h := hd
  unfold f_X3_awaitCall at h
  obtain ⟨H, hHe⟩ : ∃ H, H = s.heap := ⟨_, rfl⟩
  obtain ⟨locs, hLe⟩ : ∃ L : List Loc, L = [] := ⟨_, rfl⟩
  have hS : va_S A s.heap H locs := by rw [hHe, hLe]; exact hS
  have hP : va_P (dC, dI) vwCl [(h_this, .inr (3, [u_this_signs, u_this_first, .ref h_this_waiting, .int v_this_waitingSize])), (h_this_waiting, .inl (k_this_waiting, 800, .inl (v_this_waiting)))] H := by rw [hHe]; exact hP
  rw [show W p l e (headSpec wsX3_awaitCall ({ frames := 1, cells := 0, slots := 0, locals := 21 })).room s m [.ref h_this, .int a_p1].toArray below meth c s.heap [] 0 0 = W p l e (headSpec wsX3_awaitCall ({ frames := 1, cells := 0, slots := 0, locals := 21 })).room s m [.ref h_this, .int a_p1].toArray below meth c H locs 0 0 by rw [hHe, hLe]]
  clear hHe hLe
  refine lv_aload_n hx hb dX3_awaitCall_0 rfl (lv_at hl 0 rfl) ?_
  refine lv_bipush (v := 102) hx hb dX3_awaitCall_1 (by decide) ?_
  obtain ⟨⟨r1_this_waiting, r1_this_waitingSize⟩, gr1, h⟩ := Option.bind_eq_some_iff.mp h
  try dsimp only at h
  have hPc := hP.sub (ws' := W_X3_await h_this h_this_waiting k_this_waiting u_this_signs u_this_first v_this_waiting v_this_waitingSize) [0, 1] rfl
  have hDc := hD.sub (ws' := W_X3_await h_this h_this_waiting k_this_waiting u_this_signs u_this_first v_this_waiting v_this_waitingSize) [0, 1] (by decide) rfl
  have hKc := hK.sub (tys' := [(k_this_waiting, .int)]) [0] rfl
  have hFc := va_free (wc := W_X3_await h_this h_this_waiting k_this_waiting u_this_signs u_this_first v_this_waiting v_this_waitingSize) hD hS hA [0, 1] rfl
  refine va_callv (va_runV (As := [.int 102]) (rest := []) ⟨hx, hb, hml, hown, hts⟩ (c_X3_await l dC dI h_this h_this_waiting k_this_waiting u_this_signs u_this_first H.size v_this_waiting v_this_waitingSize 102 (r1_this_waiting, r1_this_waitingSize) gr1) (cwV 1 hts gX3_awaitCall_X3_await rfl rfl rfl hd_X3_await ⟨Nat.le_of_ble_eq_true rfl, Nat.le_of_ble_eq_true rfl⟩) (preV hKc hPc hDc (va_recv hK hP (ci := 3) (q0 := 0) rfl rfl)) rfl rfl hl.1 rfl (lv_room (Nat.le_of_ble_eq_true rfl)) dX3_awaitCall_3 ⟨Nat.zero_le _, Nat.zero_le _⟩) hS (fun q _ h => hFc q h) hFc (fun ur1 tr1 H1 locs htr1 hvmr1 hw hB hz1 hk1 hS => ?_)
  obtain rfl := hw.symm
  obtain ⟨hP1, hK1, hD1⟩ := hB
  rw [htr1] at hP1
  obtain ⟨hP, hD⟩ := va_join (wr := []) (w1 := W_X3_await h_this h_this_waiting k_this_waiting u_this_signs u_this_first r1_this_waiting r1_this_waitingSize) hP hD [0, 1] [] rfl rfl (by decide) (by decide) hk1 hFc hP1 hD1
  have hP := hP.sub (ws' := [(h_this, .inr (3, [u_this_signs, u_this_first, .ref h_this_waiting, .int r1_this_waitingSize])), (h_this_waiting, .inl (k_this_waiting, 800, .inl (r1_this_waiting)))]) [0, 1] rfl
  have hD := hD.sub (ws' := [(h_this, .inr (3, [u_this_signs, u_this_first, .ref h_this_waiting, .int r1_this_waitingSize])), (h_this_waiting, .inl (k_this_waiting, 800, .inl (r1_this_waiting)))]) [0, 1] (by decide) rfl
  generalize H1 = H at hP hS ⊢
  clear hk1 hz1
  refine lv_aload_n hx hb dX3_awaitCall_6 rfl (lv_at hl 0 rfl) ?_
  refine lv_bipush (v := 40) hx hb dX3_awaitCall_7 (by decide) ?_
  obtain ⟨⟨r3_this_waiting, r3_this_waitingSize⟩, gr3, h⟩ := Option.bind_eq_some_iff.mp h
  try dsimp only at h
  have hPc := hP.sub (ws' := W_X3_await h_this h_this_waiting k_this_waiting u_this_signs u_this_first r1_this_waiting r1_this_waitingSize) [0, 1] rfl
  have hDc := hD.sub (ws' := W_X3_await h_this h_this_waiting k_this_waiting u_this_signs u_this_first r1_this_waiting r1_this_waitingSize) [0, 1] (by decide) rfl
  have hKc := hK.sub (tys' := [(k_this_waiting, .int)]) [0] rfl
  have hFc := va_free (wc := W_X3_await h_this h_this_waiting k_this_waiting u_this_signs u_this_first r1_this_waiting r1_this_waitingSize) hD hS hA [0, 1] rfl
  refine va_callv (va_runV (As := [.int 40]) (rest := []) ⟨hx, hb, hml, hown, hts⟩ (c_X3_await l dC dI h_this h_this_waiting k_this_waiting u_this_signs u_this_first H.size r1_this_waiting r1_this_waitingSize 40 (r3_this_waiting, r3_this_waitingSize) gr3) (cwV 1 hts gX3_awaitCall_X3_await rfl rfl rfl hd_X3_await ⟨Nat.le_of_ble_eq_true rfl, Nat.le_of_ble_eq_true rfl⟩) (preV hKc hPc hDc (va_recv hK hP (ci := 3) (q0 := 0) rfl rfl)) rfl rfl hl.1 rfl (lv_room (Nat.le_of_ble_eq_true rfl)) dX3_awaitCall_9 ⟨Nat.zero_le _, Nat.zero_le _⟩) hS (fun q _ h => hFc q h) hFc (fun ur3 tr3 H1 locs htr3 hvmr3 hw hB hz1 hk1 hS => ?_)
  obtain rfl := hw.symm
  obtain ⟨hP1, hK1, hD1⟩ := hB
  rw [htr3] at hP1
  obtain ⟨hP, hD⟩ := va_join (wr := []) (w1 := W_X3_await h_this h_this_waiting k_this_waiting u_this_signs u_this_first r3_this_waiting r3_this_waitingSize) hP hD [0, 1] [] rfl rfl (by decide) (by decide) hk1 hFc hP1 hD1
  have hP := hP.sub (ws' := [(h_this, .inr (3, [u_this_signs, u_this_first, .ref h_this_waiting, .int r3_this_waitingSize])), (h_this_waiting, .inl (k_this_waiting, 800, .inl (r3_this_waiting)))]) [0, 1] rfl
  have hD := hD.sub (ws' := [(h_this, .inr (3, [u_this_signs, u_this_first, .ref h_this_waiting, .int r3_this_waitingSize])), (h_this_waiting, .inl (k_this_waiting, 800, .inl (r3_this_waiting)))]) [0, 1] (by decide) rfl
  generalize H1 = H at hP hS ⊢
  clear hk1 hz1
  refine lv_iconst (v := 0) hx hb dX3_awaitCall_12 (by decide) ?_
  refine lv_istore_n (lv' := [(2, .int 0), (0, .ref h_this), (1, .int a_p1)]) hx hb dX3_awaitCall_13 rfl hl (by decide) rfl (fun ls hl => ?_)
  exact B14 FU r3_this_waiting r3_this_waitingSize a_p1 0 H locs ls h hP hD hS (lv_sub hl [1, 2, 0] rfl)
abbrev W_X3_writeText (h_this h_this_signs : Nat) (k_this_signs : ClassId) (u_this_waiting u_this_waitingSize : Value) (v_this_first : Int32) (v_this_signs : Nat → Int32) : va_W := [(h_this, .inr (3, [.ref h_this_signs, .int v_this_first, u_this_waiting, u_this_waitingSize])), (h_this_signs, .inl (k_this_signs, 800, .inl (v_this_signs)))]
def f_X3_writeText_B7 (n : Nat) (v_this_first : Int32) (v_this_signs : Nat → Int32) (l1 : Nat) (l2 : Int32) : Option (Int32 × (Nat → Int32)) := match n with
  | 0 => none
  | n + 1 => if l2 < 0 then some ((v_this_first, v_this_signs)) else (f_J0_charAt_5068e l1 l2).bind fun q6 => (f_X3_write v_this_first v_this_signs q6.1).bind fun q8 => f_X3_writeText_B7 n q8.1 q8.2 l1 (l2 + (-1))
def f_X3_writeText (v_this_first : Int32) (v_this_signs : Nat → Int32) (a_p1 : Nat) : Option (Int32 × (Nat → Int32)) := (f_J0_length_8abf5 a_p1).bind fun q2 => f_X3_writeText_B7 FU v_this_first v_this_signs a_p1 (q2.1 - 1)
theorem hdn_X3_writeText : yX3_writeText.cls ≠ "java/lang/invoke/MethodHandle" ∧ yX3_writeText.cls ≠ "java/lang/invoke/VarHandle" ∧ (parseMethodDescriptor yX3_writeText.desc).map (fun d => d.parameters.length) = some 1 := by decide +kernel
theorem hd_X3_writeText : yX3_writeText.cls = RX3 ∧ yX3_writeText.cls ≠ "java/lang/invoke/MethodHandle" ∧ yX3_writeText.cls ≠ "java/lang/invoke/VarHandle" ∧ (parseMethodDescriptor yX3_writeText.desc).map (fun d => d.parameters.length) = some 1 := ⟨rfl, hdn_X3_writeText⟩
set_option maxHeartbeats 4000000 in
set_option maxRecDepth 100000 in
theorem c_X3_writeText (l : Launch) (dC : Nat → ClassId) (dI : Nat → Nat → Nat) (adK adV : Nat → Nat) (h_this h_this_signs : Nat) (k_this_signs : ClassId) (u_this_waiting u_this_waitingSize : Value) (sz : Nat) (v_this_first : Int32) (v_this_signs : Nat → Int32) (a_p1 : Nat) (res : Int32 × (Nat → Int32)) (hd : f_X3_writeText v_this_first v_this_signs a_p1 = some res) : Met l yX3_writeText wsX3_writeText ({ frames := 4, cells := 0, slots := 0, locals := 85 }) (va_Pc [.ref h_this, .ref (adK a_p1)] (fun U => mPre dC dI (W_X3_writeText h_this h_this_signs k_this_signs u_this_waiting u_this_waitingSize v_this_first v_this_signs) [(k_this_signs, .char)] sz U ∧ env adK adV (va_A (W_X3_writeText h_this h_this_signs k_this_signs u_this_waiting u_this_waitingSize v_this_first v_this_signs) sz) U U.heap)) (va_Qv (fun (u : Int32 × (Nat → Int32)) => u = res) (fun (u : Int32 × (Nat → Int32)) t => mPost dC dI (va_A (W_X3_writeText h_this h_this_signs k_this_signs u_this_waiting u_this_waitingSize v_this_first v_this_signs) sz) (W_X3_writeText h_this h_this_signs k_this_signs u_this_waiting u_this_waitingSize u.1 u.2) [(k_this_signs, .char)] t) (va_A (W_X3_writeText h_this h_this_signs k_this_signs u_this_waiting u_this_waitingSize v_this_first v_this_signs) sz)) 0 0 (va_A (W_X3_writeText h_this h_this_signs k_this_signs u_this_waiting u_this_waitingSize v_this_first v_this_signs) sz) := by
  refine Met.ofW (cc := cX3_writeText) (maxL := 3) (ret := none) (by decide) rfl ?_
  intro p e s m args below meth c s₁ B hml hv
  obtain ⟨rfl, ⟨hsz, hP, hK, hD0⟩, hE⟩ := hv
  have hx := B.exec
  have hb := B.bytes
  have hr := B.returns
  have hts := atoms_spec (ws := wsX3_writeText) B.pre
  have hown : s.vm.findClass RX3 = some m.cls := findClass_of_methodNamed B.named
  have hlocks := B.notSynchronized
  subst hsz
  have hD := hD0.self (sz := s.heap.size)
  generalize hAe : va_A (W_X3_writeText h_this h_this_signs k_this_signs u_this_waiting u_this_waitingSize v_this_first v_this_signs) s.heap.size = A at hD hE ⊢
  have hA : ∀ q : Nat, s.heap.size ≤ q → A q := fun q h => by rw [← hAe]; exact Or.inr h
  clear hAe hD0
  have hS : va_S A s.heap s.heap [] := va_S.rf
  have hP : va_P (dC, dI) vwCl [(h_this, .inr (3, [.ref h_this_signs, .int v_this_first, u_this_waiting, u_this_waitingSize])), (h_this_signs, .inl (k_this_signs, 800, .inl (v_this_signs)))] s.heap := hP
  have hD : va_D A [(h_this, .inr (3, [.ref h_this_signs, .int v_this_first, u_this_waiting, u_this_waitingSize])), (h_this_signs, .inl (k_this_signs, 800, .inl (v_this_signs)))] := hD
  have B7 : ∀ n : Nat, ∀ (v_this_first : Int32) (v_this_signs : Nat → Int32) (l1 : Nat) (l2 : Int32) (H : Heap) (locs : List Loc) (ls : Array Slot), f_X3_writeText_B7 n v_this_first v_this_signs l1 l2 = some res → va_P (dC, dI) vwCl [(h_this, .inr (3, [.ref h_this_signs, .int v_this_first, u_this_waiting, u_this_waitingSize])), (h_this_signs, .inl (k_this_signs, 800, .inl (v_this_signs)))] H → va_D A [(h_this, .inr (3, [.ref h_this_signs, .int v_this_first, u_this_waiting, u_this_waitingSize])), (h_this_signs, .inl (k_this_signs, 800, .inl (v_this_signs)))] → va_S A s.heap H locs → lv_has ls 3 [(0, .ref h_this), (1, .ref (adK l1)), (2, .int l2)] → W p l e (headSpec wsX3_writeText ({ frames := 4, cells := 0, slots := 0, locals := 85 })).room s m [.ref h_this, .ref (adK a_p1)].toArray below meth c H locs 0 0 (MQ below (va_Qv (fun (u : Int32 × (Nat → Int32)) => u = res) (fun (u : Int32 × (Nat → Int32)) t => mPost dC dI A (W_X3_writeText h_this h_this_signs k_this_signs u_this_waiting u_this_waitingSize u.1 u.2) [(k_this_signs, .char)] t) A) [.ref h_this, .ref (adK a_p1)].toArray s 0 0 A) (F0 m 7 ls []) := by
    intro n
    clear hP hD hS hd
    induction n with
    | zero => intro v_this_first v_this_signs l1 l2 H locs ls h; exact absurd h (by rw [f_X3_writeText_B7]; exact fun z => nomatch z)
    | succ n ih7 =>
      intro v_this_first v_this_signs l1 l2 H locs ls h hP hD hS hl
      rw [f_X3_writeText_B7] at h
      refine lv_iload_n hx hb dX3_writeText_7 rfl (lv_at hl 2 rfl) ?_
      refine lv_if_lt (tgt := 26) hx hb dX3_writeText_8 (by decide) (fun c4 => ?_) (fun c4 => ?_)
      · have h := it_t h c4
        obtain rfl := Option.some.inj h
        exact W.vret hx hb hr (fun t ht hW => ⟨⟨(v_this_first, v_this_signs), rfl, rfl, by rw [ht]; exact hP, va_K.moved hW.alike hK, hD⟩, hS.F ht⟩) hS.2.2 dX3_writeText_26
      · have h := it_f h c4
        refine lv_aload_n hx hb dX3_writeText_11 rfl (lv_at hl 0 rfl) ?_
        refine lv_aload_n hx hb dX3_writeText_12 rfl (lv_at hl 1 rfl) ?_
        refine lv_iload_n hx hb dX3_writeText_13 rfl (lv_at hl 2 rfl) ?_
        obtain ⟨⟨r5, ⟨⟩⟩, gr5, h⟩ := Option.bind_eq_some_iff.mp h
        try dsimp only at h
        have hPc := hP.sub (ws' := []) [] rfl
        have hDc := hD.sub (ws' := []) [] (by decide) rfl
        have hKc := hK.sub (tys' := []) [] rfl
        have hFc := va_free (wc := []) hD hS hA [] rfl
        refine va_calli (va_runV (As := [.int l2]) (rest := [.ref h_this]) ⟨hx, hb, hml, hown, hts⟩ (c_J0_charAt_5068e l dC dI adK adV H.size l1 l2 (r5, ()) gr5) (cwV 1 hts gX3_writeText_J0_charAt_5068e rfl rfl rfl hd_J0_charAt_5068e ⟨Nat.le_of_ble_eq_true rfl, Nat.le_of_ble_eq_true rfl⟩) (preVE hKc hPc hDc (vk_recv hE.2.2.2.2.2.2.1 (f_J0_charAt_5068e_in gr5) hS) (fun U hU hW => envp hE hS hFc hU hW)) rfl rfl hl.1 rfl (lv_room (Nat.le_of_ble_eq_true rfl)) dX3_writeText_14 ⟨Nat.zero_le _, Nat.zero_le _⟩) hS (fun q _ h => hFc q h) hFc (fun ar5 ur5 tr5 H1 locs htr5 hvmr5 hw hB hz1 hk1 hS => ?_)
        obtain ⟨rfl, rfl⟩ := And.intro hw.1.symm hw.2.symm
        obtain ⟨hP1, hK1, hD1⟩ := hB
        rw [htr5] at hP1
        have hP : va_P (dC, dI) vwCl [(h_this, .inr (3, [.ref h_this_signs, .int v_this_first, u_this_waiting, u_this_waitingSize])), (h_this_signs, .inl (k_this_signs, 800, .inl (v_this_signs)))] H1 := keep0 hP hk1
        generalize H1 = H at hP hS ⊢
        clear hk1 hz1
        obtain ⟨⟨r7_this_first, r7_this_signs⟩, gr7, h⟩ := Option.bind_eq_some_iff.mp h
        try dsimp only at h
        have hPc := hP.sub (ws' := W_X3_write h_this h_this_signs k_this_signs u_this_waiting u_this_waitingSize v_this_first v_this_signs) [0, 1] rfl
        have hDc := hD.sub (ws' := W_X3_write h_this h_this_signs k_this_signs u_this_waiting u_this_waitingSize v_this_first v_this_signs) [0, 1] (by decide) rfl
        have hKc := hK.sub (tys' := [(k_this_signs, .char)]) [0] rfl
        have hFc := va_free (wc := W_X3_write h_this h_this_signs k_this_signs u_this_waiting u_this_waitingSize v_this_first v_this_signs) hD hS hA [0, 1] rfl
        refine va_callv (va_runV (As := [.int r5]) (rest := []) ⟨hx, hb, hml, hown, hts⟩ (c_X3_write l dC dI h_this h_this_signs k_this_signs u_this_waiting u_this_waitingSize H.size v_this_first v_this_signs r5 (r7_this_first, r7_this_signs) gr7) (cwV 1 hts gX3_writeText_X3_write rfl rfl rfl hd_X3_write ⟨Nat.le_of_ble_eq_true rfl, Nat.le_of_ble_eq_true rfl⟩) (preV hKc hPc hDc (va_recv hK hP (ci := 3) (q0 := 0) rfl rfl)) rfl rfl hl.1 rfl (lv_room (Nat.le_of_ble_eq_true rfl)) dX3_writeText_17 ⟨Nat.zero_le _, Nat.zero_le _⟩) hS (fun q _ h => hFc q h) hFc (fun ur7 tr7 H1 locs htr7 hvmr7 hw hB hz1 hk1 hS => ?_)
        obtain rfl := hw.symm
        obtain ⟨hP1, hK1, hD1⟩ := hB
        rw [htr7] at hP1
        obtain ⟨hP, hD⟩ := va_join (wr := []) (w1 := W_X3_write h_this h_this_signs k_this_signs u_this_waiting u_this_waitingSize r7_this_first r7_this_signs) hP hD [0, 1] [] rfl rfl (by decide) (by decide) hk1 hFc hP1 hD1
        have hP := hP.sub (ws' := [(h_this, .inr (3, [.ref h_this_signs, .int r7_this_first, u_this_waiting, u_this_waitingSize])), (h_this_signs, .inl (k_this_signs, 800, .inl (r7_this_signs)))]) [0, 1] rfl
        have hD := hD.sub (ws' := [(h_this, .inr (3, [.ref h_this_signs, .int r7_this_first, u_this_waiting, u_this_waitingSize])), (h_this_signs, .inl (k_this_signs, 800, .inl (r7_this_signs)))]) [0, 1] (by decide) rfl
        generalize H1 = H at hP hS ⊢
        clear hk1 hz1
        refine lv_iinc (v := l2 + (-1)) (lv' := [(2, .int (l2 + (-1))), (0, .ref h_this), (1, .ref (adK l1))]) hx hb dX3_writeText_20 hl (k := 2) rfl rfl (by decide) rfl (fun ls hl => ?_)
        refine lv_goto (tgt := 7) hx hb dX3_writeText_23 (by decide) ?_
        exact ih7 r7_this_first r7_this_signs l1 (l2 + (-1)) H locs ls h hP hD hS (lv_sub hl [1, 2, 0] rfl)
  have hl := lv_entry ([.ref h_this, .ref (adK a_p1)]) (n := 3) (Nat.le_of_ble_eq_true rfl)
  rw [lg_entry_eq]
  generalize (lg_sl ([.ref h_this, .ref (adK a_p1)]) ++ List.replicate (3 - (lg_sl ([.ref h_this, .ref (adK a_p1)])).length) Slot.unset).toArray = ls at hl ⊢
  have hl : lv_has ls 3 [(0, .ref h_this), (1, .ref (adK a_p1))] := hl
  have h := hd
  unfold f_X3_writeText at h
  obtain ⟨H, hHe⟩ : ∃ H, H = s.heap := ⟨_, rfl⟩
  obtain ⟨locs, hLe⟩ : ∃ L : List Loc, L = [] := ⟨_, rfl⟩
  have hS : va_S A s.heap H locs := by rw [hHe, hLe]; exact hS
  have hP : va_P (dC, dI) vwCl [(h_this, .inr (3, [.ref h_this_signs, .int v_this_first, u_this_waiting, u_this_waitingSize])), (h_this_signs, .inl (k_this_signs, 800, .inl (v_this_signs)))] H := by rw [hHe]; exact hP
  rw [show W p l e (headSpec wsX3_writeText ({ frames := 4, cells := 0, slots := 0, locals := 85 })).room s m [.ref h_this, .ref (adK a_p1)].toArray below meth c s.heap [] 0 0 = W p l e (headSpec wsX3_writeText ({ frames := 4, cells := 0, slots := 0, locals := 85 })).room s m [.ref h_this, .ref (adK a_p1)].toArray below meth c H locs 0 0 by rw [hHe, hLe]]
  clear hHe hLe
  refine lv_aload_n hx hb dX3_writeText_0 rfl (lv_at hl 1 rfl) ?_
  obtain ⟨⟨r1, ⟨⟩⟩, gr1, h⟩ := Option.bind_eq_some_iff.mp h
  try dsimp only at h
  have hPc := hP.sub (ws' := []) [] rfl
  have hDc := hD.sub (ws' := []) [] (by decide) rfl
  have hKc := hK.sub (tys' := []) [] rfl
  have hFc := va_free (wc := []) hD hS hA [] rfl
  refine va_calli (va_runV (As := []) (rest := []) ⟨hx, hb, hml, hown, hts⟩ (c_J0_length_8abf5 l dC dI adK adV H.size a_p1 (r1, ()) gr1) (cwV 0 hts gX3_writeText_J0_length_8abf5 rfl rfl rfl hd_J0_length_8abf5 ⟨Nat.le_of_ble_eq_true rfl, Nat.le_of_ble_eq_true rfl⟩) (preVE hKc hPc hDc (vk_recv hE.2.2.2.2.2.2.1 (f_J0_length_8abf5_in gr1) hS) (fun U hU hW => envp hE hS hFc hU hW)) rfl rfl hl.1 rfl (lv_room (Nat.le_of_ble_eq_true rfl)) dX3_writeText_1 ⟨Nat.zero_le _, Nat.zero_le _⟩) hS (fun q _ h => hFc q h) hFc (fun ar1 ur1 tr1 H1 locs htr1 hvmr1 hw hB hz1 hk1 hS => ?_)
  obtain ⟨rfl, rfl⟩ := And.intro hw.1.symm hw.2.symm
  obtain ⟨hP1, hK1, hD1⟩ := hB
  rw [htr1] at hP1
  have hP : va_P (dC, dI) vwCl [(h_this, .inr (3, [.ref h_this_signs, .int v_this_first, u_this_waiting, u_this_waitingSize])), (h_this_signs, .inl (k_this_signs, 800, .inl (v_this_signs)))] H1 := keep0 hP hk1
  generalize H1 = H at hP hS ⊢
  clear hk1 hz1
  refine lv_iconst (v := 1) hx hb dX3_writeText_4 (by decide) ?_
  refine lv_isub hx hb dX3_writeText_5 ?_
  refine lv_topi (fun y3 ey3 => ?_)
  subst ey3
  refine lv_istore_n (lv' := [(2, .int (r1 - 1)), (0, .ref h_this), (1, .ref (adK a_p1))]) hx hb dX3_writeText_6 rfl hl (by decide) rfl (fun ls hl => ?_)
  exact B7 FU v_this_first v_this_signs a_p1 (r1 - 1) H locs ls h hP hD hS (lv_sub hl [1, 2, 0] rfl)
abbrev W_X3_writeCell (h_this h_this_signs h_this_waiting : Nat) (k_this_signs k_this_waiting : ClassId) (v_this_first : Int32) (v_this_signs : Nat → Int32) (v_this_waiting : Nat → Int32) (v_this_waitingSize : Int32) : va_W := [(h_this, .inr (3, [.ref h_this_signs, .int v_this_first, .ref h_this_waiting, .int v_this_waitingSize])), (h_this_signs, .inl (k_this_signs, 800, .inl (v_this_signs))), (h_this_waiting, .inl (k_this_waiting, 800, .inl (v_this_waiting)))]
def f_X3_writeCell_B25 (v_this_first : Int32) (v_this_signs : Nat → Int32) (v_this_waiting : Nat → Int32) (v_this_waitingSize : Int32) (l1 : Int32) (l2 : Int32) (l4 : Int32) : Option (Int32 × (Nat → Int32) × (Nat → Int32) × Int32) := if l1 = 0 then (f_X3_writeNumber v_this_first v_this_signs l2).bind fun q10 => some ((q10.1, q10.2, v_this_waiting, v_this_waitingSize)) else if l1 = 1 then (f_X3_writeVariable v_this_first v_this_signs l2).bind fun q13 => some ((q13.1, q13.2, v_this_waiting, v_this_waitingSize)) else if l1 = 4 then (f_X3_await v_this_waiting v_this_waitingSize l4).bind fun q16 => (f_X3_await q16.1 q16.2 32).bind fun q18 => (f_X3_signOf l2).bind fun q20 => (f_X3_await q18.1 q18.2 q20.1).bind fun q22 => (f_X3_await q22.1 q22.2 32).bind fun q24 => (f_X3_await q24.1 q24.2 (l4 + 1)).bind fun q26 => some ((v_this_first, v_this_signs, q26.1, q26.2)) else if l1 = 5 then (f_X3_await v_this_waiting v_this_waitingSize 45).bind fun q29 => (f_X3_await q29.1 q29.2 7).bind fun q31 => some ((v_this_first, v_this_signs, q31.1, q31.2)) else if l1 = 11 then (f_X3_writeTemporary v_this_first v_this_signs l2).bind fun q34 => some ((q34.1, q34.2, v_this_waiting, v_this_waitingSize)) else (f_X3_write v_this_first v_this_signs 41).bind fun q36 => (f_X3_awaitCall v_this_waiting v_this_waitingSize l2).bind fun q38 => some ((q36.1, q36.2, q38.1, q38.2))
def f_X3_writeCell (v_this_first : Int32) (v_this_signs : Nat → Int32) (v_this_waiting : Nat → Int32) (v_this_waitingSize : Int32) (a_p1 : Int32) (a_p2 : Int32) (a_p3 : Int32) : Option (Int32 × (Nat → Int32) × (Nat → Int32) × Int32) := (f_X3_rankOf a_p1 a_p2).bind fun q2 => if a_p3 ≤ q2.1 then f_X3_writeCell_B25 v_this_first v_this_signs v_this_waiting v_this_waitingSize a_p1 a_p2 q2.1 else (f_X3_write v_this_first v_this_signs 41).bind fun q5 => (f_X3_await v_this_waiting v_this_waitingSize 40).bind fun q7 => f_X3_writeCell_B25 q5.1 q5.2 q7.1 q7.2 a_p1 a_p2 q2.1
theorem hdn_X3_writeCell : yX3_writeCell.cls ≠ "java/lang/invoke/MethodHandle" ∧ yX3_writeCell.cls ≠ "java/lang/invoke/VarHandle" ∧ (parseMethodDescriptor yX3_writeCell.desc).map (fun d => d.parameters.length) = some 3 := by decide +kernel
theorem hd_X3_writeCell : yX3_writeCell.cls = RX3 ∧ yX3_writeCell.cls ≠ "java/lang/invoke/MethodHandle" ∧ yX3_writeCell.cls ≠ "java/lang/invoke/VarHandle" ∧ (parseMethodDescriptor yX3_writeCell.desc).map (fun d => d.parameters.length) = some 3 := ⟨rfl, hdn_X3_writeCell⟩
set_option maxHeartbeats 4000000 in
set_option maxRecDepth 100000 in
theorem c_X3_writeCell (l : Launch) (dC : Nat → ClassId) (dI : Nat → Nat → Nat) (adK adV : Nat → Nat) (h_this h_this_signs h_this_waiting : Nat) (k_this_signs k_this_waiting : ClassId) (sz : Nat) (v_this_first : Int32) (v_this_signs : Nat → Int32) (v_this_waiting : Nat → Int32) (v_this_waitingSize : Int32) (a_p1 : Int32) (a_p2 : Int32) (a_p3 : Int32) (res : Int32 × (Nat → Int32) × (Nat → Int32) × Int32) (hd : f_X3_writeCell v_this_first v_this_signs v_this_waiting v_this_waitingSize a_p1 a_p2 a_p3 = some res) : Met l yX3_writeCell wsX3_writeCell ({ frames := 5, cells := 0, slots := 0, locals := 105 }) (va_Pc [.ref h_this, .int a_p1, .int a_p2, .int a_p3] (fun U => mPre dC dI (W_X3_writeCell h_this h_this_signs h_this_waiting k_this_signs k_this_waiting v_this_first v_this_signs v_this_waiting v_this_waitingSize) [(k_this_signs, .char), (k_this_waiting, .int)] sz U ∧ env adK adV (va_A (W_X3_writeCell h_this h_this_signs h_this_waiting k_this_signs k_this_waiting v_this_first v_this_signs v_this_waiting v_this_waitingSize) sz) U U.heap)) (va_Qv (fun (u : Int32 × (Nat → Int32) × (Nat → Int32) × Int32) => u = res) (fun (u : Int32 × (Nat → Int32) × (Nat → Int32) × Int32) t => mPost dC dI (va_A (W_X3_writeCell h_this h_this_signs h_this_waiting k_this_signs k_this_waiting v_this_first v_this_signs v_this_waiting v_this_waitingSize) sz) (W_X3_writeCell h_this h_this_signs h_this_waiting k_this_signs k_this_waiting u.1 u.2.1 u.2.2.1 u.2.2.2) [(k_this_signs, .char), (k_this_waiting, .int)] t) (va_A (W_X3_writeCell h_this h_this_signs h_this_waiting k_this_signs k_this_waiting v_this_first v_this_signs v_this_waiting v_this_waitingSize) sz)) 0 0 (va_A (W_X3_writeCell h_this h_this_signs h_this_waiting k_this_signs k_this_waiting v_this_first v_this_signs v_this_waiting v_this_waitingSize) sz) := by
  refine Met.ofW (cc := cX3_writeCell) (maxL := 5) (ret := none) (by decide) rfl ?_
  intro p e s m args below meth c s₁ B hml hv
  obtain ⟨rfl, ⟨hsz, hP, hK, hD0⟩, hE⟩ := hv
  have hx := B.exec
  have hb := B.bytes
  have hr := B.returns
  have hts := atoms_spec (ws := wsX3_writeCell) B.pre
  have hown : s.vm.findClass RX3 = some m.cls := findClass_of_methodNamed B.named
  have hlocks := B.notSynchronized
  subst hsz
  have hD := hD0.self (sz := s.heap.size)
  generalize hAe : va_A (W_X3_writeCell h_this h_this_signs h_this_waiting k_this_signs k_this_waiting v_this_first v_this_signs v_this_waiting v_this_waitingSize) s.heap.size = A at hD hE ⊢
  have hA : ∀ q : Nat, s.heap.size ≤ q → A q := fun q h => by rw [← hAe]; exact Or.inr h
  clear hAe hD0
  have hS : va_S A s.heap s.heap [] := va_S.rf
  have hP : va_P (dC, dI) vwCl [(h_this, .inr (3, [.ref h_this_signs, .int v_this_first, .ref h_this_waiting, .int v_this_waitingSize])), (h_this_signs, .inl (k_this_signs, 800, .inl (v_this_signs))), (h_this_waiting, .inl (k_this_waiting, 800, .inl (v_this_waiting)))] s.heap := hP
  have hD : va_D A [(h_this, .inr (3, [.ref h_this_signs, .int v_this_first, .ref h_this_waiting, .int v_this_waitingSize])), (h_this_signs, .inl (k_this_signs, 800, .inl (v_this_signs))), (h_this_waiting, .inl (k_this_waiting, 800, .inl (v_this_waiting)))] := hD
  have B25 : ∀ (v_this_first : Int32) (v_this_signs : Nat → Int32) (v_this_waiting : Nat → Int32) (v_this_waitingSize : Int32) (l1 : Int32) (l2 : Int32) (l4 : Int32) (H : Heap) (locs : List Loc) (ls : Array Slot), f_X3_writeCell_B25 v_this_first v_this_signs v_this_waiting v_this_waitingSize l1 l2 l4 = some res → va_P (dC, dI) vwCl [(h_this, .inr (3, [.ref h_this_signs, .int v_this_first, .ref h_this_waiting, .int v_this_waitingSize])), (h_this_signs, .inl (k_this_signs, 800, .inl (v_this_signs))), (h_this_waiting, .inl (k_this_waiting, 800, .inl (v_this_waiting)))] H → va_D A [(h_this, .inr (3, [.ref h_this_signs, .int v_this_first, .ref h_this_waiting, .int v_this_waitingSize])), (h_this_signs, .inl (k_this_signs, 800, .inl (v_this_signs))), (h_this_waiting, .inl (k_this_waiting, 800, .inl (v_this_waiting)))] → va_S A s.heap H locs → lv_has ls 5 [(0, .ref h_this), (1, .int l1), (2, .int l2), (4, .int l4)] → W p l e (headSpec wsX3_writeCell ({ frames := 5, cells := 0, slots := 0, locals := 105 })).room s m [.ref h_this, .int a_p1, .int a_p2, .int a_p3].toArray below meth c H locs 0 0 (MQ below (va_Qv (fun (u : Int32 × (Nat → Int32) × (Nat → Int32) × Int32) => u = res) (fun (u : Int32 × (Nat → Int32) × (Nat → Int32) × Int32) t => mPost dC dI A (W_X3_writeCell h_this h_this_signs h_this_waiting k_this_signs k_this_waiting u.1 u.2.1 u.2.2.1 u.2.2.2) [(k_this_signs, .char), (k_this_waiting, .int)] t) A) [.ref h_this, .int a_p1, .int a_p2, .int a_p3].toArray s 0 0 A) (F0 m 25 ls []) := by
    clear hP hD hS hd
    intro v_this_first v_this_signs v_this_waiting v_this_waitingSize l1 l2 l4 H locs ls h hP hD hS hl
    unfold f_X3_writeCell_B25 at h
    refine lv_iload_n hx hb dX3_writeCell_25 rfl (lv_at hl 1 rfl) ?_
    by_cases s8 : l1 = 0
    · have h := it_t h s8
      refine lv_tableIn (tgt := 88) hx hb dX3_writeCell_26 (by rw [s8]; decide) (by rw [s8]; decide) (by rw [s8]; rfl) (by decide) ?_
      refine lv_aload_n hx hb dX3_writeCell_88 rfl (lv_at hl 0 rfl) ?_
      refine lv_iload_n hx hb dX3_writeCell_89 rfl (lv_at hl 2 rfl) ?_
      obtain ⟨⟨r9_this_first, r9_this_signs⟩, gr9, h⟩ := Option.bind_eq_some_iff.mp h
      try dsimp only at h
      have hPc := hP.sub (ws' := W_X3_writeNumber h_this h_this_signs k_this_signs (.ref h_this_waiting) (.int v_this_waitingSize) v_this_first v_this_signs) [0, 1] rfl
      have hDc := hD.sub (ws' := W_X3_writeNumber h_this h_this_signs k_this_signs (.ref h_this_waiting) (.int v_this_waitingSize) v_this_first v_this_signs) [0, 1] (by decide) rfl
      have hKc := hK.sub (tys' := [(k_this_signs, .char)]) [0] rfl
      have hFc := va_free (wc := W_X3_writeNumber h_this h_this_signs k_this_signs (.ref h_this_waiting) (.int v_this_waitingSize) v_this_first v_this_signs) hD hS hA [0, 1] rfl
      refine va_callv (va_runV (As := [.int l2]) (rest := []) ⟨hx, hb, hml, hown, hts⟩ (c_X3_writeNumber l dC dI h_this h_this_signs k_this_signs (.ref h_this_waiting) (.int v_this_waitingSize) H.size v_this_first v_this_signs l2 (r9_this_first, r9_this_signs) gr9) (cwV 1 hts gX3_writeCell_X3_writeNumber rfl rfl rfl hd_X3_writeNumber ⟨Nat.le_of_ble_eq_true rfl, Nat.le_of_ble_eq_true rfl⟩) (preV hKc hPc hDc (va_recv hK hP (ci := 3) (q0 := 0) rfl rfl)) rfl rfl hl.1 rfl (lv_room (Nat.le_of_ble_eq_true rfl)) dX3_writeCell_90 ⟨Nat.zero_le _, Nat.zero_le _⟩) hS (fun q _ h => hFc q h) hFc (fun ur9 tr9 H1 locs htr9 hvmr9 hw hB hz1 hk1 hS => ?_)
      obtain rfl := hw.symm
      obtain ⟨hP1, hK1, hD1⟩ := hB
      rw [htr9] at hP1
      obtain ⟨hP, hD⟩ := va_join (wr := [(h_this_waiting, .inl (k_this_waiting, 800, .inl (v_this_waiting)))]) (w1 := W_X3_writeNumber h_this h_this_signs k_this_signs (.ref h_this_waiting) (.int v_this_waitingSize) r9_this_first r9_this_signs) hP hD [0, 1] [2] rfl rfl (by decide) (by decide) hk1 hFc hP1 hD1
      have hP := hP.sub (ws' := [(h_this, .inr (3, [.ref h_this_signs, .int r9_this_first, .ref h_this_waiting, .int v_this_waitingSize])), (h_this_signs, .inl (k_this_signs, 800, .inl (r9_this_signs))), (h_this_waiting, .inl (k_this_waiting, 800, .inl (v_this_waiting)))]) [1, 2, 0] rfl
      have hD := hD.sub (ws' := [(h_this, .inr (3, [.ref h_this_signs, .int r9_this_first, .ref h_this_waiting, .int v_this_waitingSize])), (h_this_signs, .inl (k_this_signs, 800, .inl (r9_this_signs))), (h_this_waiting, .inl (k_this_waiting, 800, .inl (v_this_waiting)))]) [1, 2, 0] (by decide) rfl
      generalize H1 = H at hP hS ⊢
      clear hk1 hz1
      refine lv_goto (tgt := 175) hx hb dX3_writeCell_93 (by decide) ?_
      obtain rfl := Option.some.inj h
      exact W.vret hx hb hr (fun t ht hW => ⟨⟨(r9_this_first, r9_this_signs, v_this_waiting, v_this_waitingSize), rfl, rfl, by rw [ht]; exact hP, va_K.moved hW.alike hK, hD⟩, hS.F ht⟩) hS.2.2 dX3_writeCell_175
    have h := it_f h s8
    by_cases s11 : l1 = 1
    · have h := it_t h s11
      refine lv_tableIn (tgt := 96) hx hb dX3_writeCell_26 (by rw [s11]; decide) (by rw [s11]; decide) (by rw [s11]; rfl) (by decide) ?_
      refine lv_aload_n hx hb dX3_writeCell_96 rfl (lv_at hl 0 rfl) ?_
      refine lv_iload_n hx hb dX3_writeCell_97 rfl (lv_at hl 2 rfl) ?_
      obtain ⟨⟨r12_this_first, r12_this_signs⟩, gr12, h⟩ := Option.bind_eq_some_iff.mp h
      try dsimp only at h
      have hPc := hP.sub (ws' := W_X3_writeVariable h_this h_this_signs k_this_signs (.ref h_this_waiting) (.int v_this_waitingSize) v_this_first v_this_signs) [0, 1] rfl
      have hDc := hD.sub (ws' := W_X3_writeVariable h_this h_this_signs k_this_signs (.ref h_this_waiting) (.int v_this_waitingSize) v_this_first v_this_signs) [0, 1] (by decide) rfl
      have hKc := hK.sub (tys' := [(k_this_signs, .char)]) [0] rfl
      have hFc := va_free (wc := W_X3_writeVariable h_this h_this_signs k_this_signs (.ref h_this_waiting) (.int v_this_waitingSize) v_this_first v_this_signs) hD hS hA [0, 1] rfl
      refine va_callv (va_runV (As := [.int l2]) (rest := []) ⟨hx, hb, hml, hown, hts⟩ (c_X3_writeVariable l dC dI h_this h_this_signs k_this_signs (.ref h_this_waiting) (.int v_this_waitingSize) H.size v_this_first v_this_signs l2 (r12_this_first, r12_this_signs) gr12) (cwV 1 hts gX3_writeCell_X3_writeVariable rfl rfl rfl hd_X3_writeVariable ⟨Nat.le_of_ble_eq_true rfl, Nat.le_of_ble_eq_true rfl⟩) (preV hKc hPc hDc (va_recv hK hP (ci := 3) (q0 := 0) rfl rfl)) rfl rfl hl.1 rfl (lv_room (Nat.le_of_ble_eq_true rfl)) dX3_writeCell_98 ⟨Nat.zero_le _, Nat.zero_le _⟩) hS (fun q _ h => hFc q h) hFc (fun ur12 tr12 H1 locs htr12 hvmr12 hw hB hz1 hk1 hS => ?_)
      obtain rfl := hw.symm
      obtain ⟨hP1, hK1, hD1⟩ := hB
      rw [htr12] at hP1
      obtain ⟨hP, hD⟩ := va_join (wr := [(h_this_waiting, .inl (k_this_waiting, 800, .inl (v_this_waiting)))]) (w1 := W_X3_writeVariable h_this h_this_signs k_this_signs (.ref h_this_waiting) (.int v_this_waitingSize) r12_this_first r12_this_signs) hP hD [0, 1] [2] rfl rfl (by decide) (by decide) hk1 hFc hP1 hD1
      have hP := hP.sub (ws' := [(h_this, .inr (3, [.ref h_this_signs, .int r12_this_first, .ref h_this_waiting, .int v_this_waitingSize])), (h_this_signs, .inl (k_this_signs, 800, .inl (r12_this_signs))), (h_this_waiting, .inl (k_this_waiting, 800, .inl (v_this_waiting)))]) [1, 2, 0] rfl
      have hD := hD.sub (ws' := [(h_this, .inr (3, [.ref h_this_signs, .int r12_this_first, .ref h_this_waiting, .int v_this_waitingSize])), (h_this_signs, .inl (k_this_signs, 800, .inl (r12_this_signs))), (h_this_waiting, .inl (k_this_waiting, 800, .inl (v_this_waiting)))]) [1, 2, 0] (by decide) rfl
      generalize H1 = H at hP hS ⊢
      clear hk1 hz1
      refine lv_goto (tgt := 175) hx hb dX3_writeCell_101 (by decide) ?_
      obtain rfl := Option.some.inj h
      exact W.vret hx hb hr (fun t ht hW => ⟨⟨(r12_this_first, r12_this_signs, v_this_waiting, v_this_waitingSize), rfl, rfl, by rw [ht]; exact hP, va_K.moved hW.alike hK, hD⟩, hS.F ht⟩) hS.2.2 dX3_writeCell_175
    have h := it_f h s11
    by_cases s14 : l1 = 4
    · have h := it_t h s14
      refine lv_tableIn (tgt := 112) hx hb dX3_writeCell_26 (by rw [s14]; decide) (by rw [s14]; decide) (by rw [s14]; rfl) (by decide) ?_
      refine lv_aload_n hx hb dX3_writeCell_112 rfl (lv_at hl 0 rfl) ?_
      refine lv_iload hx hb dX3_writeCell_113 (lv_at hl 3 rfl) ?_
      obtain ⟨⟨r15_this_waiting, r15_this_waitingSize⟩, gr15, h⟩ := Option.bind_eq_some_iff.mp h
      try dsimp only at h
      have hPc := hP.sub (ws' := W_X3_await h_this h_this_waiting k_this_waiting (.ref h_this_signs) (.int v_this_first) v_this_waiting v_this_waitingSize) [0, 2] rfl
      have hDc := hD.sub (ws' := W_X3_await h_this h_this_waiting k_this_waiting (.ref h_this_signs) (.int v_this_first) v_this_waiting v_this_waitingSize) [0, 2] (by decide) rfl
      have hKc := hK.sub (tys' := [(k_this_waiting, .int)]) [1] rfl
      have hFc := va_free (wc := W_X3_await h_this h_this_waiting k_this_waiting (.ref h_this_signs) (.int v_this_first) v_this_waiting v_this_waitingSize) hD hS hA [0, 2] rfl
      refine va_callv (va_runV (As := [.int l4]) (rest := []) ⟨hx, hb, hml, hown, hts⟩ (c_X3_await l dC dI h_this h_this_waiting k_this_waiting (.ref h_this_signs) (.int v_this_first) H.size v_this_waiting v_this_waitingSize l4 (r15_this_waiting, r15_this_waitingSize) gr15) (cwV 1 hts gX3_writeCell_X3_await rfl rfl rfl hd_X3_await ⟨Nat.le_of_ble_eq_true rfl, Nat.le_of_ble_eq_true rfl⟩) (preV hKc hPc hDc (va_recv hK hP (ci := 3) (q0 := 0) rfl rfl)) rfl rfl hl.1 rfl (lv_room (Nat.le_of_ble_eq_true rfl)) dX3_writeCell_115 ⟨Nat.zero_le _, Nat.zero_le _⟩) hS (fun q _ h => hFc q h) hFc (fun ur15 tr15 H1 locs htr15 hvmr15 hw hB hz1 hk1 hS => ?_)
      obtain rfl := hw.symm
      obtain ⟨hP1, hK1, hD1⟩ := hB
      rw [htr15] at hP1
      obtain ⟨hP, hD⟩ := va_join (wr := [(h_this_signs, .inl (k_this_signs, 800, .inl (v_this_signs)))]) (w1 := W_X3_await h_this h_this_waiting k_this_waiting (.ref h_this_signs) (.int v_this_first) r15_this_waiting r15_this_waitingSize) hP hD [0, 2] [1] rfl rfl (by decide) (by decide) hk1 hFc hP1 hD1
      have hP := hP.sub (ws' := [(h_this, .inr (3, [.ref h_this_signs, .int v_this_first, .ref h_this_waiting, .int r15_this_waitingSize])), (h_this_signs, .inl (k_this_signs, 800, .inl (v_this_signs))), (h_this_waiting, .inl (k_this_waiting, 800, .inl (r15_this_waiting)))]) [1, 0, 2] rfl
      have hD := hD.sub (ws' := [(h_this, .inr (3, [.ref h_this_signs, .int v_this_first, .ref h_this_waiting, .int r15_this_waitingSize])), (h_this_signs, .inl (k_this_signs, 800, .inl (v_this_signs))), (h_this_waiting, .inl (k_this_waiting, 800, .inl (r15_this_waiting)))]) [1, 0, 2] (by decide) rfl
      generalize H1 = H at hP hS ⊢
      clear hk1 hz1
      refine lv_aload_n hx hb dX3_writeCell_118 rfl (lv_at hl 0 rfl) ?_
      refine lv_bipush (v := 32) hx hb dX3_writeCell_119 (by decide) ?_
      obtain ⟨⟨r17_this_waiting, r17_this_waitingSize⟩, gr17, h⟩ := Option.bind_eq_some_iff.mp h
      try dsimp only at h
      have hPc := hP.sub (ws' := W_X3_await h_this h_this_waiting k_this_waiting (.ref h_this_signs) (.int v_this_first) r15_this_waiting r15_this_waitingSize) [0, 2] rfl
      have hDc := hD.sub (ws' := W_X3_await h_this h_this_waiting k_this_waiting (.ref h_this_signs) (.int v_this_first) r15_this_waiting r15_this_waitingSize) [0, 2] (by decide) rfl
      have hKc := hK.sub (tys' := [(k_this_waiting, .int)]) [1] rfl
      have hFc := va_free (wc := W_X3_await h_this h_this_waiting k_this_waiting (.ref h_this_signs) (.int v_this_first) r15_this_waiting r15_this_waitingSize) hD hS hA [0, 2] rfl
      refine va_callv (va_runV (As := [.int 32]) (rest := []) ⟨hx, hb, hml, hown, hts⟩ (c_X3_await l dC dI h_this h_this_waiting k_this_waiting (.ref h_this_signs) (.int v_this_first) H.size r15_this_waiting r15_this_waitingSize 32 (r17_this_waiting, r17_this_waitingSize) gr17) (cwV 1 hts gX3_writeCell_X3_await rfl rfl rfl hd_X3_await ⟨Nat.le_of_ble_eq_true rfl, Nat.le_of_ble_eq_true rfl⟩) (preV hKc hPc hDc (va_recv hK hP (ci := 3) (q0 := 0) rfl rfl)) rfl rfl hl.1 rfl (lv_room (Nat.le_of_ble_eq_true rfl)) dX3_writeCell_121 ⟨Nat.zero_le _, Nat.zero_le _⟩) hS (fun q _ h => hFc q h) hFc (fun ur17 tr17 H1 locs htr17 hvmr17 hw hB hz1 hk1 hS => ?_)
      obtain rfl := hw.symm
      obtain ⟨hP1, hK1, hD1⟩ := hB
      rw [htr17] at hP1
      obtain ⟨hP, hD⟩ := va_join (wr := [(h_this_signs, .inl (k_this_signs, 800, .inl (v_this_signs)))]) (w1 := W_X3_await h_this h_this_waiting k_this_waiting (.ref h_this_signs) (.int v_this_first) r17_this_waiting r17_this_waitingSize) hP hD [0, 2] [1] rfl rfl (by decide) (by decide) hk1 hFc hP1 hD1
      have hP := hP.sub (ws' := [(h_this, .inr (3, [.ref h_this_signs, .int v_this_first, .ref h_this_waiting, .int r17_this_waitingSize])), (h_this_signs, .inl (k_this_signs, 800, .inl (v_this_signs))), (h_this_waiting, .inl (k_this_waiting, 800, .inl (r17_this_waiting)))]) [1, 0, 2] rfl
      have hD := hD.sub (ws' := [(h_this, .inr (3, [.ref h_this_signs, .int v_this_first, .ref h_this_waiting, .int r17_this_waitingSize])), (h_this_signs, .inl (k_this_signs, 800, .inl (v_this_signs))), (h_this_waiting, .inl (k_this_waiting, 800, .inl (r17_this_waiting)))]) [1, 0, 2] (by decide) rfl
      generalize H1 = H at hP hS ⊢
      clear hk1 hz1
      refine lv_aload_n hx hb dX3_writeCell_124 rfl (lv_at hl 0 rfl) ?_
      refine lv_iload_n hx hb dX3_writeCell_125 rfl (lv_at hl 2 rfl) ?_
      obtain ⟨⟨r19, ⟨⟩⟩, gr19, h⟩ := Option.bind_eq_some_iff.mp h
      try dsimp only at h
      have hPc := hP.sub (ws' := []) [] rfl
      have hDc := hD.sub (ws' := []) [] (by decide) rfl
      have hKc := hK.sub (tys' := []) [] rfl
      have hFc := va_free (wc := []) hD hS hA [] rfl
      refine va_calli (va_runS (As := [.int l2]) (rest := [.ref h_this]) ⟨hx, hb, hml, hown, hts⟩ (c_X3_signOf l dC dI adK adV H.size l2 (r19, ()) gr19) (va_cwS 1 hts gX3_writeCell_X3_signOf rfl rfl rfl hdn_X3_signOf ⟨Nat.le_of_ble_eq_true rfl, Nat.le_of_ble_eq_true rfl⟩) (preSE hKc hPc hDc (fun U hU hW => envp hE hS hFc hU hW)) rfl rfl hl.1 rfl (lv_room (Nat.le_of_ble_eq_true rfl)) dX3_writeCell_126 ⟨Nat.zero_le _, Nat.zero_le _⟩) hS (fun q _ h => hFc q h) hFc (fun ar19 ur19 tr19 H1 locs htr19 hvmr19 hw hB hz1 hk1 hS => ?_)
      obtain ⟨rfl, rfl⟩ := And.intro hw.1.symm hw.2.symm
      obtain ⟨hP1, hK1, hD1⟩ := hB
      rw [htr19] at hP1
      have hP : va_P (dC, dI) vwCl [(h_this, .inr (3, [.ref h_this_signs, .int v_this_first, .ref h_this_waiting, .int r17_this_waitingSize])), (h_this_signs, .inl (k_this_signs, 800, .inl (v_this_signs))), (h_this_waiting, .inl (k_this_waiting, 800, .inl (r17_this_waiting)))] H1 := keep0 hP hk1
      generalize H1 = H at hP hS ⊢
      clear hk1 hz1
      obtain ⟨⟨r21_this_waiting, r21_this_waitingSize⟩, gr21, h⟩ := Option.bind_eq_some_iff.mp h
      try dsimp only at h
      have hPc := hP.sub (ws' := W_X3_await h_this h_this_waiting k_this_waiting (.ref h_this_signs) (.int v_this_first) r17_this_waiting r17_this_waitingSize) [0, 2] rfl
      have hDc := hD.sub (ws' := W_X3_await h_this h_this_waiting k_this_waiting (.ref h_this_signs) (.int v_this_first) r17_this_waiting r17_this_waitingSize) [0, 2] (by decide) rfl
      have hKc := hK.sub (tys' := [(k_this_waiting, .int)]) [1] rfl
      have hFc := va_free (wc := W_X3_await h_this h_this_waiting k_this_waiting (.ref h_this_signs) (.int v_this_first) r17_this_waiting r17_this_waitingSize) hD hS hA [0, 2] rfl
      refine va_callv (va_runV (As := [.int r19]) (rest := []) ⟨hx, hb, hml, hown, hts⟩ (c_X3_await l dC dI h_this h_this_waiting k_this_waiting (.ref h_this_signs) (.int v_this_first) H.size r17_this_waiting r17_this_waitingSize r19 (r21_this_waiting, r21_this_waitingSize) gr21) (cwV 1 hts gX3_writeCell_X3_await rfl rfl rfl hd_X3_await ⟨Nat.le_of_ble_eq_true rfl, Nat.le_of_ble_eq_true rfl⟩) (preV hKc hPc hDc (va_recv hK hP (ci := 3) (q0 := 0) rfl rfl)) rfl rfl hl.1 rfl (lv_room (Nat.le_of_ble_eq_true rfl)) dX3_writeCell_129 ⟨Nat.zero_le _, Nat.zero_le _⟩) hS (fun q _ h => hFc q h) hFc (fun ur21 tr21 H1 locs htr21 hvmr21 hw hB hz1 hk1 hS => ?_)
      obtain rfl := hw.symm
      obtain ⟨hP1, hK1, hD1⟩ := hB
      rw [htr21] at hP1
      obtain ⟨hP, hD⟩ := va_join (wr := [(h_this_signs, .inl (k_this_signs, 800, .inl (v_this_signs)))]) (w1 := W_X3_await h_this h_this_waiting k_this_waiting (.ref h_this_signs) (.int v_this_first) r21_this_waiting r21_this_waitingSize) hP hD [0, 2] [1] rfl rfl (by decide) (by decide) hk1 hFc hP1 hD1
      have hP := hP.sub (ws' := [(h_this, .inr (3, [.ref h_this_signs, .int v_this_first, .ref h_this_waiting, .int r21_this_waitingSize])), (h_this_signs, .inl (k_this_signs, 800, .inl (v_this_signs))), (h_this_waiting, .inl (k_this_waiting, 800, .inl (r21_this_waiting)))]) [1, 0, 2] rfl
      have hD := hD.sub (ws' := [(h_this, .inr (3, [.ref h_this_signs, .int v_this_first, .ref h_this_waiting, .int r21_this_waitingSize])), (h_this_signs, .inl (k_this_signs, 800, .inl (v_this_signs))), (h_this_waiting, .inl (k_this_waiting, 800, .inl (r21_this_waiting)))]) [1, 0, 2] (by decide) rfl
      generalize H1 = H at hP hS ⊢
      clear hk1 hz1
      refine lv_aload_n hx hb dX3_writeCell_132 rfl (lv_at hl 0 rfl) ?_
      refine lv_bipush (v := 32) hx hb dX3_writeCell_133 (by decide) ?_
      obtain ⟨⟨r23_this_waiting, r23_this_waitingSize⟩, gr23, h⟩ := Option.bind_eq_some_iff.mp h
      try dsimp only at h
      have hPc := hP.sub (ws' := W_X3_await h_this h_this_waiting k_this_waiting (.ref h_this_signs) (.int v_this_first) r21_this_waiting r21_this_waitingSize) [0, 2] rfl
      have hDc := hD.sub (ws' := W_X3_await h_this h_this_waiting k_this_waiting (.ref h_this_signs) (.int v_this_first) r21_this_waiting r21_this_waitingSize) [0, 2] (by decide) rfl
      have hKc := hK.sub (tys' := [(k_this_waiting, .int)]) [1] rfl
      have hFc := va_free (wc := W_X3_await h_this h_this_waiting k_this_waiting (.ref h_this_signs) (.int v_this_first) r21_this_waiting r21_this_waitingSize) hD hS hA [0, 2] rfl
      refine va_callv (va_runV (As := [.int 32]) (rest := []) ⟨hx, hb, hml, hown, hts⟩ (c_X3_await l dC dI h_this h_this_waiting k_this_waiting (.ref h_this_signs) (.int v_this_first) H.size r21_this_waiting r21_this_waitingSize 32 (r23_this_waiting, r23_this_waitingSize) gr23) (cwV 1 hts gX3_writeCell_X3_await rfl rfl rfl hd_X3_await ⟨Nat.le_of_ble_eq_true rfl, Nat.le_of_ble_eq_true rfl⟩) (preV hKc hPc hDc (va_recv hK hP (ci := 3) (q0 := 0) rfl rfl)) rfl rfl hl.1 rfl (lv_room (Nat.le_of_ble_eq_true rfl)) dX3_writeCell_135 ⟨Nat.zero_le _, Nat.zero_le _⟩) hS (fun q _ h => hFc q h) hFc (fun ur23 tr23 H1 locs htr23 hvmr23 hw hB hz1 hk1 hS => ?_)
      obtain rfl := hw.symm
      obtain ⟨hP1, hK1, hD1⟩ := hB
      rw [htr23] at hP1
      obtain ⟨hP, hD⟩ := va_join (wr := [(h_this_signs, .inl (k_this_signs, 800, .inl (v_this_signs)))]) (w1 := W_X3_await h_this h_this_waiting k_this_waiting (.ref h_this_signs) (.int v_this_first) r23_this_waiting r23_this_waitingSize) hP hD [0, 2] [1] rfl rfl (by decide) (by decide) hk1 hFc hP1 hD1
      have hP := hP.sub (ws' := [(h_this, .inr (3, [.ref h_this_signs, .int v_this_first, .ref h_this_waiting, .int r23_this_waitingSize])), (h_this_signs, .inl (k_this_signs, 800, .inl (v_this_signs))), (h_this_waiting, .inl (k_this_waiting, 800, .inl (r23_this_waiting)))]) [1, 0, 2] rfl
      have hD := hD.sub (ws' := [(h_this, .inr (3, [.ref h_this_signs, .int v_this_first, .ref h_this_waiting, .int r23_this_waitingSize])), (h_this_signs, .inl (k_this_signs, 800, .inl (v_this_signs))), (h_this_waiting, .inl (k_this_waiting, 800, .inl (r23_this_waiting)))]) [1, 0, 2] (by decide) rfl
      generalize H1 = H at hP hS ⊢
      clear hk1 hz1
      refine lv_aload_n hx hb dX3_writeCell_138 rfl (lv_at hl 0 rfl) ?_
      refine lv_iload hx hb dX3_writeCell_139 (lv_at hl 3 rfl) ?_
      refine lv_iconst (v := 1) hx hb dX3_writeCell_141 (by decide) ?_
      refine lv_iadd hx hb dX3_writeCell_142 ?_
      obtain ⟨⟨r25_this_waiting, r25_this_waitingSize⟩, gr25, h⟩ := Option.bind_eq_some_iff.mp h
      try dsimp only at h
      have hPc := hP.sub (ws' := W_X3_await h_this h_this_waiting k_this_waiting (.ref h_this_signs) (.int v_this_first) r23_this_waiting r23_this_waitingSize) [0, 2] rfl
      have hDc := hD.sub (ws' := W_X3_await h_this h_this_waiting k_this_waiting (.ref h_this_signs) (.int v_this_first) r23_this_waiting r23_this_waitingSize) [0, 2] (by decide) rfl
      have hKc := hK.sub (tys' := [(k_this_waiting, .int)]) [1] rfl
      have hFc := va_free (wc := W_X3_await h_this h_this_waiting k_this_waiting (.ref h_this_signs) (.int v_this_first) r23_this_waiting r23_this_waitingSize) hD hS hA [0, 2] rfl
      refine va_callv (va_runV (As := [.int (l4 + 1)]) (rest := []) ⟨hx, hb, hml, hown, hts⟩ (c_X3_await l dC dI h_this h_this_waiting k_this_waiting (.ref h_this_signs) (.int v_this_first) H.size r23_this_waiting r23_this_waitingSize (l4 + 1) (r25_this_waiting, r25_this_waitingSize) gr25) (cwV 1 hts gX3_writeCell_X3_await rfl rfl rfl hd_X3_await ⟨Nat.le_of_ble_eq_true rfl, Nat.le_of_ble_eq_true rfl⟩) (preV hKc hPc hDc (va_recv hK hP (ci := 3) (q0 := 0) rfl rfl)) rfl rfl hl.1 rfl (lv_room (Nat.le_of_ble_eq_true rfl)) dX3_writeCell_143 ⟨Nat.zero_le _, Nat.zero_le _⟩) hS (fun q _ h => hFc q h) hFc (fun ur25 tr25 H1 locs htr25 hvmr25 hw hB hz1 hk1 hS => ?_)
      obtain rfl := hw.symm
      obtain ⟨hP1, hK1, hD1⟩ := hB
      rw [htr25] at hP1
      obtain ⟨hP, hD⟩ := va_join (wr := [(h_this_signs, .inl (k_this_signs, 800, .inl (v_this_signs)))]) (w1 := W_X3_await h_this h_this_waiting k_this_waiting (.ref h_this_signs) (.int v_this_first) r25_this_waiting r25_this_waitingSize) hP hD [0, 2] [1] rfl rfl (by decide) (by decide) hk1 hFc hP1 hD1
      have hP := hP.sub (ws' := [(h_this, .inr (3, [.ref h_this_signs, .int v_this_first, .ref h_this_waiting, .int r25_this_waitingSize])), (h_this_signs, .inl (k_this_signs, 800, .inl (v_this_signs))), (h_this_waiting, .inl (k_this_waiting, 800, .inl (r25_this_waiting)))]) [1, 0, 2] rfl
      have hD := hD.sub (ws' := [(h_this, .inr (3, [.ref h_this_signs, .int v_this_first, .ref h_this_waiting, .int r25_this_waitingSize])), (h_this_signs, .inl (k_this_signs, 800, .inl (v_this_signs))), (h_this_waiting, .inl (k_this_waiting, 800, .inl (r25_this_waiting)))]) [1, 0, 2] (by decide) rfl
      generalize H1 = H at hP hS ⊢
      clear hk1 hz1
      refine lv_goto (tgt := 175) hx hb dX3_writeCell_146 (by decide) ?_
      obtain rfl := Option.some.inj h
      exact W.vret hx hb hr (fun t ht hW => ⟨⟨(v_this_first, v_this_signs, r25_this_waiting, r25_this_waitingSize), rfl, rfl, by rw [ht]; exact hP, va_K.moved hW.alike hK, hD⟩, hS.F ht⟩) hS.2.2 dX3_writeCell_175
    have h := it_f h s14
    by_cases s27 : l1 = 5
    · have h := it_t h s27
      refine lv_tableIn (tgt := 149) hx hb dX3_writeCell_26 (by rw [s27]; decide) (by rw [s27]; decide) (by rw [s27]; rfl) (by decide) ?_
      refine lv_aload_n hx hb dX3_writeCell_149 rfl (lv_at hl 0 rfl) ?_
      refine lv_bipush (v := 45) hx hb dX3_writeCell_150 (by decide) ?_
      obtain ⟨⟨r28_this_waiting, r28_this_waitingSize⟩, gr28, h⟩ := Option.bind_eq_some_iff.mp h
      try dsimp only at h
      have hPc := hP.sub (ws' := W_X3_await h_this h_this_waiting k_this_waiting (.ref h_this_signs) (.int v_this_first) v_this_waiting v_this_waitingSize) [0, 2] rfl
      have hDc := hD.sub (ws' := W_X3_await h_this h_this_waiting k_this_waiting (.ref h_this_signs) (.int v_this_first) v_this_waiting v_this_waitingSize) [0, 2] (by decide) rfl
      have hKc := hK.sub (tys' := [(k_this_waiting, .int)]) [1] rfl
      have hFc := va_free (wc := W_X3_await h_this h_this_waiting k_this_waiting (.ref h_this_signs) (.int v_this_first) v_this_waiting v_this_waitingSize) hD hS hA [0, 2] rfl
      refine va_callv (va_runV (As := [.int 45]) (rest := []) ⟨hx, hb, hml, hown, hts⟩ (c_X3_await l dC dI h_this h_this_waiting k_this_waiting (.ref h_this_signs) (.int v_this_first) H.size v_this_waiting v_this_waitingSize 45 (r28_this_waiting, r28_this_waitingSize) gr28) (cwV 1 hts gX3_writeCell_X3_await rfl rfl rfl hd_X3_await ⟨Nat.le_of_ble_eq_true rfl, Nat.le_of_ble_eq_true rfl⟩) (preV hKc hPc hDc (va_recv hK hP (ci := 3) (q0 := 0) rfl rfl)) rfl rfl hl.1 rfl (lv_room (Nat.le_of_ble_eq_true rfl)) dX3_writeCell_152 ⟨Nat.zero_le _, Nat.zero_le _⟩) hS (fun q _ h => hFc q h) hFc (fun ur28 tr28 H1 locs htr28 hvmr28 hw hB hz1 hk1 hS => ?_)
      obtain rfl := hw.symm
      obtain ⟨hP1, hK1, hD1⟩ := hB
      rw [htr28] at hP1
      obtain ⟨hP, hD⟩ := va_join (wr := [(h_this_signs, .inl (k_this_signs, 800, .inl (v_this_signs)))]) (w1 := W_X3_await h_this h_this_waiting k_this_waiting (.ref h_this_signs) (.int v_this_first) r28_this_waiting r28_this_waitingSize) hP hD [0, 2] [1] rfl rfl (by decide) (by decide) hk1 hFc hP1 hD1
      have hP := hP.sub (ws' := [(h_this, .inr (3, [.ref h_this_signs, .int v_this_first, .ref h_this_waiting, .int r28_this_waitingSize])), (h_this_signs, .inl (k_this_signs, 800, .inl (v_this_signs))), (h_this_waiting, .inl (k_this_waiting, 800, .inl (r28_this_waiting)))]) [1, 0, 2] rfl
      have hD := hD.sub (ws' := [(h_this, .inr (3, [.ref h_this_signs, .int v_this_first, .ref h_this_waiting, .int r28_this_waitingSize])), (h_this_signs, .inl (k_this_signs, 800, .inl (v_this_signs))), (h_this_waiting, .inl (k_this_waiting, 800, .inl (r28_this_waiting)))]) [1, 0, 2] (by decide) rfl
      generalize H1 = H at hP hS ⊢
      clear hk1 hz1
      refine lv_aload_n hx hb dX3_writeCell_155 rfl (lv_at hl 0 rfl) ?_
      refine lv_bipush (v := 7) hx hb dX3_writeCell_156 (by decide) ?_
      obtain ⟨⟨r30_this_waiting, r30_this_waitingSize⟩, gr30, h⟩ := Option.bind_eq_some_iff.mp h
      try dsimp only at h
      have hPc := hP.sub (ws' := W_X3_await h_this h_this_waiting k_this_waiting (.ref h_this_signs) (.int v_this_first) r28_this_waiting r28_this_waitingSize) [0, 2] rfl
      have hDc := hD.sub (ws' := W_X3_await h_this h_this_waiting k_this_waiting (.ref h_this_signs) (.int v_this_first) r28_this_waiting r28_this_waitingSize) [0, 2] (by decide) rfl
      have hKc := hK.sub (tys' := [(k_this_waiting, .int)]) [1] rfl
      have hFc := va_free (wc := W_X3_await h_this h_this_waiting k_this_waiting (.ref h_this_signs) (.int v_this_first) r28_this_waiting r28_this_waitingSize) hD hS hA [0, 2] rfl
      refine va_callv (va_runV (As := [.int 7]) (rest := []) ⟨hx, hb, hml, hown, hts⟩ (c_X3_await l dC dI h_this h_this_waiting k_this_waiting (.ref h_this_signs) (.int v_this_first) H.size r28_this_waiting r28_this_waitingSize 7 (r30_this_waiting, r30_this_waitingSize) gr30) (cwV 1 hts gX3_writeCell_X3_await rfl rfl rfl hd_X3_await ⟨Nat.le_of_ble_eq_true rfl, Nat.le_of_ble_eq_true rfl⟩) (preV hKc hPc hDc (va_recv hK hP (ci := 3) (q0 := 0) rfl rfl)) rfl rfl hl.1 rfl (lv_room (Nat.le_of_ble_eq_true rfl)) dX3_writeCell_158 ⟨Nat.zero_le _, Nat.zero_le _⟩) hS (fun q _ h => hFc q h) hFc (fun ur30 tr30 H1 locs htr30 hvmr30 hw hB hz1 hk1 hS => ?_)
      obtain rfl := hw.symm
      obtain ⟨hP1, hK1, hD1⟩ := hB
      rw [htr30] at hP1
      obtain ⟨hP, hD⟩ := va_join (wr := [(h_this_signs, .inl (k_this_signs, 800, .inl (v_this_signs)))]) (w1 := W_X3_await h_this h_this_waiting k_this_waiting (.ref h_this_signs) (.int v_this_first) r30_this_waiting r30_this_waitingSize) hP hD [0, 2] [1] rfl rfl (by decide) (by decide) hk1 hFc hP1 hD1
      have hP := hP.sub (ws' := [(h_this, .inr (3, [.ref h_this_signs, .int v_this_first, .ref h_this_waiting, .int r30_this_waitingSize])), (h_this_signs, .inl (k_this_signs, 800, .inl (v_this_signs))), (h_this_waiting, .inl (k_this_waiting, 800, .inl (r30_this_waiting)))]) [1, 0, 2] rfl
      have hD := hD.sub (ws' := [(h_this, .inr (3, [.ref h_this_signs, .int v_this_first, .ref h_this_waiting, .int r30_this_waitingSize])), (h_this_signs, .inl (k_this_signs, 800, .inl (v_this_signs))), (h_this_waiting, .inl (k_this_waiting, 800, .inl (r30_this_waiting)))]) [1, 0, 2] (by decide) rfl
      generalize H1 = H at hP hS ⊢
      clear hk1 hz1
      refine lv_goto (tgt := 175) hx hb dX3_writeCell_161 (by decide) ?_
      obtain rfl := Option.some.inj h
      exact W.vret hx hb hr (fun t ht hW => ⟨⟨(v_this_first, v_this_signs, r30_this_waiting, r30_this_waitingSize), rfl, rfl, by rw [ht]; exact hP, va_K.moved hW.alike hK, hD⟩, hS.F ht⟩) hS.2.2 dX3_writeCell_175
    have h := it_f h s27
    by_cases s32 : l1 = 11
    · have h := it_t h s32
      refine lv_tableIn (tgt := 104) hx hb dX3_writeCell_26 (by rw [s32]; decide) (by rw [s32]; decide) (by rw [s32]; rfl) (by decide) ?_
      refine lv_aload_n hx hb dX3_writeCell_104 rfl (lv_at hl 0 rfl) ?_
      refine lv_iload_n hx hb dX3_writeCell_105 rfl (lv_at hl 2 rfl) ?_
      obtain ⟨⟨r33_this_first, r33_this_signs⟩, gr33, h⟩ := Option.bind_eq_some_iff.mp h
      try dsimp only at h
      have hPc := hP.sub (ws' := W_X3_writeTemporary h_this h_this_signs k_this_signs (.ref h_this_waiting) (.int v_this_waitingSize) v_this_first v_this_signs) [0, 1] rfl
      have hDc := hD.sub (ws' := W_X3_writeTemporary h_this h_this_signs k_this_signs (.ref h_this_waiting) (.int v_this_waitingSize) v_this_first v_this_signs) [0, 1] (by decide) rfl
      have hKc := hK.sub (tys' := [(k_this_signs, .char)]) [0] rfl
      have hFc := va_free (wc := W_X3_writeTemporary h_this h_this_signs k_this_signs (.ref h_this_waiting) (.int v_this_waitingSize) v_this_first v_this_signs) hD hS hA [0, 1] rfl
      refine va_callv (va_runV (As := [.int l2]) (rest := []) ⟨hx, hb, hml, hown, hts⟩ (c_X3_writeTemporary l dC dI h_this h_this_signs k_this_signs (.ref h_this_waiting) (.int v_this_waitingSize) H.size v_this_first v_this_signs l2 (r33_this_first, r33_this_signs) gr33) (cwV 1 hts gX3_writeCell_X3_writeTemporary rfl rfl rfl hd_X3_writeTemporary ⟨Nat.le_of_ble_eq_true rfl, Nat.le_of_ble_eq_true rfl⟩) (preV hKc hPc hDc (va_recv hK hP (ci := 3) (q0 := 0) rfl rfl)) rfl rfl hl.1 rfl (lv_room (Nat.le_of_ble_eq_true rfl)) dX3_writeCell_106 ⟨Nat.zero_le _, Nat.zero_le _⟩) hS (fun q _ h => hFc q h) hFc (fun ur33 tr33 H1 locs htr33 hvmr33 hw hB hz1 hk1 hS => ?_)
      obtain rfl := hw.symm
      obtain ⟨hP1, hK1, hD1⟩ := hB
      rw [htr33] at hP1
      obtain ⟨hP, hD⟩ := va_join (wr := [(h_this_waiting, .inl (k_this_waiting, 800, .inl (v_this_waiting)))]) (w1 := W_X3_writeTemporary h_this h_this_signs k_this_signs (.ref h_this_waiting) (.int v_this_waitingSize) r33_this_first r33_this_signs) hP hD [0, 1] [2] rfl rfl (by decide) (by decide) hk1 hFc hP1 hD1
      have hP := hP.sub (ws' := [(h_this, .inr (3, [.ref h_this_signs, .int r33_this_first, .ref h_this_waiting, .int v_this_waitingSize])), (h_this_signs, .inl (k_this_signs, 800, .inl (r33_this_signs))), (h_this_waiting, .inl (k_this_waiting, 800, .inl (v_this_waiting)))]) [1, 2, 0] rfl
      have hD := hD.sub (ws' := [(h_this, .inr (3, [.ref h_this_signs, .int r33_this_first, .ref h_this_waiting, .int v_this_waitingSize])), (h_this_signs, .inl (k_this_signs, 800, .inl (r33_this_signs))), (h_this_waiting, .inl (k_this_waiting, 800, .inl (v_this_waiting)))]) [1, 2, 0] (by decide) rfl
      generalize H1 = H at hP hS ⊢
      clear hk1 hz1
      refine lv_goto (tgt := 175) hx hb dX3_writeCell_109 (by decide) ?_
      obtain rfl := Option.some.inj h
      exact W.vret hx hb hr (fun t ht hW => ⟨⟨(r33_this_first, r33_this_signs, v_this_waiting, v_this_waitingSize), rfl, rfl, by rw [ht]; exact hP, va_K.moved hW.alike hK, hD⟩, hS.F ht⟩) hS.2.2 dX3_writeCell_175
    have h := it_f h s32
    refine lv_tableD (tgt := 164) hx hb dX3_writeCell_26 (by decide) (fun h1 h2 => by have es8 := lv_neT (a := 0) s8 rfl; have es11 := lv_neT (a := 1) s11 rfl; have es14 := lv_neT (a := 4) s14 rfl; have es27 := lv_neT (a := 5) s27 rfl; have es32 := lv_neT (a := 11) s32 rfl; have e9 : (l1 : Int32).toInt = 2 ∨ (l1 : Int32).toInt = 3 ∨ (l1 : Int32).toInt = 6 ∨ (l1 : Int32).toInt = 7 ∨ (l1 : Int32).toInt = 8 ∨ (l1 : Int32).toInt = 9 ∨ (l1 : Int32).toInt = 10 := (by omega); rcases e9 with e9 | e9 | e9 | e9 | e9 | e9 | e9 <;> (rw [e9]; rfl)) ?_
    refine lv_aload_n hx hb dX3_writeCell_164 rfl (lv_at hl 0 rfl) ?_
    refine lv_bipush (v := 41) hx hb dX3_writeCell_165 (by decide) ?_
    obtain ⟨⟨r35_this_first, r35_this_signs⟩, gr35, h⟩ := Option.bind_eq_some_iff.mp h
    try dsimp only at h
    have hPc := hP.sub (ws' := W_X3_write h_this h_this_signs k_this_signs (.ref h_this_waiting) (.int v_this_waitingSize) v_this_first v_this_signs) [0, 1] rfl
    have hDc := hD.sub (ws' := W_X3_write h_this h_this_signs k_this_signs (.ref h_this_waiting) (.int v_this_waitingSize) v_this_first v_this_signs) [0, 1] (by decide) rfl
    have hKc := hK.sub (tys' := [(k_this_signs, .char)]) [0] rfl
    have hFc := va_free (wc := W_X3_write h_this h_this_signs k_this_signs (.ref h_this_waiting) (.int v_this_waitingSize) v_this_first v_this_signs) hD hS hA [0, 1] rfl
    refine va_callv (va_runV (As := [.int 41]) (rest := []) ⟨hx, hb, hml, hown, hts⟩ (c_X3_write l dC dI h_this h_this_signs k_this_signs (.ref h_this_waiting) (.int v_this_waitingSize) H.size v_this_first v_this_signs 41 (r35_this_first, r35_this_signs) gr35) (cwV 1 hts gX3_writeCell_X3_write rfl rfl rfl hd_X3_write ⟨Nat.le_of_ble_eq_true rfl, Nat.le_of_ble_eq_true rfl⟩) (preV hKc hPc hDc (va_recv hK hP (ci := 3) (q0 := 0) rfl rfl)) rfl rfl hl.1 rfl (lv_room (Nat.le_of_ble_eq_true rfl)) dX3_writeCell_167 ⟨Nat.zero_le _, Nat.zero_le _⟩) hS (fun q _ h => hFc q h) hFc (fun ur35 tr35 H1 locs htr35 hvmr35 hw hB hz1 hk1 hS => ?_)
    obtain rfl := hw.symm
    obtain ⟨hP1, hK1, hD1⟩ := hB
    rw [htr35] at hP1
    obtain ⟨hP, hD⟩ := va_join (wr := [(h_this_waiting, .inl (k_this_waiting, 800, .inl (v_this_waiting)))]) (w1 := W_X3_write h_this h_this_signs k_this_signs (.ref h_this_waiting) (.int v_this_waitingSize) r35_this_first r35_this_signs) hP hD [0, 1] [2] rfl rfl (by decide) (by decide) hk1 hFc hP1 hD1
    have hP := hP.sub (ws' := [(h_this, .inr (3, [.ref h_this_signs, .int r35_this_first, .ref h_this_waiting, .int v_this_waitingSize])), (h_this_signs, .inl (k_this_signs, 800, .inl (r35_this_signs))), (h_this_waiting, .inl (k_this_waiting, 800, .inl (v_this_waiting)))]) [1, 2, 0] rfl
    have hD := hD.sub (ws' := [(h_this, .inr (3, [.ref h_this_signs, .int r35_this_first, .ref h_this_waiting, .int v_this_waitingSize])), (h_this_signs, .inl (k_this_signs, 800, .inl (r35_this_signs))), (h_this_waiting, .inl (k_this_waiting, 800, .inl (v_this_waiting)))]) [1, 2, 0] (by decide) rfl
    generalize H1 = H at hP hS ⊢
    clear hk1 hz1
    refine lv_aload_n hx hb dX3_writeCell_170 rfl (lv_at hl 0 rfl) ?_
    refine lv_iload_n hx hb dX3_writeCell_171 rfl (lv_at hl 2 rfl) ?_
    obtain ⟨⟨r37_this_waiting, r37_this_waitingSize⟩, gr37, h⟩ := Option.bind_eq_some_iff.mp h
    try dsimp only at h
    have hPc := hP.sub (ws' := W_X3_awaitCall h_this h_this_waiting k_this_waiting (.ref h_this_signs) (.int r35_this_first) v_this_waiting v_this_waitingSize) [0, 2] rfl
    have hDc := hD.sub (ws' := W_X3_awaitCall h_this h_this_waiting k_this_waiting (.ref h_this_signs) (.int r35_this_first) v_this_waiting v_this_waitingSize) [0, 2] (by decide) rfl
    have hKc := hK.sub (tys' := [(k_this_waiting, .int)]) [1] rfl
    have hFc := va_free (wc := W_X3_awaitCall h_this h_this_waiting k_this_waiting (.ref h_this_signs) (.int r35_this_first) v_this_waiting v_this_waitingSize) hD hS hA [0, 2] rfl
    refine va_callv (va_runV (As := [.int l2]) (rest := []) ⟨hx, hb, hml, hown, hts⟩ (c_X3_awaitCall l dC dI h_this h_this_waiting k_this_waiting (.ref h_this_signs) (.int r35_this_first) H.size v_this_waiting v_this_waitingSize l2 (r37_this_waiting, r37_this_waitingSize) gr37) (cwV 1 hts gX3_writeCell_X3_awaitCall rfl rfl rfl hd_X3_awaitCall ⟨Nat.le_of_ble_eq_true rfl, Nat.le_of_ble_eq_true rfl⟩) (preV hKc hPc hDc (va_recv hK hP (ci := 3) (q0 := 0) rfl rfl)) rfl rfl hl.1 rfl (lv_room (Nat.le_of_ble_eq_true rfl)) dX3_writeCell_172 ⟨Nat.zero_le _, Nat.zero_le _⟩) hS (fun q _ h => hFc q h) hFc (fun ur37 tr37 H1 locs htr37 hvmr37 hw hB hz1 hk1 hS => ?_)
    obtain rfl := hw.symm
    obtain ⟨hP1, hK1, hD1⟩ := hB
    rw [htr37] at hP1
    obtain ⟨hP, hD⟩ := va_join (wr := [(h_this_signs, .inl (k_this_signs, 800, .inl (r35_this_signs)))]) (w1 := W_X3_awaitCall h_this h_this_waiting k_this_waiting (.ref h_this_signs) (.int r35_this_first) r37_this_waiting r37_this_waitingSize) hP hD [0, 2] [1] rfl rfl (by decide) (by decide) hk1 hFc hP1 hD1
    have hP := hP.sub (ws' := [(h_this, .inr (3, [.ref h_this_signs, .int r35_this_first, .ref h_this_waiting, .int r37_this_waitingSize])), (h_this_signs, .inl (k_this_signs, 800, .inl (r35_this_signs))), (h_this_waiting, .inl (k_this_waiting, 800, .inl (r37_this_waiting)))]) [1, 0, 2] rfl
    have hD := hD.sub (ws' := [(h_this, .inr (3, [.ref h_this_signs, .int r35_this_first, .ref h_this_waiting, .int r37_this_waitingSize])), (h_this_signs, .inl (k_this_signs, 800, .inl (r35_this_signs))), (h_this_waiting, .inl (k_this_waiting, 800, .inl (r37_this_waiting)))]) [1, 0, 2] (by decide) rfl
    generalize H1 = H at hP hS ⊢
    clear hk1 hz1
    obtain rfl := Option.some.inj h
    exact W.vret hx hb hr (fun t ht hW => ⟨⟨(r35_this_first, r35_this_signs, r37_this_waiting, r37_this_waitingSize), rfl, rfl, by rw [ht]; exact hP, va_K.moved hW.alike hK, hD⟩, hS.F ht⟩) hS.2.2 dX3_writeCell_175
  have hl := lv_entry ([.ref h_this, .int a_p1, .int a_p2, .int a_p3]) (n := 5) (Nat.le_of_ble_eq_true rfl)
  rw [lg_entry_eq]
  generalize (lg_sl ([.ref h_this, .int a_p1, .int a_p2, .int a_p3]) ++ List.replicate (5 - (lg_sl ([.ref h_this, .int a_p1, .int a_p2, .int a_p3])).length) Slot.unset).toArray = ls at hl ⊢
  have hl : lv_has ls 5 [(0, .ref h_this), (1, .int a_p1), (2, .int a_p2), (3, .int a_p3)] := hl
  have h := hd
  unfold f_X3_writeCell at h
  obtain ⟨H, hHe⟩ : ∃ H, H = s.heap := ⟨_, rfl⟩
  obtain ⟨locs, hLe⟩ : ∃ L : List Loc, L = [] := ⟨_, rfl⟩
  have hS : va_S A s.heap H locs := by rw [hHe, hLe]; exact hS
  have hP : va_P (dC, dI) vwCl [(h_this, .inr (3, [.ref h_this_signs, .int v_this_first, .ref h_this_waiting, .int v_this_waitingSize])), (h_this_signs, .inl (k_this_signs, 800, .inl (v_this_signs))), (h_this_waiting, .inl (k_this_waiting, 800, .inl (v_this_waiting)))] H := by rw [hHe]; exact hP
  rw [show W p l e (headSpec wsX3_writeCell ({ frames := 5, cells := 0, slots := 0, locals := 105 })).room s m [.ref h_this, .int a_p1, .int a_p2, .int a_p3].toArray below meth c s.heap [] 0 0 = W p l e (headSpec wsX3_writeCell ({ frames := 5, cells := 0, slots := 0, locals := 105 })).room s m [.ref h_this, .int a_p1, .int a_p2, .int a_p3].toArray below meth c H locs 0 0 by rw [hHe, hLe]]
  clear hHe hLe
  refine lv_iload_n hx hb dX3_writeCell_0 rfl (lv_at hl 1 rfl) ?_
  refine lv_iload_n hx hb dX3_writeCell_1 rfl (lv_at hl 2 rfl) ?_
  obtain ⟨⟨r1, ⟨⟩⟩, gr1, h⟩ := Option.bind_eq_some_iff.mp h
  try dsimp only at h
  have hPc := hP.sub (ws' := []) [] rfl
  have hDc := hD.sub (ws' := []) [] (by decide) rfl
  have hKc := hK.sub (tys' := []) [] rfl
  have hFc := va_free (wc := []) hD hS hA [] rfl
  refine va_calli (va_runS (As := [.int a_p1, .int a_p2]) (rest := []) ⟨hx, hb, hml, hown, hts⟩ (c_X3_rankOf l dC dI adK adV H.size a_p1 a_p2 (r1, ()) gr1) (va_cwS 2 hts gX3_writeCell_X3_rankOf rfl rfl rfl hdn_X3_rankOf ⟨Nat.le_of_ble_eq_true rfl, Nat.le_of_ble_eq_true rfl⟩) (preSE hKc hPc hDc (fun U hU hW => envp hE hS hFc hU hW)) rfl rfl hl.1 rfl (lv_room (Nat.le_of_ble_eq_true rfl)) dX3_writeCell_2 ⟨Nat.zero_le _, Nat.zero_le _⟩) hS (fun q _ h => hFc q h) hFc (fun ar1 ur1 tr1 H1 locs htr1 hvmr1 hw hB hz1 hk1 hS => ?_)
  obtain ⟨rfl, rfl⟩ := And.intro hw.1.symm hw.2.symm
  obtain ⟨hP1, hK1, hD1⟩ := hB
  rw [htr1] at hP1
  have hP : va_P (dC, dI) vwCl [(h_this, .inr (3, [.ref h_this_signs, .int v_this_first, .ref h_this_waiting, .int v_this_waitingSize])), (h_this_signs, .inl (k_this_signs, 800, .inl (v_this_signs))), (h_this_waiting, .inl (k_this_waiting, 800, .inl (v_this_waiting)))] H1 := keep0 hP hk1
  generalize H1 = H at hP hS ⊢
  clear hk1 hz1
  refine lv_istore (lv' := [(4, .int r1), (0, .ref h_this), (1, .int a_p1), (2, .int a_p2), (3, .int a_p3)]) hx hb dX3_writeCell_5 hl (by decide) rfl (fun ls hl => ?_)
  refine lv_iload hx hb dX3_writeCell_7 (lv_at hl 0 rfl) ?_
  refine lv_iload_n hx hb dX3_writeCell_9 rfl (lv_at hl 4 rfl) ?_
  refine lv_icmp_ge (tgt := 25) hx hb dX3_writeCell_10 (by decide) (fun c3 => ?_) (fun c3 => ?_)
  · have h := it_t h c3
    exact B25 v_this_first v_this_signs v_this_waiting v_this_waitingSize a_p1 a_p2 r1 H locs ls h hP hD hS (lv_sub hl [1, 2, 3, 0] rfl)
  · have h := it_f h c3
    refine lv_aload_n hx hb dX3_writeCell_13 rfl (lv_at hl 1 rfl) ?_
    refine lv_bipush (v := 41) hx hb dX3_writeCell_14 (by decide) ?_
    obtain ⟨⟨r4_this_first, r4_this_signs⟩, gr4, h⟩ := Option.bind_eq_some_iff.mp h
    try dsimp only at h
    have hPc := hP.sub (ws' := W_X3_write h_this h_this_signs k_this_signs (.ref h_this_waiting) (.int v_this_waitingSize) v_this_first v_this_signs) [0, 1] rfl
    have hDc := hD.sub (ws' := W_X3_write h_this h_this_signs k_this_signs (.ref h_this_waiting) (.int v_this_waitingSize) v_this_first v_this_signs) [0, 1] (by decide) rfl
    have hKc := hK.sub (tys' := [(k_this_signs, .char)]) [0] rfl
    have hFc := va_free (wc := W_X3_write h_this h_this_signs k_this_signs (.ref h_this_waiting) (.int v_this_waitingSize) v_this_first v_this_signs) hD hS hA [0, 1] rfl
    refine va_callv (va_runV (As := [.int 41]) (rest := []) ⟨hx, hb, hml, hown, hts⟩ (c_X3_write l dC dI h_this h_this_signs k_this_signs (.ref h_this_waiting) (.int v_this_waitingSize) H.size v_this_first v_this_signs 41 (r4_this_first, r4_this_signs) gr4) (cwV 1 hts gX3_writeCell_X3_write rfl rfl rfl hd_X3_write ⟨Nat.le_of_ble_eq_true rfl, Nat.le_of_ble_eq_true rfl⟩) (preV hKc hPc hDc (va_recv hK hP (ci := 3) (q0 := 0) rfl rfl)) rfl rfl hl.1 rfl (lv_room (Nat.le_of_ble_eq_true rfl)) dX3_writeCell_16 ⟨Nat.zero_le _, Nat.zero_le _⟩) hS (fun q _ h => hFc q h) hFc (fun ur4 tr4 H1 locs htr4 hvmr4 hw hB hz1 hk1 hS => ?_)
    obtain rfl := hw.symm
    obtain ⟨hP1, hK1, hD1⟩ := hB
    rw [htr4] at hP1
    obtain ⟨hP, hD⟩ := va_join (wr := [(h_this_waiting, .inl (k_this_waiting, 800, .inl (v_this_waiting)))]) (w1 := W_X3_write h_this h_this_signs k_this_signs (.ref h_this_waiting) (.int v_this_waitingSize) r4_this_first r4_this_signs) hP hD [0, 1] [2] rfl rfl (by decide) (by decide) hk1 hFc hP1 hD1
    have hP := hP.sub (ws' := [(h_this, .inr (3, [.ref h_this_signs, .int r4_this_first, .ref h_this_waiting, .int v_this_waitingSize])), (h_this_signs, .inl (k_this_signs, 800, .inl (r4_this_signs))), (h_this_waiting, .inl (k_this_waiting, 800, .inl (v_this_waiting)))]) [1, 2, 0] rfl
    have hD := hD.sub (ws' := [(h_this, .inr (3, [.ref h_this_signs, .int r4_this_first, .ref h_this_waiting, .int v_this_waitingSize])), (h_this_signs, .inl (k_this_signs, 800, .inl (r4_this_signs))), (h_this_waiting, .inl (k_this_waiting, 800, .inl (v_this_waiting)))]) [1, 2, 0] (by decide) rfl
    generalize H1 = H at hP hS ⊢
    clear hk1 hz1
    refine lv_aload_n hx hb dX3_writeCell_19 rfl (lv_at hl 1 rfl) ?_
    refine lv_bipush (v := 40) hx hb dX3_writeCell_20 (by decide) ?_
    obtain ⟨⟨r6_this_waiting, r6_this_waitingSize⟩, gr6, h⟩ := Option.bind_eq_some_iff.mp h
    try dsimp only at h
    have hPc := hP.sub (ws' := W_X3_await h_this h_this_waiting k_this_waiting (.ref h_this_signs) (.int r4_this_first) v_this_waiting v_this_waitingSize) [0, 2] rfl
    have hDc := hD.sub (ws' := W_X3_await h_this h_this_waiting k_this_waiting (.ref h_this_signs) (.int r4_this_first) v_this_waiting v_this_waitingSize) [0, 2] (by decide) rfl
    have hKc := hK.sub (tys' := [(k_this_waiting, .int)]) [1] rfl
    have hFc := va_free (wc := W_X3_await h_this h_this_waiting k_this_waiting (.ref h_this_signs) (.int r4_this_first) v_this_waiting v_this_waitingSize) hD hS hA [0, 2] rfl
    refine va_callv (va_runV (As := [.int 40]) (rest := []) ⟨hx, hb, hml, hown, hts⟩ (c_X3_await l dC dI h_this h_this_waiting k_this_waiting (.ref h_this_signs) (.int r4_this_first) H.size v_this_waiting v_this_waitingSize 40 (r6_this_waiting, r6_this_waitingSize) gr6) (cwV 1 hts gX3_writeCell_X3_await rfl rfl rfl hd_X3_await ⟨Nat.le_of_ble_eq_true rfl, Nat.le_of_ble_eq_true rfl⟩) (preV hKc hPc hDc (va_recv hK hP (ci := 3) (q0 := 0) rfl rfl)) rfl rfl hl.1 rfl (lv_room (Nat.le_of_ble_eq_true rfl)) dX3_writeCell_22 ⟨Nat.zero_le _, Nat.zero_le _⟩) hS (fun q _ h => hFc q h) hFc (fun ur6 tr6 H1 locs htr6 hvmr6 hw hB hz1 hk1 hS => ?_)
    obtain rfl := hw.symm
    obtain ⟨hP1, hK1, hD1⟩ := hB
    rw [htr6] at hP1
    obtain ⟨hP, hD⟩ := va_join (wr := [(h_this_signs, .inl (k_this_signs, 800, .inl (r4_this_signs)))]) (w1 := W_X3_await h_this h_this_waiting k_this_waiting (.ref h_this_signs) (.int r4_this_first) r6_this_waiting r6_this_waitingSize) hP hD [0, 2] [1] rfl rfl (by decide) (by decide) hk1 hFc hP1 hD1
    have hP := hP.sub (ws' := [(h_this, .inr (3, [.ref h_this_signs, .int r4_this_first, .ref h_this_waiting, .int r6_this_waitingSize])), (h_this_signs, .inl (k_this_signs, 800, .inl (r4_this_signs))), (h_this_waiting, .inl (k_this_waiting, 800, .inl (r6_this_waiting)))]) [1, 0, 2] rfl
    have hD := hD.sub (ws' := [(h_this, .inr (3, [.ref h_this_signs, .int r4_this_first, .ref h_this_waiting, .int r6_this_waitingSize])), (h_this_signs, .inl (k_this_signs, 800, .inl (r4_this_signs))), (h_this_waiting, .inl (k_this_waiting, 800, .inl (r6_this_waiting)))]) [1, 0, 2] (by decide) rfl
    generalize H1 = H at hP hS ⊢
    clear hk1 hz1
    exact B25 r4_this_first r4_this_signs r6_this_waiting r6_this_waitingSize a_p1 a_p2 r1 H locs ls h hP hD hS (lv_sub hl [1, 2, 3, 0] rfl)
abbrev W_X3_writeTerm (h_p1 h_p1_kinds h_p1_numbers h_this h_this_signs h_this_waiting : Nat) (k_p1_kinds k_p1_numbers k_this_signs k_this_waiting : ClassId) (v_p1_kinds : Nat → Int32) (v_p1_numbers : Nat → Int32) (v_p1_size : Int32) (v_this_first : Int32) (v_this_signs : Nat → Int32) (v_this_waiting : Nat → Int32) (v_this_waitingSize : Int32) : va_W := [(h_p1, .inr (0, [.ref h_p1_kinds, .ref h_p1_numbers, .int v_p1_size])), (h_p1_kinds, .inl (k_p1_kinds, 300, .inl (v_p1_kinds))), (h_p1_numbers, .inl (k_p1_numbers, 300, .inl (v_p1_numbers))), (h_this, .inr (3, [.ref h_this_signs, .int v_this_first, .ref h_this_waiting, .int v_this_waitingSize])), (h_this_signs, .inl (k_this_signs, 800, .inl (v_this_signs))), (h_this_waiting, .inl (k_this_waiting, 800, .inl (v_this_waiting)))]
def f_X3_writeTerm_B15 (n : Nat) (v_p1_kinds : Nat → Int32) (v_p1_numbers : Nat → Int32) (v_p1_size : Int32) (v_this_first : Int32) (v_this_signs : Nat → Int32) (v_this_waiting : Nat → Int32) (v_this_waitingSize : Int32) (l3 : Int32) (l4 : Int32) : Option (Int32 × (Nat → Int32) × (Nat → Int32) × Int32) := match n with
  | 0 => none
  | n + 1 => if 1600 ≤ l4 then some ((v_this_first, v_this_signs, v_this_waiting, v_this_waitingSize)) else if v_this_waitingSize ≤ 0 then some ((v_this_first, v_this_signs, v_this_waiting, v_this_waitingSize)) else ixd (v_this_waitingSize - 1) 800 (if (v_this_waiting (v_this_waitingSize - 1).toNatClampNeg) ≤ 7 then (f_X0_kindAt v_p1_kinds v_p1_size l3).bind fun q9 => (f_X0_numberAt v_p1_numbers v_p1_size l3).bind fun q11 => (f_X3_writeCell v_this_first v_this_signs v_this_waiting (v_this_waitingSize - 1) q9.1 q11.1 (v_this_waiting (v_this_waitingSize - 1).toNatClampNeg)).bind fun q13 => f_X3_writeTerm_B15 n v_p1_kinds v_p1_numbers v_p1_size q13.1 q13.2.1 q13.2.2.1 q13.2.2.2 (l3 + (-1)) (l4 + 1) else (f_X3_write v_this_first v_this_signs (((v_this_waiting (v_this_waitingSize - 1).toNatClampNeg).toUInt32 % 65536).toInt32)).bind fun q15 => f_X3_writeTerm_B15 n v_p1_kinds v_p1_numbers v_p1_size q15.1 q15.2 v_this_waiting (v_this_waitingSize - 1) l3 (l4 + 1))
def f_X3_writeTerm (v_p1_kinds : Nat → Int32) (v_p1_numbers : Nat → Int32) (v_p1_size : Int32) (v_this_first : Int32) (v_this_signs : Nat → Int32) (v_this_waiting : Nat → Int32) (v_this_waitingSize : Int32) (a_p2 : Int32) : Option (Int32 × (Nat → Int32) × (Nat → Int32) × Int32) := (f_X3_await v_this_waiting 0 0).bind fun q2 => f_X3_writeTerm_B15 FU v_p1_kinds v_p1_numbers v_p1_size v_this_first v_this_signs q2.1 q2.2 a_p2 0
theorem hdn_X3_writeTerm : yX3_writeTerm.cls ≠ "java/lang/invoke/MethodHandle" ∧ yX3_writeTerm.cls ≠ "java/lang/invoke/VarHandle" ∧ (parseMethodDescriptor yX3_writeTerm.desc).map (fun d => d.parameters.length) = some 2 := by decide +kernel
theorem hd_X3_writeTerm : yX3_writeTerm.cls = RX3 ∧ yX3_writeTerm.cls ≠ "java/lang/invoke/MethodHandle" ∧ yX3_writeTerm.cls ≠ "java/lang/invoke/VarHandle" ∧ (parseMethodDescriptor yX3_writeTerm.desc).map (fun d => d.parameters.length) = some 2 := ⟨rfl, hdn_X3_writeTerm⟩
set_option maxHeartbeats 4000000 in
set_option maxRecDepth 100000 in
theorem c_X3_writeTerm (l : Launch) (dC : Nat → ClassId) (dI : Nat → Nat → Nat) (adK adV : Nat → Nat) (h_p1 h_p1_kinds h_p1_numbers h_this h_this_signs h_this_waiting : Nat) (k_p1_kinds k_p1_numbers k_this_signs k_this_waiting : ClassId) (sz : Nat) (v_p1_kinds : Nat → Int32) (v_p1_numbers : Nat → Int32) (v_p1_size : Int32) (v_this_first : Int32) (v_this_signs : Nat → Int32) (v_this_waiting : Nat → Int32) (v_this_waitingSize : Int32) (a_p2 : Int32) (res : Int32 × (Nat → Int32) × (Nat → Int32) × Int32) (hd : f_X3_writeTerm v_p1_kinds v_p1_numbers v_p1_size v_this_first v_this_signs v_this_waiting v_this_waitingSize a_p2 = some res) : Met l yX3_writeTerm wsX3_writeTerm ({ frames := 6, cells := 0, slots := 0, locals := 129 }) (va_Pc [.ref h_this, .ref h_p1, .int a_p2] (fun U => mPre dC dI (W_X3_writeTerm h_p1 h_p1_kinds h_p1_numbers h_this h_this_signs h_this_waiting k_p1_kinds k_p1_numbers k_this_signs k_this_waiting v_p1_kinds v_p1_numbers v_p1_size v_this_first v_this_signs v_this_waiting v_this_waitingSize) [(k_p1_kinds, .int), (k_p1_numbers, .int), (k_this_signs, .char), (k_this_waiting, .int)] sz U ∧ env adK adV (va_A (W_X3_writeTerm h_p1 h_p1_kinds h_p1_numbers h_this h_this_signs h_this_waiting k_p1_kinds k_p1_numbers k_this_signs k_this_waiting v_p1_kinds v_p1_numbers v_p1_size v_this_first v_this_signs v_this_waiting v_this_waitingSize) sz) U U.heap)) (va_Qv (fun (u : Int32 × (Nat → Int32) × (Nat → Int32) × Int32) => u = res) (fun (u : Int32 × (Nat → Int32) × (Nat → Int32) × Int32) t => mPost dC dI (va_A (W_X3_writeTerm h_p1 h_p1_kinds h_p1_numbers h_this h_this_signs h_this_waiting k_p1_kinds k_p1_numbers k_this_signs k_this_waiting v_p1_kinds v_p1_numbers v_p1_size v_this_first v_this_signs v_this_waiting v_this_waitingSize) sz) (W_X3_writeTerm h_p1 h_p1_kinds h_p1_numbers h_this h_this_signs h_this_waiting k_p1_kinds k_p1_numbers k_this_signs k_this_waiting v_p1_kinds v_p1_numbers v_p1_size u.1 u.2.1 u.2.2.1 u.2.2.2) [(k_p1_kinds, .int), (k_p1_numbers, .int), (k_this_signs, .char), (k_this_waiting, .int)] t) (va_A (W_X3_writeTerm h_p1 h_p1_kinds h_p1_numbers h_this h_this_signs h_this_waiting k_p1_kinds k_p1_numbers k_this_signs k_this_waiting v_p1_kinds v_p1_numbers v_p1_size v_this_first v_this_signs v_this_waiting v_this_waitingSize) sz)) 0 0 (va_A (W_X3_writeTerm h_p1 h_p1_kinds h_p1_numbers h_this h_this_signs h_this_waiting k_p1_kinds k_p1_numbers k_this_signs k_this_waiting v_p1_kinds v_p1_numbers v_p1_size v_this_first v_this_signs v_this_waiting v_this_waitingSize) sz) := by
  refine Met.ofW (cc := cX3_writeTerm) (maxL := 6) (ret := none) (by decide) rfl ?_
  intro p e s m args below meth c s₁ B hml hv
  obtain ⟨rfl, ⟨hsz, hP, hK, hD0⟩, hE⟩ := hv
  have hx := B.exec
  have hb := B.bytes
  have hr := B.returns
  have hts := atoms_spec (ws := wsX3_writeTerm) B.pre
  have hown : s.vm.findClass RX3 = some m.cls := findClass_of_methodNamed B.named
  have hlocks := B.notSynchronized
  have w_1 := hts (.fieldLink RX3 23 "TermPile$Scribe" "waitingSize" "I") (by decide +kernel)
  have w_2 := hts (.fieldLink RX3 19 "TermPile$Scribe" "waiting" "[I") (by decide +kernel)
  have in_X3 : ∀ w ∈ wsX30, w ∈ wsX3_writeTerm := by decide +kernel
  subst hsz
  have hD := hD0.self (sz := s.heap.size)
  generalize hAe : va_A (W_X3_writeTerm h_p1 h_p1_kinds h_p1_numbers h_this h_this_signs h_this_waiting k_p1_kinds k_p1_numbers k_this_signs k_this_waiting v_p1_kinds v_p1_numbers v_p1_size v_this_first v_this_signs v_this_waiting v_this_waitingSize) s.heap.size = A at hD hE ⊢
  have hA : ∀ q : Nat, s.heap.size ≤ q → A q := fun q h => by rw [← hAe]; exact Or.inr h
  clear hAe hD0
  have hS : va_S A s.heap s.heap [] := va_S.rf
  have hP : va_P (dC, dI) vwCl [(h_p1, .inr (0, [.ref h_p1_kinds, .ref h_p1_numbers, .int v_p1_size])), (h_p1_kinds, .inl (k_p1_kinds, 300, .inl (v_p1_kinds))), (h_p1_numbers, .inl (k_p1_numbers, 300, .inl (v_p1_numbers))), (h_this, .inr (3, [.ref h_this_signs, .int v_this_first, .ref h_this_waiting, .int v_this_waitingSize])), (h_this_signs, .inl (k_this_signs, 800, .inl (v_this_signs))), (h_this_waiting, .inl (k_this_waiting, 800, .inl (v_this_waiting)))] s.heap := hP
  have hD : va_D A [(h_p1, .inr (0, [.ref h_p1_kinds, .ref h_p1_numbers, .int v_p1_size])), (h_p1_kinds, .inl (k_p1_kinds, 300, .inl (v_p1_kinds))), (h_p1_numbers, .inl (k_p1_numbers, 300, .inl (v_p1_numbers))), (h_this, .inr (3, [.ref h_this_signs, .int v_this_first, .ref h_this_waiting, .int v_this_waitingSize])), (h_this_signs, .inl (k_this_signs, 800, .inl (v_this_signs))), (h_this_waiting, .inl (k_this_waiting, 800, .inl (v_this_waiting)))] := hD
  have B15 : ∀ n : Nat, ∀ (v_p1_kinds : Nat → Int32) (v_p1_numbers : Nat → Int32) (v_p1_size : Int32) (v_this_first : Int32) (v_this_signs : Nat → Int32) (v_this_waiting : Nat → Int32) (v_this_waitingSize : Int32) (l3 : Int32) (l4 : Int32) (H : Heap) (locs : List Loc) (ls : Array Slot), f_X3_writeTerm_B15 n v_p1_kinds v_p1_numbers v_p1_size v_this_first v_this_signs v_this_waiting v_this_waitingSize l3 l4 = some res → va_P (dC, dI) vwCl [(h_p1, .inr (0, [.ref h_p1_kinds, .ref h_p1_numbers, .int v_p1_size])), (h_p1_kinds, .inl (k_p1_kinds, 300, .inl (v_p1_kinds))), (h_p1_numbers, .inl (k_p1_numbers, 300, .inl (v_p1_numbers))), (h_this, .inr (3, [.ref h_this_signs, .int v_this_first, .ref h_this_waiting, .int v_this_waitingSize])), (h_this_signs, .inl (k_this_signs, 800, .inl (v_this_signs))), (h_this_waiting, .inl (k_this_waiting, 800, .inl (v_this_waiting)))] H → va_D A [(h_p1, .inr (0, [.ref h_p1_kinds, .ref h_p1_numbers, .int v_p1_size])), (h_p1_kinds, .inl (k_p1_kinds, 300, .inl (v_p1_kinds))), (h_p1_numbers, .inl (k_p1_numbers, 300, .inl (v_p1_numbers))), (h_this, .inr (3, [.ref h_this_signs, .int v_this_first, .ref h_this_waiting, .int v_this_waitingSize])), (h_this_signs, .inl (k_this_signs, 800, .inl (v_this_signs))), (h_this_waiting, .inl (k_this_waiting, 800, .inl (v_this_waiting)))] → va_S A s.heap H locs → lv_has ls 6 [(0, .ref h_this), (1, .ref h_p1), (3, .int l3), (4, .int l4)] → W p l e (headSpec wsX3_writeTerm ({ frames := 6, cells := 0, slots := 0, locals := 129 })).room s m [.ref h_this, .ref h_p1, .int a_p2].toArray below meth c H locs 0 0 (MQ below (va_Qv (fun (u : Int32 × (Nat → Int32) × (Nat → Int32) × Int32) => u = res) (fun (u : Int32 × (Nat → Int32) × (Nat → Int32) × Int32) t => mPost dC dI A (W_X3_writeTerm h_p1 h_p1_kinds h_p1_numbers h_this h_this_signs h_this_waiting k_p1_kinds k_p1_numbers k_this_signs k_this_waiting v_p1_kinds v_p1_numbers v_p1_size u.1 u.2.1 u.2.2.1 u.2.2.2) [(k_p1_kinds, .int), (k_p1_numbers, .int), (k_this_signs, .char), (k_this_waiting, .int)] t) A) [.ref h_this, .ref h_p1, .int a_p2].toArray s 0 0 A) (F0 m 15 ls []) := by
    intro n
    clear hP hD hS hd
    induction n with
    | zero => intro v_p1_kinds v_p1_numbers v_p1_size v_this_first v_this_signs v_this_waiting v_this_waitingSize l3 l4 H locs ls h; exact absurd h (by rw [f_X3_writeTerm_B15]; exact fun z => nomatch z)
    | succ n ih15 =>
      intro v_p1_kinds v_p1_numbers v_p1_size v_this_first v_this_signs v_this_waiting v_this_waitingSize l3 l4 H locs ls h hP hD hS hl
      rw [f_X3_writeTerm_B15] at h
      refine lv_iload hx hb dX3_writeTerm_15 (lv_at hl 3 rfl) ?_
      refine lv_sipush (v := 1600) hx hb dX3_writeTerm_17 (by decide) ?_
      refine lv_icmp_ge (tgt := 93) hx hb dX3_writeTerm_20 (by decide) (fun c3 => ?_) (fun c3 => ?_)
      · have h := it_t h c3
        obtain rfl := Option.some.inj h
        exact W.vret hx hb hr (fun t ht hW => ⟨⟨(v_this_first, v_this_signs, v_this_waiting, v_this_waitingSize), rfl, rfl, by rw [ht]; exact hP, va_K.moved hW.alike hK, hD⟩, hS.F ht⟩) hS.2.2 dX3_writeTerm_93
      · have h := it_f h c3
        refine lv_aload_n hx hb dX3_writeTerm_23 rfl (lv_at hl 0 rfl) ?_
        refine va_get (D := (dC, dI)) (ci := 3) (v := .int v_this_waitingSize) (C := RX3) (T := TX3) (N := 4) hx hb hts in_X3 hown hK hP 3 rfl rfl 3 (by decide) w_1 (fun _ h9 => h9) rfl dX3_writeTerm_24 ?_
        refine lv_if_le (tgt := 93) hx hb dX3_writeTerm_27 (by decide) (fun c4 => ?_) (fun c4 => ?_)
        · have h := it_t h c4
          obtain rfl := Option.some.inj h
          exact W.vret hx hb hr (fun t ht hW => ⟨⟨(v_this_first, v_this_signs, v_this_waiting, v_this_waitingSize), rfl, rfl, by rw [ht]; exact hP, va_K.moved hW.alike hK, hD⟩, hS.F ht⟩) hS.2.2 dX3_writeTerm_93
        · have h := it_f h c4
          refine lv_aload_n hx hb dX3_writeTerm_30 rfl (lv_at hl 0 rfl) ?_
          refine lv_dup hx hb dX3_writeTerm_31 rfl ?_
          refine va_get (D := (dC, dI)) (ci := 3) (v := .int v_this_waitingSize) (C := RX3) (T := TX3) (N := 4) hx hb hts in_X3 hown hK hP 3 rfl rfl 3 (by decide) w_1 (fun _ h9 => h9) rfl dX3_writeTerm_32 ?_
          refine lv_iconst (v := 1) hx hb dX3_writeTerm_35 (by decide) ?_
          refine lv_isub hx hb dX3_writeTerm_36 ?_
          refine va_put (D := (dC, dI)) (ci := 3) (v := .int (v_this_waitingSize - 1)) (ty := .int) (C := RX3) (T := TX3) (N := 4) hx hb hts in_X3 tyX3 tyX3_ok nmX3 hown hK hP hD hS 3 rfl rfl 3 (by decide) w_1 (fun _ h9 => h9) rfl (by decide +kernel) rfl rfl (Nat.le_of_ble_eq_true rfl) dX3_writeTerm_37 (fun H locs hP hD hS => ?_)
          have hP : va_P (dC, dI) vwCl [(h_p1, .inr (0, [.ref h_p1_kinds, .ref h_p1_numbers, .int v_p1_size])), (h_p1_kinds, .inl (k_p1_kinds, 300, .inl (v_p1_kinds))), (h_p1_numbers, .inl (k_p1_numbers, 300, .inl (v_p1_numbers))), (h_this, .inr (3, [.ref h_this_signs, .int v_this_first, .ref h_this_waiting, .int (v_this_waitingSize - 1)])), (h_this_signs, .inl (k_this_signs, 800, .inl (v_this_signs))), (h_this_waiting, .inl (k_this_waiting, 800, .inl (v_this_waiting)))] H := hP
          have hD : va_D A [(h_p1, .inr (0, [.ref h_p1_kinds, .ref h_p1_numbers, .int v_p1_size])), (h_p1_kinds, .inl (k_p1_kinds, 300, .inl (v_p1_kinds))), (h_p1_numbers, .inl (k_p1_numbers, 300, .inl (v_p1_numbers))), (h_this, .inr (3, [.ref h_this_signs, .int v_this_first, .ref h_this_waiting, .int (v_this_waitingSize - 1)])), (h_this_signs, .inl (k_this_signs, 800, .inl (v_this_signs))), (h_this_waiting, .inl (k_this_waiting, 800, .inl (v_this_waiting)))] := hD
          refine lv_aload_n hx hb dX3_writeTerm_40 rfl (lv_at hl 0 rfl) ?_
          refine va_get (D := (dC, dI)) (ci := 3) (v := .ref h_this_waiting) (C := RX3) (T := TX3) (N := 4) hx hb hts in_X3 hown hK hP 3 rfl rfl 2 (by decide) w_2 (fun _ h9 => h9) rfl dX3_writeTerm_41 ?_
          refine lv_aload_n hx hb dX3_writeTerm_44 rfl (lv_at hl 0 rfl) ?_
          refine va_get (D := (dC, dI)) (ci := 3) (v := .int (v_this_waitingSize - 1)) (C := RX3) (T := TX3) (N := 4) hx hb hts in_X3 hown hK hP 3 rfl rfl 3 (by decide) w_1 (fun _ h9 => h9) rfl dX3_writeTerm_45 ?_
          obtain ⟨i5, h⟩ := ixd_ok h
          refine va_iald hx hb hK hP 5 3 rfl rfl i5 dX3_writeTerm_48 ?_
          refine lv_topi (fun y6 ey6 => ?_)
          subst ey6
          refine lv_istore (lv' := [(5, .int (v_this_waiting (v_this_waitingSize - 1).toNatClampNeg)), (0, .ref h_this), (1, .ref h_p1), (3, .int l3), (4, .int l4)]) hx hb dX3_writeTerm_49 hl (by decide) rfl (fun ls hl => ?_)
          refine lv_iload hx hb dX3_writeTerm_51 (lv_at hl 0 rfl) ?_
          refine lv_bipush (v := 7) hx hb dX3_writeTerm_53 (by decide) ?_
          refine lv_icmp_le (tgt := 68) hx hb dX3_writeTerm_55 (by decide) (fun c7 => ?_) (fun c7 => ?_)
          · have h := it_t h c7
            refine lv_aload_n hx hb dX3_writeTerm_68 rfl (lv_at hl 1 rfl) ?_
            refine lv_aload_n hx hb dX3_writeTerm_69 rfl (lv_at hl 2 rfl) ?_
            refine lv_iload_n hx hb dX3_writeTerm_70 rfl (lv_at hl 3 rfl) ?_
            obtain ⟨⟨r8, ⟨⟩⟩, gr8, h⟩ := Option.bind_eq_some_iff.mp h
            try dsimp only at h
            have hPc := hP.sub (ws' := W_X0_kindAt h_p1 h_p1_kinds k_p1_kinds (.ref h_p1_numbers) v_p1_kinds v_p1_size) [0, 1] rfl
            have hDc := hD.sub (ws' := W_X0_kindAt h_p1 h_p1_kinds k_p1_kinds (.ref h_p1_numbers) v_p1_kinds v_p1_size) [0, 1] (by decide) rfl
            have hKc := hK.sub (tys' := [(k_p1_kinds, .int)]) [0] rfl
            have hFc := va_free (wc := W_X0_kindAt h_p1 h_p1_kinds k_p1_kinds (.ref h_p1_numbers) v_p1_kinds v_p1_size) hD hS hA [0, 1] rfl
            refine va_calli (va_runV (As := [.int l3]) (rest := [.ref h_this]) ⟨hx, hb, hml, hown, hts⟩ (c_X0_kindAt l dC dI h_p1 h_p1_kinds k_p1_kinds (.ref h_p1_numbers) H.size v_p1_kinds v_p1_size l3 (r8, ()) gr8) (cwV 1 hts gX3_writeTerm_X0_kindAt rfl rfl rfl hd_X0_kindAt ⟨Nat.le_of_ble_eq_true rfl, Nat.le_of_ble_eq_true rfl⟩) (preV hKc hPc hDc (va_recv hK hP (ci := 0) (q0 := 0) rfl rfl)) rfl rfl hl.1 rfl (lv_room (Nat.le_of_ble_eq_true rfl)) dX3_writeTerm_71 ⟨Nat.zero_le _, Nat.zero_le _⟩) hS (fun q _ h => hFc q h) hFc (fun ar8 ur8 tr8 H1 locs htr8 hvmr8 hw hB hz1 hk1 hS => ?_)
            obtain ⟨rfl, rfl⟩ := And.intro hw.1.symm hw.2.symm
            obtain ⟨hP1, hK1, hD1⟩ := hB
            rw [htr8] at hP1
            obtain ⟨hP, hD⟩ := va_join (wr := [(h_p1_numbers, .inl (k_p1_numbers, 300, .inl (v_p1_numbers))), (h_this, .inr (3, [.ref h_this_signs, .int v_this_first, .ref h_this_waiting, .int (v_this_waitingSize - 1)])), (h_this_signs, .inl (k_this_signs, 800, .inl (v_this_signs))), (h_this_waiting, .inl (k_this_waiting, 800, .inl (v_this_waiting)))]) (w1 := W_X0_kindAt h_p1 h_p1_kinds k_p1_kinds (.ref h_p1_numbers) v_p1_kinds v_p1_size) hP hD [0, 1] [2, 3, 4, 5] rfl rfl (by decide) (by decide) hk1 hFc hP1 hD1
            have hP := hP.sub (ws' := [(h_p1, .inr (0, [.ref h_p1_kinds, .ref h_p1_numbers, .int v_p1_size])), (h_p1_kinds, .inl (k_p1_kinds, 300, .inl (v_p1_kinds))), (h_p1_numbers, .inl (k_p1_numbers, 300, .inl (v_p1_numbers))), (h_this, .inr (3, [.ref h_this_signs, .int v_this_first, .ref h_this_waiting, .int (v_this_waitingSize - 1)])), (h_this_signs, .inl (k_this_signs, 800, .inl (v_this_signs))), (h_this_waiting, .inl (k_this_waiting, 800, .inl (v_this_waiting)))]) [4, 5, 0, 1, 2, 3] rfl
            have hD := hD.sub (ws' := [(h_p1, .inr (0, [.ref h_p1_kinds, .ref h_p1_numbers, .int v_p1_size])), (h_p1_kinds, .inl (k_p1_kinds, 300, .inl (v_p1_kinds))), (h_p1_numbers, .inl (k_p1_numbers, 300, .inl (v_p1_numbers))), (h_this, .inr (3, [.ref h_this_signs, .int v_this_first, .ref h_this_waiting, .int (v_this_waitingSize - 1)])), (h_this_signs, .inl (k_this_signs, 800, .inl (v_this_signs))), (h_this_waiting, .inl (k_this_waiting, 800, .inl (v_this_waiting)))]) [4, 5, 0, 1, 2, 3] (by decide) rfl
            generalize H1 = H at hP hS ⊢
            clear hk1 hz1
            refine lv_aload_n hx hb dX3_writeTerm_74 rfl (lv_at hl 2 rfl) ?_
            refine lv_iload_n hx hb dX3_writeTerm_75 rfl (lv_at hl 3 rfl) ?_
            obtain ⟨⟨r10, ⟨⟩⟩, gr10, h⟩ := Option.bind_eq_some_iff.mp h
            try dsimp only at h
            have hPc := hP.sub (ws' := W_X0_numberAt h_p1 h_p1_numbers k_p1_numbers (.ref h_p1_kinds) v_p1_numbers v_p1_size) [0, 2] rfl
            have hDc := hD.sub (ws' := W_X0_numberAt h_p1 h_p1_numbers k_p1_numbers (.ref h_p1_kinds) v_p1_numbers v_p1_size) [0, 2] (by decide) rfl
            have hKc := hK.sub (tys' := [(k_p1_numbers, .int)]) [1] rfl
            have hFc := va_free (wc := W_X0_numberAt h_p1 h_p1_numbers k_p1_numbers (.ref h_p1_kinds) v_p1_numbers v_p1_size) hD hS hA [0, 2] rfl
            refine va_calli (va_runV (As := [.int l3]) (rest := [.int r8, .ref h_this]) ⟨hx, hb, hml, hown, hts⟩ (c_X0_numberAt l dC dI h_p1 h_p1_numbers k_p1_numbers (.ref h_p1_kinds) H.size v_p1_numbers v_p1_size l3 (r10, ()) gr10) (cwV 1 hts gX3_writeTerm_X0_numberAt rfl rfl rfl hd_X0_numberAt ⟨Nat.le_of_ble_eq_true rfl, Nat.le_of_ble_eq_true rfl⟩) (preV hKc hPc hDc (va_recv hK hP (ci := 0) (q0 := 0) rfl rfl)) rfl rfl hl.1 rfl (lv_room (Nat.le_of_ble_eq_true rfl)) dX3_writeTerm_76 ⟨Nat.zero_le _, Nat.zero_le _⟩) hS (fun q _ h => hFc q h) hFc (fun ar10 ur10 tr10 H1 locs htr10 hvmr10 hw hB hz1 hk1 hS => ?_)
            obtain ⟨rfl, rfl⟩ := And.intro hw.1.symm hw.2.symm
            obtain ⟨hP1, hK1, hD1⟩ := hB
            rw [htr10] at hP1
            obtain ⟨hP, hD⟩ := va_join (wr := [(h_p1_kinds, .inl (k_p1_kinds, 300, .inl (v_p1_kinds))), (h_this, .inr (3, [.ref h_this_signs, .int v_this_first, .ref h_this_waiting, .int (v_this_waitingSize - 1)])), (h_this_signs, .inl (k_this_signs, 800, .inl (v_this_signs))), (h_this_waiting, .inl (k_this_waiting, 800, .inl (v_this_waiting)))]) (w1 := W_X0_numberAt h_p1 h_p1_numbers k_p1_numbers (.ref h_p1_kinds) v_p1_numbers v_p1_size) hP hD [0, 2] [1, 3, 4, 5] rfl rfl (by decide) (by decide) hk1 hFc hP1 hD1
            have hP := hP.sub (ws' := [(h_p1, .inr (0, [.ref h_p1_kinds, .ref h_p1_numbers, .int v_p1_size])), (h_p1_kinds, .inl (k_p1_kinds, 300, .inl (v_p1_kinds))), (h_p1_numbers, .inl (k_p1_numbers, 300, .inl (v_p1_numbers))), (h_this, .inr (3, [.ref h_this_signs, .int v_this_first, .ref h_this_waiting, .int (v_this_waitingSize - 1)])), (h_this_signs, .inl (k_this_signs, 800, .inl (v_this_signs))), (h_this_waiting, .inl (k_this_waiting, 800, .inl (v_this_waiting)))]) [4, 0, 5, 1, 2, 3] rfl
            have hD := hD.sub (ws' := [(h_p1, .inr (0, [.ref h_p1_kinds, .ref h_p1_numbers, .int v_p1_size])), (h_p1_kinds, .inl (k_p1_kinds, 300, .inl (v_p1_kinds))), (h_p1_numbers, .inl (k_p1_numbers, 300, .inl (v_p1_numbers))), (h_this, .inr (3, [.ref h_this_signs, .int v_this_first, .ref h_this_waiting, .int (v_this_waitingSize - 1)])), (h_this_signs, .inl (k_this_signs, 800, .inl (v_this_signs))), (h_this_waiting, .inl (k_this_waiting, 800, .inl (v_this_waiting)))]) [4, 0, 5, 1, 2, 3] (by decide) rfl
            generalize H1 = H at hP hS ⊢
            clear hk1 hz1
            refine lv_iload hx hb dX3_writeTerm_79 (lv_at hl 0 rfl) ?_
            obtain ⟨⟨r12_this_first, r12_this_signs, r12_this_waiting, r12_this_waitingSize⟩, gr12, h⟩ := Option.bind_eq_some_iff.mp h
            try dsimp only at h
            have hPc := hP.sub (ws' := W_X3_writeCell h_this h_this_signs h_this_waiting k_this_signs k_this_waiting v_this_first v_this_signs v_this_waiting (v_this_waitingSize - 1)) [3, 4, 5] rfl
            have hDc := hD.sub (ws' := W_X3_writeCell h_this h_this_signs h_this_waiting k_this_signs k_this_waiting v_this_first v_this_signs v_this_waiting (v_this_waitingSize - 1)) [3, 4, 5] (by decide) rfl
            have hKc := hK.sub (tys' := [(k_this_signs, .char), (k_this_waiting, .int)]) [2, 3] rfl
            have hFc := va_free (wc := W_X3_writeCell h_this h_this_signs h_this_waiting k_this_signs k_this_waiting v_this_first v_this_signs v_this_waiting (v_this_waitingSize - 1)) hD hS hA [3, 4, 5] rfl
            refine va_callv (va_runV (As := [.int r8, .int r10, .int (v_this_waiting (v_this_waitingSize - 1).toNatClampNeg)]) (rest := []) ⟨hx, hb, hml, hown, hts⟩ (c_X3_writeCell l dC dI adK adV h_this h_this_signs h_this_waiting k_this_signs k_this_waiting H.size v_this_first v_this_signs v_this_waiting (v_this_waitingSize - 1) r8 r10 (v_this_waiting (v_this_waitingSize - 1).toNatClampNeg) (r12_this_first, r12_this_signs, r12_this_waiting, r12_this_waitingSize) gr12) (cwV 3 hts gX3_writeTerm_X3_writeCell rfl rfl rfl hd_X3_writeCell ⟨Nat.le_of_ble_eq_true rfl, Nat.le_of_ble_eq_true rfl⟩) (preVE hKc hPc hDc (va_recv hK hP (ci := 3) (q0 := 3) rfl rfl) (fun U hU hW => envp hE hS hFc hU hW)) rfl rfl hl.1 rfl (lv_room (Nat.le_of_ble_eq_true rfl)) dX3_writeTerm_81 ⟨Nat.zero_le _, Nat.zero_le _⟩) hS (fun q _ h => hFc q h) hFc (fun ur12 tr12 H1 locs htr12 hvmr12 hw hB hz1 hk1 hS => ?_)
            obtain rfl := hw.symm
            obtain ⟨hP1, hK1, hD1⟩ := hB
            rw [htr12] at hP1
            obtain ⟨hP, hD⟩ := va_join (wr := [(h_p1, .inr (0, [.ref h_p1_kinds, .ref h_p1_numbers, .int v_p1_size])), (h_p1_kinds, .inl (k_p1_kinds, 300, .inl (v_p1_kinds))), (h_p1_numbers, .inl (k_p1_numbers, 300, .inl (v_p1_numbers)))]) (w1 := W_X3_writeCell h_this h_this_signs h_this_waiting k_this_signs k_this_waiting r12_this_first r12_this_signs r12_this_waiting r12_this_waitingSize) hP hD [3, 4, 5] [0, 1, 2] rfl rfl (by decide) (by decide) hk1 hFc hP1 hD1
            have hP := hP.sub (ws' := [(h_p1, .inr (0, [.ref h_p1_kinds, .ref h_p1_numbers, .int v_p1_size])), (h_p1_kinds, .inl (k_p1_kinds, 300, .inl (v_p1_kinds))), (h_p1_numbers, .inl (k_p1_numbers, 300, .inl (v_p1_numbers))), (h_this, .inr (3, [.ref h_this_signs, .int r12_this_first, .ref h_this_waiting, .int r12_this_waitingSize])), (h_this_signs, .inl (k_this_signs, 800, .inl (r12_this_signs))), (h_this_waiting, .inl (k_this_waiting, 800, .inl (r12_this_waiting)))]) [0, 1, 2, 3, 4, 5] rfl
            have hD := hD.sub (ws' := [(h_p1, .inr (0, [.ref h_p1_kinds, .ref h_p1_numbers, .int v_p1_size])), (h_p1_kinds, .inl (k_p1_kinds, 300, .inl (v_p1_kinds))), (h_p1_numbers, .inl (k_p1_numbers, 300, .inl (v_p1_numbers))), (h_this, .inr (3, [.ref h_this_signs, .int r12_this_first, .ref h_this_waiting, .int r12_this_waitingSize])), (h_this_signs, .inl (k_this_signs, 800, .inl (r12_this_signs))), (h_this_waiting, .inl (k_this_waiting, 800, .inl (r12_this_waiting)))]) [0, 1, 2, 3, 4, 5] (by decide) rfl
            generalize H1 = H at hP hS ⊢
            clear hk1 hz1
            refine lv_iinc (v := l3 + (-1)) (lv' := [(3, .int (l3 + (-1))), (5, .int (v_this_waiting (v_this_waitingSize - 1).toNatClampNeg)), (0, .ref h_this), (1, .ref h_p1), (4, .int l4)]) hx hb dX3_writeTerm_84 hl (k := 3) rfl rfl (by decide) rfl (fun ls hl => ?_)
            refine lv_iinc (v := l4 + 1) (lv' := [(4, .int (l4 + 1)), (3, .int (l3 + (-1))), (5, .int (v_this_waiting (v_this_waitingSize - 1).toNatClampNeg)), (0, .ref h_this), (1, .ref h_p1)]) hx hb dX3_writeTerm_87 hl (k := 4) rfl rfl (by decide) rfl (fun ls hl => ?_)
            refine lv_goto (tgt := 15) hx hb dX3_writeTerm_90 (by decide) ?_
            exact ih15 v_p1_kinds v_p1_numbers v_p1_size r12_this_first r12_this_signs r12_this_waiting r12_this_waitingSize (l3 + (-1)) (l4 + 1) H locs ls h hP hD hS (lv_sub hl [3, 4, 1, 0] rfl)
          · have h := it_f h c7
            refine lv_aload_n hx hb dX3_writeTerm_58 rfl (lv_at hl 1 rfl) ?_
            refine lv_iload hx hb dX3_writeTerm_59 (lv_at hl 0 rfl) ?_
            refine lv_i2c hx hb dX3_writeTerm_61 rfl ?_
            obtain ⟨⟨r14_this_first, r14_this_signs⟩, gr14, h⟩ := Option.bind_eq_some_iff.mp h
            try dsimp only at h
            have hPc := hP.sub (ws' := W_X3_write h_this h_this_signs k_this_signs (.ref h_this_waiting) (.int (v_this_waitingSize - 1)) v_this_first v_this_signs) [3, 4] rfl
            have hDc := hD.sub (ws' := W_X3_write h_this h_this_signs k_this_signs (.ref h_this_waiting) (.int (v_this_waitingSize - 1)) v_this_first v_this_signs) [3, 4] (by decide) rfl
            have hKc := hK.sub (tys' := [(k_this_signs, .char)]) [2] rfl
            have hFc := va_free (wc := W_X3_write h_this h_this_signs k_this_signs (.ref h_this_waiting) (.int (v_this_waitingSize - 1)) v_this_first v_this_signs) hD hS hA [3, 4] rfl
            refine va_callv (va_runV (As := [.int (((v_this_waiting (v_this_waitingSize - 1).toNatClampNeg).toUInt32 % 65536).toInt32)]) (rest := []) ⟨hx, hb, hml, hown, hts⟩ (c_X3_write l dC dI h_this h_this_signs k_this_signs (.ref h_this_waiting) (.int (v_this_waitingSize - 1)) H.size v_this_first v_this_signs (((v_this_waiting (v_this_waitingSize - 1).toNatClampNeg).toUInt32 % 65536).toInt32) (r14_this_first, r14_this_signs) gr14) (cwV 1 hts gX3_writeTerm_X3_write rfl rfl rfl hd_X3_write ⟨Nat.le_of_ble_eq_true rfl, Nat.le_of_ble_eq_true rfl⟩) (preV hKc hPc hDc (va_recv hK hP (ci := 3) (q0 := 3) rfl rfl)) rfl rfl hl.1 rfl (lv_room (Nat.le_of_ble_eq_true rfl)) dX3_writeTerm_62 ⟨Nat.zero_le _, Nat.zero_le _⟩) hS (fun q _ h => hFc q h) hFc (fun ur14 tr14 H1 locs htr14 hvmr14 hw hB hz1 hk1 hS => ?_)
            obtain rfl := hw.symm
            obtain ⟨hP1, hK1, hD1⟩ := hB
            rw [htr14] at hP1
            obtain ⟨hP, hD⟩ := va_join (wr := [(h_p1, .inr (0, [.ref h_p1_kinds, .ref h_p1_numbers, .int v_p1_size])), (h_p1_kinds, .inl (k_p1_kinds, 300, .inl (v_p1_kinds))), (h_p1_numbers, .inl (k_p1_numbers, 300, .inl (v_p1_numbers))), (h_this_waiting, .inl (k_this_waiting, 800, .inl (v_this_waiting)))]) (w1 := W_X3_write h_this h_this_signs k_this_signs (.ref h_this_waiting) (.int (v_this_waitingSize - 1)) r14_this_first r14_this_signs) hP hD [3, 4] [0, 1, 2, 5] rfl rfl (by decide) (by decide) hk1 hFc hP1 hD1
            have hP := hP.sub (ws' := [(h_p1, .inr (0, [.ref h_p1_kinds, .ref h_p1_numbers, .int v_p1_size])), (h_p1_kinds, .inl (k_p1_kinds, 300, .inl (v_p1_kinds))), (h_p1_numbers, .inl (k_p1_numbers, 300, .inl (v_p1_numbers))), (h_this, .inr (3, [.ref h_this_signs, .int r14_this_first, .ref h_this_waiting, .int (v_this_waitingSize - 1)])), (h_this_signs, .inl (k_this_signs, 800, .inl (r14_this_signs))), (h_this_waiting, .inl (k_this_waiting, 800, .inl (v_this_waiting)))]) [0, 1, 2, 4, 5, 3] rfl
            have hD := hD.sub (ws' := [(h_p1, .inr (0, [.ref h_p1_kinds, .ref h_p1_numbers, .int v_p1_size])), (h_p1_kinds, .inl (k_p1_kinds, 300, .inl (v_p1_kinds))), (h_p1_numbers, .inl (k_p1_numbers, 300, .inl (v_p1_numbers))), (h_this, .inr (3, [.ref h_this_signs, .int r14_this_first, .ref h_this_waiting, .int (v_this_waitingSize - 1)])), (h_this_signs, .inl (k_this_signs, 800, .inl (r14_this_signs))), (h_this_waiting, .inl (k_this_waiting, 800, .inl (v_this_waiting)))]) [0, 1, 2, 4, 5, 3] (by decide) rfl
            generalize H1 = H at hP hS ⊢
            clear hk1 hz1
            refine lv_goto (tgt := 87) hx hb dX3_writeTerm_65 (by decide) ?_
            refine lv_iinc (v := l4 + 1) (lv' := [(4, .int (l4 + 1)), (5, .int (v_this_waiting (v_this_waitingSize - 1).toNatClampNeg)), (0, .ref h_this), (1, .ref h_p1), (3, .int l3)]) hx hb dX3_writeTerm_87 hl (k := 4) rfl rfl (by decide) rfl (fun ls hl => ?_)
            refine lv_goto (tgt := 15) hx hb dX3_writeTerm_90 (by decide) ?_
            exact ih15 v_p1_kinds v_p1_numbers v_p1_size r14_this_first r14_this_signs v_this_waiting (v_this_waitingSize - 1) l3 (l4 + 1) H locs ls h hP hD hS (lv_sub hl [2, 3, 4, 0] rfl)
  have hl := lv_entry ([.ref h_this, .ref h_p1, .int a_p2]) (n := 6) (Nat.le_of_ble_eq_true rfl)
  rw [lg_entry_eq]
  generalize (lg_sl ([.ref h_this, .ref h_p1, .int a_p2]) ++ List.replicate (6 - (lg_sl ([.ref h_this, .ref h_p1, .int a_p2])).length) Slot.unset).toArray = ls at hl ⊢
  have hl : lv_has ls 6 [(0, .ref h_this), (1, .ref h_p1), (2, .int a_p2)] := hl
  have h := hd
  unfold f_X3_writeTerm at h
  obtain ⟨H, hHe⟩ : ∃ H, H = s.heap := ⟨_, rfl⟩
  obtain ⟨locs, hLe⟩ : ∃ L : List Loc, L = [] := ⟨_, rfl⟩
  have hS : va_S A s.heap H locs := by rw [hHe, hLe]; exact hS
  have hP : va_P (dC, dI) vwCl [(h_p1, .inr (0, [.ref h_p1_kinds, .ref h_p1_numbers, .int v_p1_size])), (h_p1_kinds, .inl (k_p1_kinds, 300, .inl (v_p1_kinds))), (h_p1_numbers, .inl (k_p1_numbers, 300, .inl (v_p1_numbers))), (h_this, .inr (3, [.ref h_this_signs, .int v_this_first, .ref h_this_waiting, .int v_this_waitingSize])), (h_this_signs, .inl (k_this_signs, 800, .inl (v_this_signs))), (h_this_waiting, .inl (k_this_waiting, 800, .inl (v_this_waiting)))] H := by rw [hHe]; exact hP
  rw [show W p l e (headSpec wsX3_writeTerm ({ frames := 6, cells := 0, slots := 0, locals := 129 })).room s m [.ref h_this, .ref h_p1, .int a_p2].toArray below meth c s.heap [] 0 0 = W p l e (headSpec wsX3_writeTerm ({ frames := 6, cells := 0, slots := 0, locals := 129 })).room s m [.ref h_this, .ref h_p1, .int a_p2].toArray below meth c H locs 0 0 by rw [hHe, hLe]]
  clear hHe hLe
  refine lv_iload_n hx hb dX3_writeTerm_0 rfl (lv_at hl 2 rfl) ?_
  refine lv_istore_n (lv' := [(3, .int a_p2), (0, .ref h_this), (1, .ref h_p1), (2, .int a_p2)]) hx hb dX3_writeTerm_1 rfl hl (by decide) rfl (fun ls hl => ?_)
  refine lv_aload_n hx hb dX3_writeTerm_2 rfl (lv_at hl 1 rfl) ?_
  refine lv_iconst (v := 0) hx hb dX3_writeTerm_3 (by decide) ?_
  refine va_put (D := (dC, dI)) (ci := 3) (v := .int 0) (ty := .int) (C := RX3) (T := TX3) (N := 4) hx hb hts in_X3 tyX3 tyX3_ok nmX3 hown hK hP hD hS 3 rfl rfl 3 (by decide) w_1 (fun _ h9 => h9) rfl (by decide +kernel) rfl rfl (Nat.le_of_ble_eq_true rfl) dX3_writeTerm_4 (fun H locs hP hD hS => ?_)
  have hP : va_P (dC, dI) vwCl [(h_p1, .inr (0, [.ref h_p1_kinds, .ref h_p1_numbers, .int v_p1_size])), (h_p1_kinds, .inl (k_p1_kinds, 300, .inl (v_p1_kinds))), (h_p1_numbers, .inl (k_p1_numbers, 300, .inl (v_p1_numbers))), (h_this, .inr (3, [.ref h_this_signs, .int v_this_first, .ref h_this_waiting, .int 0])), (h_this_signs, .inl (k_this_signs, 800, .inl (v_this_signs))), (h_this_waiting, .inl (k_this_waiting, 800, .inl (v_this_waiting)))] H := hP
  have hD : va_D A [(h_p1, .inr (0, [.ref h_p1_kinds, .ref h_p1_numbers, .int v_p1_size])), (h_p1_kinds, .inl (k_p1_kinds, 300, .inl (v_p1_kinds))), (h_p1_numbers, .inl (k_p1_numbers, 300, .inl (v_p1_numbers))), (h_this, .inr (3, [.ref h_this_signs, .int v_this_first, .ref h_this_waiting, .int 0])), (h_this_signs, .inl (k_this_signs, 800, .inl (v_this_signs))), (h_this_waiting, .inl (k_this_waiting, 800, .inl (v_this_waiting)))] := hD
  refine lv_aload_n hx hb dX3_writeTerm_7 rfl (lv_at hl 1 rfl) ?_
  refine lv_iconst (v := 0) hx hb dX3_writeTerm_8 (by decide) ?_
  obtain ⟨⟨r1_this_waiting, r1_this_waitingSize⟩, gr1, h⟩ := Option.bind_eq_some_iff.mp h
  try dsimp only at h
  have hPc := hP.sub (ws' := W_X3_await h_this h_this_waiting k_this_waiting (.ref h_this_signs) (.int v_this_first) v_this_waiting 0) [3, 5] rfl
  have hDc := hD.sub (ws' := W_X3_await h_this h_this_waiting k_this_waiting (.ref h_this_signs) (.int v_this_first) v_this_waiting 0) [3, 5] (by decide) rfl
  have hKc := hK.sub (tys' := [(k_this_waiting, .int)]) [3] rfl
  have hFc := va_free (wc := W_X3_await h_this h_this_waiting k_this_waiting (.ref h_this_signs) (.int v_this_first) v_this_waiting 0) hD hS hA [3, 5] rfl
  refine va_callv (va_runV (As := [.int 0]) (rest := []) ⟨hx, hb, hml, hown, hts⟩ (c_X3_await l dC dI h_this h_this_waiting k_this_waiting (.ref h_this_signs) (.int v_this_first) H.size v_this_waiting 0 0 (r1_this_waiting, r1_this_waitingSize) gr1) (cwV 1 hts gX3_writeTerm_X3_await rfl rfl rfl hd_X3_await ⟨Nat.le_of_ble_eq_true rfl, Nat.le_of_ble_eq_true rfl⟩) (preV hKc hPc hDc (va_recv hK hP (ci := 3) (q0 := 3) rfl rfl)) rfl rfl hl.1 rfl (lv_room (Nat.le_of_ble_eq_true rfl)) dX3_writeTerm_9 ⟨Nat.zero_le _, Nat.zero_le _⟩) hS (fun q _ h => hFc q h) hFc (fun ur1 tr1 H1 locs htr1 hvmr1 hw hB hz1 hk1 hS => ?_)
  obtain rfl := hw.symm
  obtain ⟨hP1, hK1, hD1⟩ := hB
  rw [htr1] at hP1
  obtain ⟨hP, hD⟩ := va_join (wr := [(h_p1, .inr (0, [.ref h_p1_kinds, .ref h_p1_numbers, .int v_p1_size])), (h_p1_kinds, .inl (k_p1_kinds, 300, .inl (v_p1_kinds))), (h_p1_numbers, .inl (k_p1_numbers, 300, .inl (v_p1_numbers))), (h_this_signs, .inl (k_this_signs, 800, .inl (v_this_signs)))]) (w1 := W_X3_await h_this h_this_waiting k_this_waiting (.ref h_this_signs) (.int v_this_first) r1_this_waiting r1_this_waitingSize) hP hD [3, 5] [0, 1, 2, 4] rfl rfl (by decide) (by decide) hk1 hFc hP1 hD1
  have hP := hP.sub (ws' := [(h_p1, .inr (0, [.ref h_p1_kinds, .ref h_p1_numbers, .int v_p1_size])), (h_p1_kinds, .inl (k_p1_kinds, 300, .inl (v_p1_kinds))), (h_p1_numbers, .inl (k_p1_numbers, 300, .inl (v_p1_numbers))), (h_this, .inr (3, [.ref h_this_signs, .int v_this_first, .ref h_this_waiting, .int r1_this_waitingSize])), (h_this_signs, .inl (k_this_signs, 800, .inl (v_this_signs))), (h_this_waiting, .inl (k_this_waiting, 800, .inl (r1_this_waiting)))]) [0, 1, 2, 4, 3, 5] rfl
  have hD := hD.sub (ws' := [(h_p1, .inr (0, [.ref h_p1_kinds, .ref h_p1_numbers, .int v_p1_size])), (h_p1_kinds, .inl (k_p1_kinds, 300, .inl (v_p1_kinds))), (h_p1_numbers, .inl (k_p1_numbers, 300, .inl (v_p1_numbers))), (h_this, .inr (3, [.ref h_this_signs, .int v_this_first, .ref h_this_waiting, .int r1_this_waitingSize])), (h_this_signs, .inl (k_this_signs, 800, .inl (v_this_signs))), (h_this_waiting, .inl (k_this_waiting, 800, .inl (r1_this_waiting)))]) [0, 1, 2, 4, 3, 5] (by decide) rfl
  generalize H1 = H at hP hS ⊢
  clear hk1 hz1
  refine lv_iconst (v := 0) hx hb dX3_writeTerm_12 (by decide) ?_
  refine lv_istore (lv' := [(4, .int 0), (3, .int a_p2), (0, .ref h_this), (1, .ref h_p1), (2, .int a_p2)]) hx hb dX3_writeTerm_13 hl (by decide) rfl (fun ls hl => ?_)
  exact B15 FU v_p1_kinds v_p1_numbers v_p1_size v_this_first v_this_signs r1_this_waiting r1_this_waitingSize a_p2 0 H locs ls h hP hD hS (lv_sub hl [2, 3, 1, 0] rfl)
abbrev W_X3_writeOnlyTerm (h_p1 h_p1_kinds h_p1_numbers h_this h_this_signs h_this_waiting : Nat) (k_p1_kinds k_p1_numbers k_this_signs k_this_waiting : ClassId) (v_p1_kinds : Nat → Int32) (v_p1_numbers : Nat → Int32) (v_p1_size : Int32) (v_this_first : Int32) (v_this_signs : Nat → Int32) (v_this_waiting : Nat → Int32) (v_this_waitingSize : Int32) : va_W := [(h_p1, .inr (0, [.ref h_p1_kinds, .ref h_p1_numbers, .int v_p1_size])), (h_p1_kinds, .inl (k_p1_kinds, 300, .inl (v_p1_kinds))), (h_p1_numbers, .inl (k_p1_numbers, 300, .inl (v_p1_numbers))), (h_this, .inr (3, [.ref h_this_signs, .int v_this_first, .ref h_this_waiting, .int v_this_waitingSize])), (h_this_signs, .inl (k_this_signs, 800, .inl (v_this_signs))), (h_this_waiting, .inl (k_this_waiting, 800, .inl (v_this_waiting)))]
def f_X3_writeOnlyTerm (v_p1_kinds : Nat → Int32) (v_p1_numbers : Nat → Int32) (v_p1_size : Int32) (v_this_first : Int32) (v_this_signs : Nat → Int32) (v_this_waiting : Nat → Int32) (v_this_waitingSize : Int32) (a_p2 : Int32) : Option (Int32 × (Nat → Int32) × (Nat → Int32) × Int32) := (f_X3_writeTerm v_p1_kinds v_p1_numbers v_p1_size 800 v_this_signs v_this_waiting v_this_waitingSize a_p2).bind fun q2 => some ((q2.1, q2.2.1, q2.2.2.1, q2.2.2.2))
theorem hdn_X3_writeOnlyTerm : yX3_writeOnlyTerm.cls ≠ "java/lang/invoke/MethodHandle" ∧ yX3_writeOnlyTerm.cls ≠ "java/lang/invoke/VarHandle" ∧ (parseMethodDescriptor yX3_writeOnlyTerm.desc).map (fun d => d.parameters.length) = some 2 := by decide +kernel
theorem hd_X3_writeOnlyTerm : yX3_writeOnlyTerm.cls = RX3 ∧ yX3_writeOnlyTerm.cls ≠ "java/lang/invoke/MethodHandle" ∧ yX3_writeOnlyTerm.cls ≠ "java/lang/invoke/VarHandle" ∧ (parseMethodDescriptor yX3_writeOnlyTerm.desc).map (fun d => d.parameters.length) = some 2 := ⟨rfl, hdn_X3_writeOnlyTerm⟩
set_option maxHeartbeats 4000000 in
set_option maxRecDepth 100000 in
theorem c_X3_writeOnlyTerm (l : Launch) (dC : Nat → ClassId) (dI : Nat → Nat → Nat) (adK adV : Nat → Nat) (h_p1 h_p1_kinds h_p1_numbers h_this h_this_signs h_this_waiting : Nat) (k_p1_kinds k_p1_numbers k_this_signs k_this_waiting : ClassId) (sz : Nat) (v_p1_kinds : Nat → Int32) (v_p1_numbers : Nat → Int32) (v_p1_size : Int32) (v_this_first : Int32) (v_this_signs : Nat → Int32) (v_this_waiting : Nat → Int32) (v_this_waitingSize : Int32) (a_p2 : Int32) (res : Int32 × (Nat → Int32) × (Nat → Int32) × Int32) (hd : f_X3_writeOnlyTerm v_p1_kinds v_p1_numbers v_p1_size v_this_first v_this_signs v_this_waiting v_this_waitingSize a_p2 = some res) : Met l yX3_writeOnlyTerm wsX3_writeOnlyTerm ({ frames := 7, cells := 0, slots := 0, locals := 154 }) (va_Pc [.ref h_this, .ref h_p1, .int a_p2] (fun U => mPre dC dI (W_X3_writeOnlyTerm h_p1 h_p1_kinds h_p1_numbers h_this h_this_signs h_this_waiting k_p1_kinds k_p1_numbers k_this_signs k_this_waiting v_p1_kinds v_p1_numbers v_p1_size v_this_first v_this_signs v_this_waiting v_this_waitingSize) [(k_p1_kinds, .int), (k_p1_numbers, .int), (k_this_signs, .char), (k_this_waiting, .int)] sz U ∧ env adK adV (va_A (W_X3_writeOnlyTerm h_p1 h_p1_kinds h_p1_numbers h_this h_this_signs h_this_waiting k_p1_kinds k_p1_numbers k_this_signs k_this_waiting v_p1_kinds v_p1_numbers v_p1_size v_this_first v_this_signs v_this_waiting v_this_waitingSize) sz) U U.heap)) (va_Qv (fun (u : Int32 × (Nat → Int32) × (Nat → Int32) × Int32) => u = res) (fun (u : Int32 × (Nat → Int32) × (Nat → Int32) × Int32) t => mPost dC dI (va_A (W_X3_writeOnlyTerm h_p1 h_p1_kinds h_p1_numbers h_this h_this_signs h_this_waiting k_p1_kinds k_p1_numbers k_this_signs k_this_waiting v_p1_kinds v_p1_numbers v_p1_size v_this_first v_this_signs v_this_waiting v_this_waitingSize) sz) (W_X3_writeOnlyTerm h_p1 h_p1_kinds h_p1_numbers h_this h_this_signs h_this_waiting k_p1_kinds k_p1_numbers k_this_signs k_this_waiting v_p1_kinds v_p1_numbers v_p1_size u.1 u.2.1 u.2.2.1 u.2.2.2) [(k_p1_kinds, .int), (k_p1_numbers, .int), (k_this_signs, .char), (k_this_waiting, .int)] t) (va_A (W_X3_writeOnlyTerm h_p1 h_p1_kinds h_p1_numbers h_this h_this_signs h_this_waiting k_p1_kinds k_p1_numbers k_this_signs k_this_waiting v_p1_kinds v_p1_numbers v_p1_size v_this_first v_this_signs v_this_waiting v_this_waitingSize) sz)) 0 0 (va_A (W_X3_writeOnlyTerm h_p1 h_p1_kinds h_p1_numbers h_this h_this_signs h_this_waiting k_p1_kinds k_p1_numbers k_this_signs k_this_waiting v_p1_kinds v_p1_numbers v_p1_size v_this_first v_this_signs v_this_waiting v_this_waitingSize) sz) := by
  refine Met.ofW (cc := cX3_writeOnlyTerm) (maxL := 3) (ret := none) (by decide) rfl ?_
  intro p e s m args below meth c s₁ B hml hv
  obtain ⟨rfl, ⟨hsz, hP, hK, hD0⟩, hE⟩ := hv
  have hx := B.exec
  have hb := B.bytes
  have hr := B.returns
  have hts := atoms_spec (ws := wsX3_writeOnlyTerm) B.pre
  have hown : s.vm.findClass RX3 = some m.cls := findClass_of_methodNamed B.named
  have hlocks := B.notSynchronized
  have w_1 := hts (.fieldLink RX3 15 "TermPile$Scribe" "first" "I") (by decide +kernel)
  have in_X3 : ∀ w ∈ wsX30, w ∈ wsX3_writeOnlyTerm := by decide +kernel
  subst hsz
  have hD := hD0.self (sz := s.heap.size)
  generalize hAe : va_A (W_X3_writeOnlyTerm h_p1 h_p1_kinds h_p1_numbers h_this h_this_signs h_this_waiting k_p1_kinds k_p1_numbers k_this_signs k_this_waiting v_p1_kinds v_p1_numbers v_p1_size v_this_first v_this_signs v_this_waiting v_this_waitingSize) s.heap.size = A at hD hE ⊢
  have hA : ∀ q : Nat, s.heap.size ≤ q → A q := fun q h => by rw [← hAe]; exact Or.inr h
  clear hAe hD0
  have hS : va_S A s.heap s.heap [] := va_S.rf
  have hP : va_P (dC, dI) vwCl [(h_p1, .inr (0, [.ref h_p1_kinds, .ref h_p1_numbers, .int v_p1_size])), (h_p1_kinds, .inl (k_p1_kinds, 300, .inl (v_p1_kinds))), (h_p1_numbers, .inl (k_p1_numbers, 300, .inl (v_p1_numbers))), (h_this, .inr (3, [.ref h_this_signs, .int v_this_first, .ref h_this_waiting, .int v_this_waitingSize])), (h_this_signs, .inl (k_this_signs, 800, .inl (v_this_signs))), (h_this_waiting, .inl (k_this_waiting, 800, .inl (v_this_waiting)))] s.heap := hP
  have hD : va_D A [(h_p1, .inr (0, [.ref h_p1_kinds, .ref h_p1_numbers, .int v_p1_size])), (h_p1_kinds, .inl (k_p1_kinds, 300, .inl (v_p1_kinds))), (h_p1_numbers, .inl (k_p1_numbers, 300, .inl (v_p1_numbers))), (h_this, .inr (3, [.ref h_this_signs, .int v_this_first, .ref h_this_waiting, .int v_this_waitingSize])), (h_this_signs, .inl (k_this_signs, 800, .inl (v_this_signs))), (h_this_waiting, .inl (k_this_waiting, 800, .inl (v_this_waiting)))] := hD
  have hl := lv_entry ([.ref h_this, .ref h_p1, .int a_p2]) (n := 3) (Nat.le_of_ble_eq_true rfl)
  rw [lg_entry_eq]
  generalize (lg_sl ([.ref h_this, .ref h_p1, .int a_p2]) ++ List.replicate (3 - (lg_sl ([.ref h_this, .ref h_p1, .int a_p2])).length) Slot.unset).toArray = ls at hl ⊢
  have hl : lv_has ls 3 [(0, .ref h_this), (1, .ref h_p1), (2, .int a_p2)] := hl
  have h := hd
  unfold f_X3_writeOnlyTerm at h
  obtain ⟨H, hHe⟩ : ∃ H, H = s.heap := ⟨_, rfl⟩
  obtain ⟨locs, hLe⟩ : ∃ L : List Loc, L = [] := ⟨_, rfl⟩
  have hS : va_S A s.heap H locs := by rw [hHe, hLe]; exact hS
  have hP : va_P (dC, dI) vwCl [(h_p1, .inr (0, [.ref h_p1_kinds, .ref h_p1_numbers, .int v_p1_size])), (h_p1_kinds, .inl (k_p1_kinds, 300, .inl (v_p1_kinds))), (h_p1_numbers, .inl (k_p1_numbers, 300, .inl (v_p1_numbers))), (h_this, .inr (3, [.ref h_this_signs, .int v_this_first, .ref h_this_waiting, .int v_this_waitingSize])), (h_this_signs, .inl (k_this_signs, 800, .inl (v_this_signs))), (h_this_waiting, .inl (k_this_waiting, 800, .inl (v_this_waiting)))] H := by rw [hHe]; exact hP
  rw [show W p l e (headSpec wsX3_writeOnlyTerm ({ frames := 7, cells := 0, slots := 0, locals := 154 })).room s m [.ref h_this, .ref h_p1, .int a_p2].toArray below meth c s.heap [] 0 0 = W p l e (headSpec wsX3_writeOnlyTerm ({ frames := 7, cells := 0, slots := 0, locals := 154 })).room s m [.ref h_this, .ref h_p1, .int a_p2].toArray below meth c H locs 0 0 by rw [hHe, hLe]]
  clear hHe hLe
  refine lv_aload_n hx hb dX3_writeOnlyTerm_0 rfl (lv_at hl 0 rfl) ?_
  refine lv_sipush (v := 800) hx hb dX3_writeOnlyTerm_1 (by decide) ?_
  refine va_put (D := (dC, dI)) (ci := 3) (v := .int 800) (ty := .int) (C := RX3) (T := TX3) (N := 4) hx hb hts in_X3 tyX3 tyX3_ok nmX3 hown hK hP hD hS 3 rfl rfl 1 (by decide) w_1 (fun _ h9 => h9) rfl (by decide +kernel) rfl rfl (Nat.le_of_ble_eq_true rfl) dX3_writeOnlyTerm_4 (fun H locs hP hD hS => ?_)
  have hP : va_P (dC, dI) vwCl [(h_p1, .inr (0, [.ref h_p1_kinds, .ref h_p1_numbers, .int v_p1_size])), (h_p1_kinds, .inl (k_p1_kinds, 300, .inl (v_p1_kinds))), (h_p1_numbers, .inl (k_p1_numbers, 300, .inl (v_p1_numbers))), (h_this, .inr (3, [.ref h_this_signs, .int 800, .ref h_this_waiting, .int v_this_waitingSize])), (h_this_signs, .inl (k_this_signs, 800, .inl (v_this_signs))), (h_this_waiting, .inl (k_this_waiting, 800, .inl (v_this_waiting)))] H := hP
  have hD : va_D A [(h_p1, .inr (0, [.ref h_p1_kinds, .ref h_p1_numbers, .int v_p1_size])), (h_p1_kinds, .inl (k_p1_kinds, 300, .inl (v_p1_kinds))), (h_p1_numbers, .inl (k_p1_numbers, 300, .inl (v_p1_numbers))), (h_this, .inr (3, [.ref h_this_signs, .int 800, .ref h_this_waiting, .int v_this_waitingSize])), (h_this_signs, .inl (k_this_signs, 800, .inl (v_this_signs))), (h_this_waiting, .inl (k_this_waiting, 800, .inl (v_this_waiting)))] := hD
  refine lv_aload_n hx hb dX3_writeOnlyTerm_7 rfl (lv_at hl 0 rfl) ?_
  refine lv_aload_n hx hb dX3_writeOnlyTerm_8 rfl (lv_at hl 1 rfl) ?_
  refine lv_iload_n hx hb dX3_writeOnlyTerm_9 rfl (lv_at hl 2 rfl) ?_
  obtain ⟨⟨r1_this_first, r1_this_signs, r1_this_waiting, r1_this_waitingSize⟩, gr1, h⟩ := Option.bind_eq_some_iff.mp h
  try dsimp only at h
  have hPc := hP.sub (ws' := W_X3_writeTerm h_p1 h_p1_kinds h_p1_numbers h_this h_this_signs h_this_waiting k_p1_kinds k_p1_numbers k_this_signs k_this_waiting v_p1_kinds v_p1_numbers v_p1_size 800 v_this_signs v_this_waiting v_this_waitingSize) [0, 1, 2, 3, 4, 5] rfl
  have hDc := hD.sub (ws' := W_X3_writeTerm h_p1 h_p1_kinds h_p1_numbers h_this h_this_signs h_this_waiting k_p1_kinds k_p1_numbers k_this_signs k_this_waiting v_p1_kinds v_p1_numbers v_p1_size 800 v_this_signs v_this_waiting v_this_waitingSize) [0, 1, 2, 3, 4, 5] (by decide) rfl
  have hKc := hK.sub (tys' := [(k_p1_kinds, .int), (k_p1_numbers, .int), (k_this_signs, .char), (k_this_waiting, .int)]) [0, 1, 2, 3] rfl
  have hFc := va_free (wc := W_X3_writeTerm h_p1 h_p1_kinds h_p1_numbers h_this h_this_signs h_this_waiting k_p1_kinds k_p1_numbers k_this_signs k_this_waiting v_p1_kinds v_p1_numbers v_p1_size 800 v_this_signs v_this_waiting v_this_waitingSize) hD hS hA [0, 1, 2, 3, 4, 5] rfl
  refine va_callv (va_runV (As := [.ref h_p1, .int a_p2]) (rest := []) ⟨hx, hb, hml, hown, hts⟩ (c_X3_writeTerm l dC dI adK adV h_p1 h_p1_kinds h_p1_numbers h_this h_this_signs h_this_waiting k_p1_kinds k_p1_numbers k_this_signs k_this_waiting H.size v_p1_kinds v_p1_numbers v_p1_size 800 v_this_signs v_this_waiting v_this_waitingSize a_p2 (r1_this_first, r1_this_signs, r1_this_waiting, r1_this_waitingSize) gr1) (cwV 2 hts gX3_writeOnlyTerm_X3_writeTerm rfl rfl rfl hd_X3_writeTerm ⟨Nat.le_of_ble_eq_true rfl, Nat.le_of_ble_eq_true rfl⟩) (preVE hKc hPc hDc (va_recv hK hP (ci := 3) (q0 := 3) rfl rfl) (fun U hU hW => envp hE hS hFc hU hW)) rfl rfl hl.1 rfl (lv_room (Nat.le_of_ble_eq_true rfl)) dX3_writeOnlyTerm_10 ⟨Nat.zero_le _, Nat.zero_le _⟩) hS (fun q _ h => hFc q h) hFc (fun ur1 tr1 H1 locs htr1 hvmr1 hw hB hz1 hk1 hS => ?_)
  obtain rfl := hw.symm
  obtain ⟨hP1, hK1, hD1⟩ := hB
  rw [htr1] at hP1
  obtain ⟨hP, hD⟩ := va_join (wr := []) (w1 := W_X3_writeTerm h_p1 h_p1_kinds h_p1_numbers h_this h_this_signs h_this_waiting k_p1_kinds k_p1_numbers k_this_signs k_this_waiting v_p1_kinds v_p1_numbers v_p1_size r1_this_first r1_this_signs r1_this_waiting r1_this_waitingSize) hP hD [0, 1, 2, 3, 4, 5] [] rfl rfl (by decide) (by decide) hk1 hFc hP1 hD1
  have hP := hP.sub (ws' := [(h_p1, .inr (0, [.ref h_p1_kinds, .ref h_p1_numbers, .int v_p1_size])), (h_p1_kinds, .inl (k_p1_kinds, 300, .inl (v_p1_kinds))), (h_p1_numbers, .inl (k_p1_numbers, 300, .inl (v_p1_numbers))), (h_this, .inr (3, [.ref h_this_signs, .int r1_this_first, .ref h_this_waiting, .int r1_this_waitingSize])), (h_this_signs, .inl (k_this_signs, 800, .inl (r1_this_signs))), (h_this_waiting, .inl (k_this_waiting, 800, .inl (r1_this_waiting)))]) [0, 1, 2, 3, 4, 5] rfl
  have hD := hD.sub (ws' := [(h_p1, .inr (0, [.ref h_p1_kinds, .ref h_p1_numbers, .int v_p1_size])), (h_p1_kinds, .inl (k_p1_kinds, 300, .inl (v_p1_kinds))), (h_p1_numbers, .inl (k_p1_numbers, 300, .inl (v_p1_numbers))), (h_this, .inr (3, [.ref h_this_signs, .int r1_this_first, .ref h_this_waiting, .int r1_this_waitingSize])), (h_this_signs, .inl (k_this_signs, 800, .inl (r1_this_signs))), (h_this_waiting, .inl (k_this_waiting, 800, .inl (r1_this_waiting)))]) [0, 1, 2, 3, 4, 5] (by decide) rfl
  generalize H1 = H at hP hS ⊢
  clear hk1 hz1
  obtain rfl := Option.some.inj h
  exact W.vret hx hb hr (fun t ht hW => ⟨⟨(r1_this_first, r1_this_signs, r1_this_waiting, r1_this_waitingSize), rfl, rfl, by rw [ht]; exact hP, va_K.moved hW.alike hK, hD⟩, hS.F ht⟩) hS.2.2 dX3_writeOnlyTerm_13
abbrev W_X3_writeLine (h_p1 h_p1_kinds h_p1_numbers h_this h_this_signs h_this_waiting : Nat) (k_p1_kinds k_p1_numbers k_this_signs k_this_waiting : ClassId) (v_p1_kinds : Nat → Int32) (v_p1_numbers : Nat → Int32) (v_p1_size : Int32) (v_this_first : Int32) (v_this_signs : Nat → Int32) (v_this_waiting : Nat → Int32) (v_this_waitingSize : Int32) : va_W := [(h_p1, .inr (0, [.ref h_p1_kinds, .ref h_p1_numbers, .int v_p1_size])), (h_p1_kinds, .inl (k_p1_kinds, 300, .inl (v_p1_kinds))), (h_p1_numbers, .inl (k_p1_numbers, 300, .inl (v_p1_numbers))), (h_this, .inr (3, [.ref h_this_signs, .int v_this_first, .ref h_this_waiting, .int v_this_waitingSize])), (h_this_signs, .inl (k_this_signs, 800, .inl (v_this_signs))), (h_this_waiting, .inl (k_this_waiting, 800, .inl (v_this_waiting)))]
def f_X3_writeLine (v_p1_kinds : Nat → Int32) (v_p1_numbers : Nat → Int32) (v_p1_size : Int32) (v_this_first : Int32) (v_this_signs : Nat → Int32) (v_this_waiting : Nat → Int32) (v_this_waitingSize : Int32) (a_p2 : Int32) : Option (Int32 × (Nat → Int32) × (Nat → Int32) × Int32) := (f_X0_kindAt v_p1_kinds v_p1_size a_p2).bind fun q2 => (f_X0_numberAt v_p1_numbers v_p1_size a_p2).bind fun q4 => (f_X3_write 800 v_this_signs 59).bind fun q6 => if q2.1 = 2 then (f_X3_writeTerm v_p1_kinds v_p1_numbers v_p1_size q6.1 q6.2 v_this_waiting v_this_waitingSize (a_p2 - 1)).bind fun q9 => (f_X3_writeText q9.1 q9.2.1 1).bind fun q11 => (f_X3_writeVariable q11.1 q11.2 q4.1).bind fun q13 => some ((q13.1, q13.2, q9.2.2.1, q9.2.2.2)) else if q2.1 = 3 then (f_X5_growthIn q4.1).bind fun q16 => (f_X3_writeNumber q6.1 q6.2 q16.1).bind fun q18 => (f_X3_writeText q18.1 q18.2 2).bind fun q20 => (f_X5_grownVariableIn q4.1).bind fun q22 => (f_X3_writeVariable q20.1 q20.2 q22.1).bind fun q24 => some ((q24.1, q24.2, v_this_waiting, v_this_waitingSize)) else if q2.1 = 6 then (f_X3_writeTerm v_p1_kinds v_p1_numbers v_p1_size q6.1 q6.2 v_this_waiting v_this_waitingSize (a_p2 - 1)).bind fun q27 => (f_X3_writeText q27.1 q27.2.1 3).bind fun q29 => some ((q29.1, q29.2, q27.2.2.1, q27.2.2.2)) else (f_X3_writeTerm v_p1_kinds v_p1_numbers v_p1_size q6.1 q6.2 v_this_waiting v_this_waitingSize (a_p2 - 1)).bind fun q31 => (f_X3_writeText q31.1 q31.2.1 1).bind fun q33 => (f_X3_writeTemporary q33.1 q33.2 q4.1).bind fun q35 => some ((q35.1, q35.2, q31.2.2.1, q31.2.2.2))
theorem hdn_X3_writeLine : yX3_writeLine.cls ≠ "java/lang/invoke/MethodHandle" ∧ yX3_writeLine.cls ≠ "java/lang/invoke/VarHandle" ∧ (parseMethodDescriptor yX3_writeLine.desc).map (fun d => d.parameters.length) = some 2 := by decide +kernel
theorem hd_X3_writeLine : yX3_writeLine.cls = RX3 ∧ yX3_writeLine.cls ≠ "java/lang/invoke/MethodHandle" ∧ yX3_writeLine.cls ≠ "java/lang/invoke/VarHandle" ∧ (parseMethodDescriptor yX3_writeLine.desc).map (fun d => d.parameters.length) = some 2 := ⟨rfl, hdn_X3_writeLine⟩
set_option maxHeartbeats 4000000 in
set_option maxRecDepth 100000 in
theorem c_X3_writeLine (l : Launch) (dC : Nat → ClassId) (dI : Nat → Nat → Nat) (adK adV : Nat → Nat) (h_p1 h_p1_kinds h_p1_numbers h_this h_this_signs h_this_waiting : Nat) (k_p1_kinds k_p1_numbers k_this_signs k_this_waiting : ClassId) (sz : Nat) (v_p1_kinds : Nat → Int32) (v_p1_numbers : Nat → Int32) (v_p1_size : Int32) (v_this_first : Int32) (v_this_signs : Nat → Int32) (v_this_waiting : Nat → Int32) (v_this_waitingSize : Int32) (a_p2 : Int32) (res : Int32 × (Nat → Int32) × (Nat → Int32) × Int32) (hd : f_X3_writeLine v_p1_kinds v_p1_numbers v_p1_size v_this_first v_this_signs v_this_waiting v_this_waitingSize a_p2 = some res) : Met l yX3_writeLine wsX3_writeLine ({ frames := 7, cells := 0, slots := 0, locals := 154 }) (va_Pc [.ref h_this, .ref h_p1, .int a_p2] (fun U => mPre dC dI (W_X3_writeLine h_p1 h_p1_kinds h_p1_numbers h_this h_this_signs h_this_waiting k_p1_kinds k_p1_numbers k_this_signs k_this_waiting v_p1_kinds v_p1_numbers v_p1_size v_this_first v_this_signs v_this_waiting v_this_waitingSize) [(k_p1_kinds, .int), (k_p1_numbers, .int), (k_this_signs, .char), (k_this_waiting, .int)] sz U ∧ env adK adV (va_A (W_X3_writeLine h_p1 h_p1_kinds h_p1_numbers h_this h_this_signs h_this_waiting k_p1_kinds k_p1_numbers k_this_signs k_this_waiting v_p1_kinds v_p1_numbers v_p1_size v_this_first v_this_signs v_this_waiting v_this_waitingSize) sz) U U.heap)) (va_Qv (fun (u : Int32 × (Nat → Int32) × (Nat → Int32) × Int32) => u = res) (fun (u : Int32 × (Nat → Int32) × (Nat → Int32) × Int32) t => mPost dC dI (va_A (W_X3_writeLine h_p1 h_p1_kinds h_p1_numbers h_this h_this_signs h_this_waiting k_p1_kinds k_p1_numbers k_this_signs k_this_waiting v_p1_kinds v_p1_numbers v_p1_size v_this_first v_this_signs v_this_waiting v_this_waitingSize) sz) (W_X3_writeLine h_p1 h_p1_kinds h_p1_numbers h_this h_this_signs h_this_waiting k_p1_kinds k_p1_numbers k_this_signs k_this_waiting v_p1_kinds v_p1_numbers v_p1_size u.1 u.2.1 u.2.2.1 u.2.2.2) [(k_p1_kinds, .int), (k_p1_numbers, .int), (k_this_signs, .char), (k_this_waiting, .int)] t) (va_A (W_X3_writeLine h_p1 h_p1_kinds h_p1_numbers h_this h_this_signs h_this_waiting k_p1_kinds k_p1_numbers k_this_signs k_this_waiting v_p1_kinds v_p1_numbers v_p1_size v_this_first v_this_signs v_this_waiting v_this_waitingSize) sz)) 0 0 (va_A (W_X3_writeLine h_p1 h_p1_kinds h_p1_numbers h_this h_this_signs h_this_waiting k_p1_kinds k_p1_numbers k_this_signs k_this_waiting v_p1_kinds v_p1_numbers v_p1_size v_this_first v_this_signs v_this_waiting v_this_waitingSize) sz) := by
  refine Met.ofW (cc := cX3_writeLine) (maxL := 5) (ret := none) (by decide) rfl ?_
  intro p e s m args below meth c s₁ B hml hv
  obtain ⟨rfl, ⟨hsz, hP, hK, hD0⟩, hE⟩ := hv
  have hx := B.exec
  have hb := B.bytes
  have hr := B.returns
  have hts := atoms_spec (ws := wsX3_writeLine) B.pre
  have hown : s.vm.findClass RX3 = some m.cls := findClass_of_methodNamed B.named
  have hlocks := B.notSynchronized
  have w_1 := hts (.fieldLink RX3 15 "TermPile$Scribe" "first" "I") (by decide +kernel)
  have w_2 := hts (.initialized RX5) (by decide +kernel)
  have w_3 := hts (.static yX5_growthIn) (by decide +kernel)
  have w_4 := hts (.static yX5_grownVariableIn) (by decide +kernel)
  have in_X3 : ∀ w ∈ wsX30, w ∈ wsX3_writeLine := by decide +kernel
  subst hsz
  have hD := hD0.self (sz := s.heap.size)
  generalize hAe : va_A (W_X3_writeLine h_p1 h_p1_kinds h_p1_numbers h_this h_this_signs h_this_waiting k_p1_kinds k_p1_numbers k_this_signs k_this_waiting v_p1_kinds v_p1_numbers v_p1_size v_this_first v_this_signs v_this_waiting v_this_waitingSize) s.heap.size = A at hD hE ⊢
  have hA : ∀ q : Nat, s.heap.size ≤ q → A q := fun q h => by rw [← hAe]; exact Or.inr h
  clear hAe hD0
  have hS : va_S A s.heap s.heap [] := va_S.rf
  have hP : va_P (dC, dI) vwCl [(h_p1, .inr (0, [.ref h_p1_kinds, .ref h_p1_numbers, .int v_p1_size])), (h_p1_kinds, .inl (k_p1_kinds, 300, .inl (v_p1_kinds))), (h_p1_numbers, .inl (k_p1_numbers, 300, .inl (v_p1_numbers))), (h_this, .inr (3, [.ref h_this_signs, .int v_this_first, .ref h_this_waiting, .int v_this_waitingSize])), (h_this_signs, .inl (k_this_signs, 800, .inl (v_this_signs))), (h_this_waiting, .inl (k_this_waiting, 800, .inl (v_this_waiting)))] s.heap := hP
  have hD : va_D A [(h_p1, .inr (0, [.ref h_p1_kinds, .ref h_p1_numbers, .int v_p1_size])), (h_p1_kinds, .inl (k_p1_kinds, 300, .inl (v_p1_kinds))), (h_p1_numbers, .inl (k_p1_numbers, 300, .inl (v_p1_numbers))), (h_this, .inr (3, [.ref h_this_signs, .int v_this_first, .ref h_this_waiting, .int v_this_waitingSize])), (h_this_signs, .inl (k_this_signs, 800, .inl (v_this_signs))), (h_this_waiting, .inl (k_this_waiting, 800, .inl (v_this_waiting)))] := hD
  have hl := lv_entry ([.ref h_this, .ref h_p1, .int a_p2]) (n := 5) (Nat.le_of_ble_eq_true rfl)
  rw [lg_entry_eq]
  generalize (lg_sl ([.ref h_this, .ref h_p1, .int a_p2]) ++ List.replicate (5 - (lg_sl ([.ref h_this, .ref h_p1, .int a_p2])).length) Slot.unset).toArray = ls at hl ⊢
  have hl : lv_has ls 5 [(0, .ref h_this), (1, .ref h_p1), (2, .int a_p2)] := hl
  have h := hd
  unfold f_X3_writeLine at h
  obtain ⟨H, hHe⟩ : ∃ H, H = s.heap := ⟨_, rfl⟩
  obtain ⟨locs, hLe⟩ : ∃ L : List Loc, L = [] := ⟨_, rfl⟩
  have hS : va_S A s.heap H locs := by rw [hHe, hLe]; exact hS
  have hP : va_P (dC, dI) vwCl [(h_p1, .inr (0, [.ref h_p1_kinds, .ref h_p1_numbers, .int v_p1_size])), (h_p1_kinds, .inl (k_p1_kinds, 300, .inl (v_p1_kinds))), (h_p1_numbers, .inl (k_p1_numbers, 300, .inl (v_p1_numbers))), (h_this, .inr (3, [.ref h_this_signs, .int v_this_first, .ref h_this_waiting, .int v_this_waitingSize])), (h_this_signs, .inl (k_this_signs, 800, .inl (v_this_signs))), (h_this_waiting, .inl (k_this_waiting, 800, .inl (v_this_waiting)))] H := by rw [hHe]; exact hP
  rw [show W p l e (headSpec wsX3_writeLine ({ frames := 7, cells := 0, slots := 0, locals := 154 })).room s m [.ref h_this, .ref h_p1, .int a_p2].toArray below meth c s.heap [] 0 0 = W p l e (headSpec wsX3_writeLine ({ frames := 7, cells := 0, slots := 0, locals := 154 })).room s m [.ref h_this, .ref h_p1, .int a_p2].toArray below meth c H locs 0 0 by rw [hHe, hLe]]
  clear hHe hLe
  refine lv_aload_n hx hb dX3_writeLine_0 rfl (lv_at hl 1 rfl) ?_
  refine lv_iload_n hx hb dX3_writeLine_1 rfl (lv_at hl 2 rfl) ?_
  obtain ⟨⟨r1, ⟨⟩⟩, gr1, h⟩ := Option.bind_eq_some_iff.mp h
  try dsimp only at h
  have hPc := hP.sub (ws' := W_X0_kindAt h_p1 h_p1_kinds k_p1_kinds (.ref h_p1_numbers) v_p1_kinds v_p1_size) [0, 1] rfl
  have hDc := hD.sub (ws' := W_X0_kindAt h_p1 h_p1_kinds k_p1_kinds (.ref h_p1_numbers) v_p1_kinds v_p1_size) [0, 1] (by decide) rfl
  have hKc := hK.sub (tys' := [(k_p1_kinds, .int)]) [0] rfl
  have hFc := va_free (wc := W_X0_kindAt h_p1 h_p1_kinds k_p1_kinds (.ref h_p1_numbers) v_p1_kinds v_p1_size) hD hS hA [0, 1] rfl
  refine va_calli (va_runV (As := [.int a_p2]) (rest := []) ⟨hx, hb, hml, hown, hts⟩ (c_X0_kindAt l dC dI h_p1 h_p1_kinds k_p1_kinds (.ref h_p1_numbers) H.size v_p1_kinds v_p1_size a_p2 (r1, ()) gr1) (cwV 1 hts gX3_writeLine_X0_kindAt rfl rfl rfl hd_X0_kindAt ⟨Nat.le_of_ble_eq_true rfl, Nat.le_of_ble_eq_true rfl⟩) (preV hKc hPc hDc (va_recv hK hP (ci := 0) (q0 := 0) rfl rfl)) rfl rfl hl.1 rfl (lv_room (Nat.le_of_ble_eq_true rfl)) dX3_writeLine_2 ⟨Nat.zero_le _, Nat.zero_le _⟩) hS (fun q _ h => hFc q h) hFc (fun ar1 ur1 tr1 H1 locs htr1 hvmr1 hw hB hz1 hk1 hS => ?_)
  obtain ⟨rfl, rfl⟩ := And.intro hw.1.symm hw.2.symm
  obtain ⟨hP1, hK1, hD1⟩ := hB
  rw [htr1] at hP1
  obtain ⟨hP, hD⟩ := va_join (wr := [(h_p1_numbers, .inl (k_p1_numbers, 300, .inl (v_p1_numbers))), (h_this, .inr (3, [.ref h_this_signs, .int v_this_first, .ref h_this_waiting, .int v_this_waitingSize])), (h_this_signs, .inl (k_this_signs, 800, .inl (v_this_signs))), (h_this_waiting, .inl (k_this_waiting, 800, .inl (v_this_waiting)))]) (w1 := W_X0_kindAt h_p1 h_p1_kinds k_p1_kinds (.ref h_p1_numbers) v_p1_kinds v_p1_size) hP hD [0, 1] [2, 3, 4, 5] rfl rfl (by decide) (by decide) hk1 hFc hP1 hD1
  have hP := hP.sub (ws' := [(h_p1, .inr (0, [.ref h_p1_kinds, .ref h_p1_numbers, .int v_p1_size])), (h_p1_kinds, .inl (k_p1_kinds, 300, .inl (v_p1_kinds))), (h_p1_numbers, .inl (k_p1_numbers, 300, .inl (v_p1_numbers))), (h_this, .inr (3, [.ref h_this_signs, .int v_this_first, .ref h_this_waiting, .int v_this_waitingSize])), (h_this_signs, .inl (k_this_signs, 800, .inl (v_this_signs))), (h_this_waiting, .inl (k_this_waiting, 800, .inl (v_this_waiting)))]) [4, 5, 0, 1, 2, 3] rfl
  have hD := hD.sub (ws' := [(h_p1, .inr (0, [.ref h_p1_kinds, .ref h_p1_numbers, .int v_p1_size])), (h_p1_kinds, .inl (k_p1_kinds, 300, .inl (v_p1_kinds))), (h_p1_numbers, .inl (k_p1_numbers, 300, .inl (v_p1_numbers))), (h_this, .inr (3, [.ref h_this_signs, .int v_this_first, .ref h_this_waiting, .int v_this_waitingSize])), (h_this_signs, .inl (k_this_signs, 800, .inl (v_this_signs))), (h_this_waiting, .inl (k_this_waiting, 800, .inl (v_this_waiting)))]) [4, 5, 0, 1, 2, 3] (by decide) rfl
  generalize H1 = H at hP hS ⊢
  clear hk1 hz1
  refine lv_istore_n (lv' := [(3, .int r1), (0, .ref h_this), (1, .ref h_p1), (2, .int a_p2)]) hx hb dX3_writeLine_5 rfl hl (by decide) rfl (fun ls hl => ?_)
  refine lv_aload_n hx hb dX3_writeLine_6 rfl (lv_at hl 2 rfl) ?_
  refine lv_iload_n hx hb dX3_writeLine_7 rfl (lv_at hl 3 rfl) ?_
  obtain ⟨⟨r3, ⟨⟩⟩, gr3, h⟩ := Option.bind_eq_some_iff.mp h
  try dsimp only at h
  have hPc := hP.sub (ws' := W_X0_numberAt h_p1 h_p1_numbers k_p1_numbers (.ref h_p1_kinds) v_p1_numbers v_p1_size) [0, 2] rfl
  have hDc := hD.sub (ws' := W_X0_numberAt h_p1 h_p1_numbers k_p1_numbers (.ref h_p1_kinds) v_p1_numbers v_p1_size) [0, 2] (by decide) rfl
  have hKc := hK.sub (tys' := [(k_p1_numbers, .int)]) [1] rfl
  have hFc := va_free (wc := W_X0_numberAt h_p1 h_p1_numbers k_p1_numbers (.ref h_p1_kinds) v_p1_numbers v_p1_size) hD hS hA [0, 2] rfl
  refine va_calli (va_runV (As := [.int a_p2]) (rest := []) ⟨hx, hb, hml, hown, hts⟩ (c_X0_numberAt l dC dI h_p1 h_p1_numbers k_p1_numbers (.ref h_p1_kinds) H.size v_p1_numbers v_p1_size a_p2 (r3, ()) gr3) (cwV 1 hts gX3_writeLine_X0_numberAt rfl rfl rfl hd_X0_numberAt ⟨Nat.le_of_ble_eq_true rfl, Nat.le_of_ble_eq_true rfl⟩) (preV hKc hPc hDc (va_recv hK hP (ci := 0) (q0 := 0) rfl rfl)) rfl rfl hl.1 rfl (lv_room (Nat.le_of_ble_eq_true rfl)) dX3_writeLine_8 ⟨Nat.zero_le _, Nat.zero_le _⟩) hS (fun q _ h => hFc q h) hFc (fun ar3 ur3 tr3 H1 locs htr3 hvmr3 hw hB hz1 hk1 hS => ?_)
  obtain ⟨rfl, rfl⟩ := And.intro hw.1.symm hw.2.symm
  obtain ⟨hP1, hK1, hD1⟩ := hB
  rw [htr3] at hP1
  obtain ⟨hP, hD⟩ := va_join (wr := [(h_p1_kinds, .inl (k_p1_kinds, 300, .inl (v_p1_kinds))), (h_this, .inr (3, [.ref h_this_signs, .int v_this_first, .ref h_this_waiting, .int v_this_waitingSize])), (h_this_signs, .inl (k_this_signs, 800, .inl (v_this_signs))), (h_this_waiting, .inl (k_this_waiting, 800, .inl (v_this_waiting)))]) (w1 := W_X0_numberAt h_p1 h_p1_numbers k_p1_numbers (.ref h_p1_kinds) v_p1_numbers v_p1_size) hP hD [0, 2] [1, 3, 4, 5] rfl rfl (by decide) (by decide) hk1 hFc hP1 hD1
  have hP := hP.sub (ws' := [(h_p1, .inr (0, [.ref h_p1_kinds, .ref h_p1_numbers, .int v_p1_size])), (h_p1_kinds, .inl (k_p1_kinds, 300, .inl (v_p1_kinds))), (h_p1_numbers, .inl (k_p1_numbers, 300, .inl (v_p1_numbers))), (h_this, .inr (3, [.ref h_this_signs, .int v_this_first, .ref h_this_waiting, .int v_this_waitingSize])), (h_this_signs, .inl (k_this_signs, 800, .inl (v_this_signs))), (h_this_waiting, .inl (k_this_waiting, 800, .inl (v_this_waiting)))]) [4, 0, 5, 1, 2, 3] rfl
  have hD := hD.sub (ws' := [(h_p1, .inr (0, [.ref h_p1_kinds, .ref h_p1_numbers, .int v_p1_size])), (h_p1_kinds, .inl (k_p1_kinds, 300, .inl (v_p1_kinds))), (h_p1_numbers, .inl (k_p1_numbers, 300, .inl (v_p1_numbers))), (h_this, .inr (3, [.ref h_this_signs, .int v_this_first, .ref h_this_waiting, .int v_this_waitingSize])), (h_this_signs, .inl (k_this_signs, 800, .inl (v_this_signs))), (h_this_waiting, .inl (k_this_waiting, 800, .inl (v_this_waiting)))]) [4, 0, 5, 1, 2, 3] (by decide) rfl
  generalize H1 = H at hP hS ⊢
  clear hk1 hz1
  refine lv_istore (lv' := [(4, .int r3), (3, .int r1), (0, .ref h_this), (1, .ref h_p1), (2, .int a_p2)]) hx hb dX3_writeLine_11 hl (by decide) rfl (fun ls hl => ?_)
  refine lv_aload_n hx hb dX3_writeLine_13 rfl (lv_at hl 2 rfl) ?_
  refine lv_sipush (v := 800) hx hb dX3_writeLine_14 (by decide) ?_
  refine va_put (D := (dC, dI)) (ci := 3) (v := .int 800) (ty := .int) (C := RX3) (T := TX3) (N := 4) hx hb hts in_X3 tyX3 tyX3_ok nmX3 hown hK hP hD hS 3 rfl rfl 1 (by decide) w_1 (fun _ h9 => h9) rfl (by decide +kernel) rfl rfl (Nat.le_of_ble_eq_true rfl) dX3_writeLine_17 (fun H locs hP hD hS => ?_)
  have hP : va_P (dC, dI) vwCl [(h_p1, .inr (0, [.ref h_p1_kinds, .ref h_p1_numbers, .int v_p1_size])), (h_p1_kinds, .inl (k_p1_kinds, 300, .inl (v_p1_kinds))), (h_p1_numbers, .inl (k_p1_numbers, 300, .inl (v_p1_numbers))), (h_this, .inr (3, [.ref h_this_signs, .int 800, .ref h_this_waiting, .int v_this_waitingSize])), (h_this_signs, .inl (k_this_signs, 800, .inl (v_this_signs))), (h_this_waiting, .inl (k_this_waiting, 800, .inl (v_this_waiting)))] H := hP
  have hD : va_D A [(h_p1, .inr (0, [.ref h_p1_kinds, .ref h_p1_numbers, .int v_p1_size])), (h_p1_kinds, .inl (k_p1_kinds, 300, .inl (v_p1_kinds))), (h_p1_numbers, .inl (k_p1_numbers, 300, .inl (v_p1_numbers))), (h_this, .inr (3, [.ref h_this_signs, .int 800, .ref h_this_waiting, .int v_this_waitingSize])), (h_this_signs, .inl (k_this_signs, 800, .inl (v_this_signs))), (h_this_waiting, .inl (k_this_waiting, 800, .inl (v_this_waiting)))] := hD
  refine lv_aload_n hx hb dX3_writeLine_20 rfl (lv_at hl 2 rfl) ?_
  refine lv_bipush (v := 59) hx hb dX3_writeLine_21 (by decide) ?_
  obtain ⟨⟨r5_this_first, r5_this_signs⟩, gr5, h⟩ := Option.bind_eq_some_iff.mp h
  try dsimp only at h
  have hPc := hP.sub (ws' := W_X3_write h_this h_this_signs k_this_signs (.ref h_this_waiting) (.int v_this_waitingSize) 800 v_this_signs) [3, 4] rfl
  have hDc := hD.sub (ws' := W_X3_write h_this h_this_signs k_this_signs (.ref h_this_waiting) (.int v_this_waitingSize) 800 v_this_signs) [3, 4] (by decide) rfl
  have hKc := hK.sub (tys' := [(k_this_signs, .char)]) [2] rfl
  have hFc := va_free (wc := W_X3_write h_this h_this_signs k_this_signs (.ref h_this_waiting) (.int v_this_waitingSize) 800 v_this_signs) hD hS hA [3, 4] rfl
  refine va_callv (va_runV (As := [.int 59]) (rest := []) ⟨hx, hb, hml, hown, hts⟩ (c_X3_write l dC dI h_this h_this_signs k_this_signs (.ref h_this_waiting) (.int v_this_waitingSize) H.size 800 v_this_signs 59 (r5_this_first, r5_this_signs) gr5) (cwV 1 hts gX3_writeLine_X3_write rfl rfl rfl hd_X3_write ⟨Nat.le_of_ble_eq_true rfl, Nat.le_of_ble_eq_true rfl⟩) (preV hKc hPc hDc (va_recv hK hP (ci := 3) (q0 := 3) rfl rfl)) rfl rfl hl.1 rfl (lv_room (Nat.le_of_ble_eq_true rfl)) dX3_writeLine_23 ⟨Nat.zero_le _, Nat.zero_le _⟩) hS (fun q _ h => hFc q h) hFc (fun ur5 tr5 H1 locs htr5 hvmr5 hw hB hz1 hk1 hS => ?_)
  obtain rfl := hw.symm
  obtain ⟨hP1, hK1, hD1⟩ := hB
  rw [htr5] at hP1
  obtain ⟨hP, hD⟩ := va_join (wr := [(h_p1, .inr (0, [.ref h_p1_kinds, .ref h_p1_numbers, .int v_p1_size])), (h_p1_kinds, .inl (k_p1_kinds, 300, .inl (v_p1_kinds))), (h_p1_numbers, .inl (k_p1_numbers, 300, .inl (v_p1_numbers))), (h_this_waiting, .inl (k_this_waiting, 800, .inl (v_this_waiting)))]) (w1 := W_X3_write h_this h_this_signs k_this_signs (.ref h_this_waiting) (.int v_this_waitingSize) r5_this_first r5_this_signs) hP hD [3, 4] [0, 1, 2, 5] rfl rfl (by decide) (by decide) hk1 hFc hP1 hD1
  have hP := hP.sub (ws' := [(h_p1, .inr (0, [.ref h_p1_kinds, .ref h_p1_numbers, .int v_p1_size])), (h_p1_kinds, .inl (k_p1_kinds, 300, .inl (v_p1_kinds))), (h_p1_numbers, .inl (k_p1_numbers, 300, .inl (v_p1_numbers))), (h_this, .inr (3, [.ref h_this_signs, .int r5_this_first, .ref h_this_waiting, .int v_this_waitingSize])), (h_this_signs, .inl (k_this_signs, 800, .inl (r5_this_signs))), (h_this_waiting, .inl (k_this_waiting, 800, .inl (v_this_waiting)))]) [0, 1, 2, 4, 5, 3] rfl
  have hD := hD.sub (ws' := [(h_p1, .inr (0, [.ref h_p1_kinds, .ref h_p1_numbers, .int v_p1_size])), (h_p1_kinds, .inl (k_p1_kinds, 300, .inl (v_p1_kinds))), (h_p1_numbers, .inl (k_p1_numbers, 300, .inl (v_p1_numbers))), (h_this, .inr (3, [.ref h_this_signs, .int r5_this_first, .ref h_this_waiting, .int v_this_waitingSize])), (h_this_signs, .inl (k_this_signs, 800, .inl (r5_this_signs))), (h_this_waiting, .inl (k_this_waiting, 800, .inl (v_this_waiting)))]) [0, 1, 2, 4, 5, 3] (by decide) rfl
  generalize H1 = H at hP hS ⊢
  clear hk1 hz1
  refine lv_iload_n hx hb dX3_writeLine_26 rfl (lv_at hl 1 rfl) ?_
  by_cases s7 : r1 = 2
  · have h := it_t h s7
    refine lv_tableIn (tgt := 60) hx hb dX3_writeLine_27 (by rw [s7]; decide) (by rw [s7]; decide) (by rw [s7]; rfl) (by decide) ?_
    refine lv_aload_n hx hb dX3_writeLine_60 rfl (lv_at hl 2 rfl) ?_
    refine lv_aload_n hx hb dX3_writeLine_61 rfl (lv_at hl 3 rfl) ?_
    refine lv_iload_n hx hb dX3_writeLine_62 rfl (lv_at hl 4 rfl) ?_
    refine lv_iconst (v := 1) hx hb dX3_writeLine_63 (by decide) ?_
    refine lv_isub hx hb dX3_writeLine_64 ?_
    obtain ⟨⟨r8_this_first, r8_this_signs, r8_this_waiting, r8_this_waitingSize⟩, gr8, h⟩ := Option.bind_eq_some_iff.mp h
    try dsimp only at h
    have hPc := hP.sub (ws' := W_X3_writeTerm h_p1 h_p1_kinds h_p1_numbers h_this h_this_signs h_this_waiting k_p1_kinds k_p1_numbers k_this_signs k_this_waiting v_p1_kinds v_p1_numbers v_p1_size r5_this_first r5_this_signs v_this_waiting v_this_waitingSize) [0, 1, 2, 3, 4, 5] rfl
    have hDc := hD.sub (ws' := W_X3_writeTerm h_p1 h_p1_kinds h_p1_numbers h_this h_this_signs h_this_waiting k_p1_kinds k_p1_numbers k_this_signs k_this_waiting v_p1_kinds v_p1_numbers v_p1_size r5_this_first r5_this_signs v_this_waiting v_this_waitingSize) [0, 1, 2, 3, 4, 5] (by decide) rfl
    have hKc := hK.sub (tys' := [(k_p1_kinds, .int), (k_p1_numbers, .int), (k_this_signs, .char), (k_this_waiting, .int)]) [0, 1, 2, 3] rfl
    have hFc := va_free (wc := W_X3_writeTerm h_p1 h_p1_kinds h_p1_numbers h_this h_this_signs h_this_waiting k_p1_kinds k_p1_numbers k_this_signs k_this_waiting v_p1_kinds v_p1_numbers v_p1_size r5_this_first r5_this_signs v_this_waiting v_this_waitingSize) hD hS hA [0, 1, 2, 3, 4, 5] rfl
    refine va_callv (va_runV (As := [.ref h_p1, .int (a_p2 - 1)]) (rest := []) ⟨hx, hb, hml, hown, hts⟩ (c_X3_writeTerm l dC dI adK adV h_p1 h_p1_kinds h_p1_numbers h_this h_this_signs h_this_waiting k_p1_kinds k_p1_numbers k_this_signs k_this_waiting H.size v_p1_kinds v_p1_numbers v_p1_size r5_this_first r5_this_signs v_this_waiting v_this_waitingSize (a_p2 - 1) (r8_this_first, r8_this_signs, r8_this_waiting, r8_this_waitingSize) gr8) (cwV 2 hts gX3_writeLine_X3_writeTerm rfl rfl rfl hd_X3_writeTerm ⟨Nat.le_of_ble_eq_true rfl, Nat.le_of_ble_eq_true rfl⟩) (preVE hKc hPc hDc (va_recv hK hP (ci := 3) (q0 := 3) rfl rfl) (fun U hU hW => envp hE hS hFc hU hW)) rfl rfl hl.1 rfl (lv_room (Nat.le_of_ble_eq_true rfl)) dX3_writeLine_65 ⟨Nat.zero_le _, Nat.zero_le _⟩) hS (fun q _ h => hFc q h) hFc (fun ur8 tr8 H1 locs htr8 hvmr8 hw hB hz1 hk1 hS => ?_)
    obtain rfl := hw.symm
    obtain ⟨hP1, hK1, hD1⟩ := hB
    rw [htr8] at hP1
    obtain ⟨hP, hD⟩ := va_join (wr := []) (w1 := W_X3_writeTerm h_p1 h_p1_kinds h_p1_numbers h_this h_this_signs h_this_waiting k_p1_kinds k_p1_numbers k_this_signs k_this_waiting v_p1_kinds v_p1_numbers v_p1_size r8_this_first r8_this_signs r8_this_waiting r8_this_waitingSize) hP hD [0, 1, 2, 3, 4, 5] [] rfl rfl (by decide) (by decide) hk1 hFc hP1 hD1
    have hP := hP.sub (ws' := [(h_p1, .inr (0, [.ref h_p1_kinds, .ref h_p1_numbers, .int v_p1_size])), (h_p1_kinds, .inl (k_p1_kinds, 300, .inl (v_p1_kinds))), (h_p1_numbers, .inl (k_p1_numbers, 300, .inl (v_p1_numbers))), (h_this, .inr (3, [.ref h_this_signs, .int r8_this_first, .ref h_this_waiting, .int r8_this_waitingSize])), (h_this_signs, .inl (k_this_signs, 800, .inl (r8_this_signs))), (h_this_waiting, .inl (k_this_waiting, 800, .inl (r8_this_waiting)))]) [0, 1, 2, 3, 4, 5] rfl
    have hD := hD.sub (ws' := [(h_p1, .inr (0, [.ref h_p1_kinds, .ref h_p1_numbers, .int v_p1_size])), (h_p1_kinds, .inl (k_p1_kinds, 300, .inl (v_p1_kinds))), (h_p1_numbers, .inl (k_p1_numbers, 300, .inl (v_p1_numbers))), (h_this, .inr (3, [.ref h_this_signs, .int r8_this_first, .ref h_this_waiting, .int r8_this_waitingSize])), (h_this_signs, .inl (k_this_signs, 800, .inl (r8_this_signs))), (h_this_waiting, .inl (k_this_waiting, 800, .inl (r8_this_waiting)))]) [0, 1, 2, 3, 4, 5] (by decide) rfl
    generalize H1 = H at hP hS ⊢
    clear hk1 hz1
    refine lv_aload_n hx hb dX3_writeLine_68 rfl (lv_at hl 2 rfl) ?_
    refine va_ldcS hx hb hown hE.2.2.2.2.2.2.2.2.1 dX3_writeLine_69 ?_
    obtain ⟨⟨r10_this_first, r10_this_signs⟩, gr10, h⟩ := Option.bind_eq_some_iff.mp h
    try dsimp only at h
    have hPc := hP.sub (ws' := W_X3_writeText h_this h_this_signs k_this_signs (.ref h_this_waiting) (.int r8_this_waitingSize) r8_this_first r8_this_signs) [3, 4] rfl
    have hDc := hD.sub (ws' := W_X3_writeText h_this h_this_signs k_this_signs (.ref h_this_waiting) (.int r8_this_waitingSize) r8_this_first r8_this_signs) [3, 4] (by decide) rfl
    have hKc := hK.sub (tys' := [(k_this_signs, .char)]) [2] rfl
    have hFc := va_free (wc := W_X3_writeText h_this h_this_signs k_this_signs (.ref h_this_waiting) (.int r8_this_waitingSize) r8_this_first r8_this_signs) hD hS hA [3, 4] rfl
    refine va_callv (va_runV (As := [.ref (adK 1)]) (rest := []) ⟨hx, hb, hml, hown, hts⟩ (c_X3_writeText l dC dI adK adV h_this h_this_signs k_this_signs (.ref h_this_waiting) (.int r8_this_waitingSize) H.size r8_this_first r8_this_signs 1 (r10_this_first, r10_this_signs) gr10) (cwV 1 hts gX3_writeLine_X3_writeText rfl rfl rfl hd_X3_writeText ⟨Nat.le_of_ble_eq_true rfl, Nat.le_of_ble_eq_true rfl⟩) (preVE hKc hPc hDc (va_recv hK hP (ci := 3) (q0 := 3) rfl rfl) (fun U hU hW => envp hE hS hFc hU hW)) rfl rfl hl.1 rfl (lv_room (Nat.le_of_ble_eq_true rfl)) dX3_writeLine_71 ⟨Nat.zero_le _, Nat.zero_le _⟩) hS (fun q _ h => hFc q h) hFc (fun ur10 tr10 H1 locs htr10 hvmr10 hw hB hz1 hk1 hS => ?_)
    obtain rfl := hw.symm
    obtain ⟨hP1, hK1, hD1⟩ := hB
    rw [htr10] at hP1
    obtain ⟨hP, hD⟩ := va_join (wr := [(h_p1, .inr (0, [.ref h_p1_kinds, .ref h_p1_numbers, .int v_p1_size])), (h_p1_kinds, .inl (k_p1_kinds, 300, .inl (v_p1_kinds))), (h_p1_numbers, .inl (k_p1_numbers, 300, .inl (v_p1_numbers))), (h_this_waiting, .inl (k_this_waiting, 800, .inl (r8_this_waiting)))]) (w1 := W_X3_writeText h_this h_this_signs k_this_signs (.ref h_this_waiting) (.int r8_this_waitingSize) r10_this_first r10_this_signs) hP hD [3, 4] [0, 1, 2, 5] rfl rfl (by decide) (by decide) hk1 hFc hP1 hD1
    have hP := hP.sub (ws' := [(h_p1, .inr (0, [.ref h_p1_kinds, .ref h_p1_numbers, .int v_p1_size])), (h_p1_kinds, .inl (k_p1_kinds, 300, .inl (v_p1_kinds))), (h_p1_numbers, .inl (k_p1_numbers, 300, .inl (v_p1_numbers))), (h_this, .inr (3, [.ref h_this_signs, .int r10_this_first, .ref h_this_waiting, .int r8_this_waitingSize])), (h_this_signs, .inl (k_this_signs, 800, .inl (r10_this_signs))), (h_this_waiting, .inl (k_this_waiting, 800, .inl (r8_this_waiting)))]) [0, 1, 2, 4, 5, 3] rfl
    have hD := hD.sub (ws' := [(h_p1, .inr (0, [.ref h_p1_kinds, .ref h_p1_numbers, .int v_p1_size])), (h_p1_kinds, .inl (k_p1_kinds, 300, .inl (v_p1_kinds))), (h_p1_numbers, .inl (k_p1_numbers, 300, .inl (v_p1_numbers))), (h_this, .inr (3, [.ref h_this_signs, .int r10_this_first, .ref h_this_waiting, .int r8_this_waitingSize])), (h_this_signs, .inl (k_this_signs, 800, .inl (r10_this_signs))), (h_this_waiting, .inl (k_this_waiting, 800, .inl (r8_this_waiting)))]) [0, 1, 2, 4, 5, 3] (by decide) rfl
    generalize H1 = H at hP hS ⊢
    clear hk1 hz1
    refine lv_aload_n hx hb dX3_writeLine_74 rfl (lv_at hl 2 rfl) ?_
    refine lv_iload hx hb dX3_writeLine_75 (lv_at hl 0 rfl) ?_
    obtain ⟨⟨r12_this_first, r12_this_signs⟩, gr12, h⟩ := Option.bind_eq_some_iff.mp h
    try dsimp only at h
    have hPc := hP.sub (ws' := W_X3_writeVariable h_this h_this_signs k_this_signs (.ref h_this_waiting) (.int r8_this_waitingSize) r10_this_first r10_this_signs) [3, 4] rfl
    have hDc := hD.sub (ws' := W_X3_writeVariable h_this h_this_signs k_this_signs (.ref h_this_waiting) (.int r8_this_waitingSize) r10_this_first r10_this_signs) [3, 4] (by decide) rfl
    have hKc := hK.sub (tys' := [(k_this_signs, .char)]) [2] rfl
    have hFc := va_free (wc := W_X3_writeVariable h_this h_this_signs k_this_signs (.ref h_this_waiting) (.int r8_this_waitingSize) r10_this_first r10_this_signs) hD hS hA [3, 4] rfl
    refine va_callv (va_runV (As := [.int r3]) (rest := []) ⟨hx, hb, hml, hown, hts⟩ (c_X3_writeVariable l dC dI h_this h_this_signs k_this_signs (.ref h_this_waiting) (.int r8_this_waitingSize) H.size r10_this_first r10_this_signs r3 (r12_this_first, r12_this_signs) gr12) (cwV 1 hts gX3_writeLine_X3_writeVariable rfl rfl rfl hd_X3_writeVariable ⟨Nat.le_of_ble_eq_true rfl, Nat.le_of_ble_eq_true rfl⟩) (preV hKc hPc hDc (va_recv hK hP (ci := 3) (q0 := 3) rfl rfl)) rfl rfl hl.1 rfl (lv_room (Nat.le_of_ble_eq_true rfl)) dX3_writeLine_77 ⟨Nat.zero_le _, Nat.zero_le _⟩) hS (fun q _ h => hFc q h) hFc (fun ur12 tr12 H1 locs htr12 hvmr12 hw hB hz1 hk1 hS => ?_)
    obtain rfl := hw.symm
    obtain ⟨hP1, hK1, hD1⟩ := hB
    rw [htr12] at hP1
    obtain ⟨hP, hD⟩ := va_join (wr := [(h_p1, .inr (0, [.ref h_p1_kinds, .ref h_p1_numbers, .int v_p1_size])), (h_p1_kinds, .inl (k_p1_kinds, 300, .inl (v_p1_kinds))), (h_p1_numbers, .inl (k_p1_numbers, 300, .inl (v_p1_numbers))), (h_this_waiting, .inl (k_this_waiting, 800, .inl (r8_this_waiting)))]) (w1 := W_X3_writeVariable h_this h_this_signs k_this_signs (.ref h_this_waiting) (.int r8_this_waitingSize) r12_this_first r12_this_signs) hP hD [3, 4] [0, 1, 2, 5] rfl rfl (by decide) (by decide) hk1 hFc hP1 hD1
    have hP := hP.sub (ws' := [(h_p1, .inr (0, [.ref h_p1_kinds, .ref h_p1_numbers, .int v_p1_size])), (h_p1_kinds, .inl (k_p1_kinds, 300, .inl (v_p1_kinds))), (h_p1_numbers, .inl (k_p1_numbers, 300, .inl (v_p1_numbers))), (h_this, .inr (3, [.ref h_this_signs, .int r12_this_first, .ref h_this_waiting, .int r8_this_waitingSize])), (h_this_signs, .inl (k_this_signs, 800, .inl (r12_this_signs))), (h_this_waiting, .inl (k_this_waiting, 800, .inl (r8_this_waiting)))]) [0, 1, 2, 4, 5, 3] rfl
    have hD := hD.sub (ws' := [(h_p1, .inr (0, [.ref h_p1_kinds, .ref h_p1_numbers, .int v_p1_size])), (h_p1_kinds, .inl (k_p1_kinds, 300, .inl (v_p1_kinds))), (h_p1_numbers, .inl (k_p1_numbers, 300, .inl (v_p1_numbers))), (h_this, .inr (3, [.ref h_this_signs, .int r12_this_first, .ref h_this_waiting, .int r8_this_waitingSize])), (h_this_signs, .inl (k_this_signs, 800, .inl (r12_this_signs))), (h_this_waiting, .inl (k_this_waiting, 800, .inl (r8_this_waiting)))]) [0, 1, 2, 4, 5, 3] (by decide) rfl
    generalize H1 = H at hP hS ⊢
    clear hk1 hz1
    refine lv_goto (tgt := 147) hx hb dX3_writeLine_80 (by decide) ?_
    obtain rfl := Option.some.inj h
    exact W.vret hx hb hr (fun t ht hW => ⟨⟨(r12_this_first, r12_this_signs, r8_this_waiting, r8_this_waitingSize), rfl, rfl, by rw [ht]; exact hP, va_K.moved hW.alike hK, hD⟩, hS.F ht⟩) hS.2.2 dX3_writeLine_147
  have h := it_f h s7
  by_cases s14 : r1 = 3
  · have h := it_t h s14
    refine lv_tableIn (tgt := 83) hx hb dX3_writeLine_27 (by rw [s14]; decide) (by rw [s14]; decide) (by rw [s14]; rfl) (by decide) ?_
    refine lv_aload_n hx hb dX3_writeLine_83 rfl (lv_at hl 2 rfl) ?_
    refine lv_iload hx hb dX3_writeLine_84 (lv_at hl 0 rfl) ?_
    obtain ⟨⟨r15, ⟨⟩⟩, gr15, h⟩ := Option.bind_eq_some_iff.mp h
    try dsimp only at h
    have hPc := hP.sub (ws' := []) [] rfl
    have hDc := hD.sub (ws' := []) [] (by decide) rfl
    have hKc := hK.sub (tys' := []) [] rfl
    have hFc := va_free (wc := []) hD hS hA [] rfl
    refine va_calli (va_runSN (As := [.int r3]) (rest := [.ref h_this]) ⟨hx, hb, hml, hown, hts⟩ (c_X5_growthIn l dC dI H.size r3 (r15, ()) gr15) ⟨va_cnB 1 hts gX3_writeLine_X5_growthIn_n53 rfl rfl rfl (hE.1 _ (nz_X3_53 : _ ∈ nzL)) w_2 hdn_X5_growthIn ⟨Nat.le_of_ble_eq_true rfl, Nat.le_of_ble_eq_true rfl⟩, w_3, trivial⟩ (preS hKc hPc hDc) rfl rfl hl.1 rfl (lv_room (Nat.le_of_ble_eq_true rfl)) dX3_writeLine_86 ⟨Nat.zero_le _, Nat.zero_le _⟩) hS (fun q _ h => hFc q h) hFc (fun ar15 ur15 tr15 H1 locs htr15 hvmr15 hw hB hz1 hk1 hS => ?_)
    obtain ⟨rfl, rfl⟩ := And.intro hw.1.symm hw.2.symm
    obtain ⟨hP1, hK1, hD1⟩ := hB
    rw [htr15] at hP1
    have hP : va_P (dC, dI) vwCl [(h_p1, .inr (0, [.ref h_p1_kinds, .ref h_p1_numbers, .int v_p1_size])), (h_p1_kinds, .inl (k_p1_kinds, 300, .inl (v_p1_kinds))), (h_p1_numbers, .inl (k_p1_numbers, 300, .inl (v_p1_numbers))), (h_this, .inr (3, [.ref h_this_signs, .int r5_this_first, .ref h_this_waiting, .int v_this_waitingSize])), (h_this_signs, .inl (k_this_signs, 800, .inl (r5_this_signs))), (h_this_waiting, .inl (k_this_waiting, 800, .inl (v_this_waiting)))] H1 := keep0 hP hk1
    generalize H1 = H at hP hS ⊢
    clear hk1 hz1
    obtain ⟨⟨r17_this_first, r17_this_signs⟩, gr17, h⟩ := Option.bind_eq_some_iff.mp h
    try dsimp only at h
    have hPc := hP.sub (ws' := W_X3_writeNumber h_this h_this_signs k_this_signs (.ref h_this_waiting) (.int v_this_waitingSize) r5_this_first r5_this_signs) [3, 4] rfl
    have hDc := hD.sub (ws' := W_X3_writeNumber h_this h_this_signs k_this_signs (.ref h_this_waiting) (.int v_this_waitingSize) r5_this_first r5_this_signs) [3, 4] (by decide) rfl
    have hKc := hK.sub (tys' := [(k_this_signs, .char)]) [2] rfl
    have hFc := va_free (wc := W_X3_writeNumber h_this h_this_signs k_this_signs (.ref h_this_waiting) (.int v_this_waitingSize) r5_this_first r5_this_signs) hD hS hA [3, 4] rfl
    refine va_callv (va_runV (As := [.int r15]) (rest := []) ⟨hx, hb, hml, hown, hts⟩ (c_X3_writeNumber l dC dI h_this h_this_signs k_this_signs (.ref h_this_waiting) (.int v_this_waitingSize) H.size r5_this_first r5_this_signs r15 (r17_this_first, r17_this_signs) gr17) (cwV 1 hts gX3_writeLine_X3_writeNumber rfl rfl rfl hd_X3_writeNumber ⟨Nat.le_of_ble_eq_true rfl, Nat.le_of_ble_eq_true rfl⟩) (preV hKc hPc hDc (va_recv hK hP (ci := 3) (q0 := 3) rfl rfl)) rfl rfl hl.1 rfl (lv_room (Nat.le_of_ble_eq_true rfl)) dX3_writeLine_89 ⟨Nat.zero_le _, Nat.zero_le _⟩) hS (fun q _ h => hFc q h) hFc (fun ur17 tr17 H1 locs htr17 hvmr17 hw hB hz1 hk1 hS => ?_)
    obtain rfl := hw.symm
    obtain ⟨hP1, hK1, hD1⟩ := hB
    rw [htr17] at hP1
    obtain ⟨hP, hD⟩ := va_join (wr := [(h_p1, .inr (0, [.ref h_p1_kinds, .ref h_p1_numbers, .int v_p1_size])), (h_p1_kinds, .inl (k_p1_kinds, 300, .inl (v_p1_kinds))), (h_p1_numbers, .inl (k_p1_numbers, 300, .inl (v_p1_numbers))), (h_this_waiting, .inl (k_this_waiting, 800, .inl (v_this_waiting)))]) (w1 := W_X3_writeNumber h_this h_this_signs k_this_signs (.ref h_this_waiting) (.int v_this_waitingSize) r17_this_first r17_this_signs) hP hD [3, 4] [0, 1, 2, 5] rfl rfl (by decide) (by decide) hk1 hFc hP1 hD1
    have hP := hP.sub (ws' := [(h_p1, .inr (0, [.ref h_p1_kinds, .ref h_p1_numbers, .int v_p1_size])), (h_p1_kinds, .inl (k_p1_kinds, 300, .inl (v_p1_kinds))), (h_p1_numbers, .inl (k_p1_numbers, 300, .inl (v_p1_numbers))), (h_this, .inr (3, [.ref h_this_signs, .int r17_this_first, .ref h_this_waiting, .int v_this_waitingSize])), (h_this_signs, .inl (k_this_signs, 800, .inl (r17_this_signs))), (h_this_waiting, .inl (k_this_waiting, 800, .inl (v_this_waiting)))]) [0, 1, 2, 4, 5, 3] rfl
    have hD := hD.sub (ws' := [(h_p1, .inr (0, [.ref h_p1_kinds, .ref h_p1_numbers, .int v_p1_size])), (h_p1_kinds, .inl (k_p1_kinds, 300, .inl (v_p1_kinds))), (h_p1_numbers, .inl (k_p1_numbers, 300, .inl (v_p1_numbers))), (h_this, .inr (3, [.ref h_this_signs, .int r17_this_first, .ref h_this_waiting, .int v_this_waitingSize])), (h_this_signs, .inl (k_this_signs, 800, .inl (r17_this_signs))), (h_this_waiting, .inl (k_this_waiting, 800, .inl (v_this_waiting)))]) [0, 1, 2, 4, 5, 3] (by decide) rfl
    generalize H1 = H at hP hS ⊢
    clear hk1 hz1
    refine lv_aload_n hx hb dX3_writeLine_92 rfl (lv_at hl 2 rfl) ?_
    refine va_ldcS hx hb hown hE.2.2.2.2.2.2.2.2.2.1 dX3_writeLine_93 ?_
    obtain ⟨⟨r19_this_first, r19_this_signs⟩, gr19, h⟩ := Option.bind_eq_some_iff.mp h
    try dsimp only at h
    have hPc := hP.sub (ws' := W_X3_writeText h_this h_this_signs k_this_signs (.ref h_this_waiting) (.int v_this_waitingSize) r17_this_first r17_this_signs) [3, 4] rfl
    have hDc := hD.sub (ws' := W_X3_writeText h_this h_this_signs k_this_signs (.ref h_this_waiting) (.int v_this_waitingSize) r17_this_first r17_this_signs) [3, 4] (by decide) rfl
    have hKc := hK.sub (tys' := [(k_this_signs, .char)]) [2] rfl
    have hFc := va_free (wc := W_X3_writeText h_this h_this_signs k_this_signs (.ref h_this_waiting) (.int v_this_waitingSize) r17_this_first r17_this_signs) hD hS hA [3, 4] rfl
    refine va_callv (va_runV (As := [.ref (adK 2)]) (rest := []) ⟨hx, hb, hml, hown, hts⟩ (c_X3_writeText l dC dI adK adV h_this h_this_signs k_this_signs (.ref h_this_waiting) (.int v_this_waitingSize) H.size r17_this_first r17_this_signs 2 (r19_this_first, r19_this_signs) gr19) (cwV 1 hts gX3_writeLine_X3_writeText rfl rfl rfl hd_X3_writeText ⟨Nat.le_of_ble_eq_true rfl, Nat.le_of_ble_eq_true rfl⟩) (preVE hKc hPc hDc (va_recv hK hP (ci := 3) (q0 := 3) rfl rfl) (fun U hU hW => envp hE hS hFc hU hW)) rfl rfl hl.1 rfl (lv_room (Nat.le_of_ble_eq_true rfl)) dX3_writeLine_95 ⟨Nat.zero_le _, Nat.zero_le _⟩) hS (fun q _ h => hFc q h) hFc (fun ur19 tr19 H1 locs htr19 hvmr19 hw hB hz1 hk1 hS => ?_)
    obtain rfl := hw.symm
    obtain ⟨hP1, hK1, hD1⟩ := hB
    rw [htr19] at hP1
    obtain ⟨hP, hD⟩ := va_join (wr := [(h_p1, .inr (0, [.ref h_p1_kinds, .ref h_p1_numbers, .int v_p1_size])), (h_p1_kinds, .inl (k_p1_kinds, 300, .inl (v_p1_kinds))), (h_p1_numbers, .inl (k_p1_numbers, 300, .inl (v_p1_numbers))), (h_this_waiting, .inl (k_this_waiting, 800, .inl (v_this_waiting)))]) (w1 := W_X3_writeText h_this h_this_signs k_this_signs (.ref h_this_waiting) (.int v_this_waitingSize) r19_this_first r19_this_signs) hP hD [3, 4] [0, 1, 2, 5] rfl rfl (by decide) (by decide) hk1 hFc hP1 hD1
    have hP := hP.sub (ws' := [(h_p1, .inr (0, [.ref h_p1_kinds, .ref h_p1_numbers, .int v_p1_size])), (h_p1_kinds, .inl (k_p1_kinds, 300, .inl (v_p1_kinds))), (h_p1_numbers, .inl (k_p1_numbers, 300, .inl (v_p1_numbers))), (h_this, .inr (3, [.ref h_this_signs, .int r19_this_first, .ref h_this_waiting, .int v_this_waitingSize])), (h_this_signs, .inl (k_this_signs, 800, .inl (r19_this_signs))), (h_this_waiting, .inl (k_this_waiting, 800, .inl (v_this_waiting)))]) [0, 1, 2, 4, 5, 3] rfl
    have hD := hD.sub (ws' := [(h_p1, .inr (0, [.ref h_p1_kinds, .ref h_p1_numbers, .int v_p1_size])), (h_p1_kinds, .inl (k_p1_kinds, 300, .inl (v_p1_kinds))), (h_p1_numbers, .inl (k_p1_numbers, 300, .inl (v_p1_numbers))), (h_this, .inr (3, [.ref h_this_signs, .int r19_this_first, .ref h_this_waiting, .int v_this_waitingSize])), (h_this_signs, .inl (k_this_signs, 800, .inl (r19_this_signs))), (h_this_waiting, .inl (k_this_waiting, 800, .inl (v_this_waiting)))]) [0, 1, 2, 4, 5, 3] (by decide) rfl
    generalize H1 = H at hP hS ⊢
    clear hk1 hz1
    refine lv_aload_n hx hb dX3_writeLine_98 rfl (lv_at hl 2 rfl) ?_
    refine lv_iload hx hb dX3_writeLine_99 (lv_at hl 0 rfl) ?_
    obtain ⟨⟨r21, ⟨⟩⟩, gr21, h⟩ := Option.bind_eq_some_iff.mp h
    try dsimp only at h
    have hPc := hP.sub (ws' := []) [] rfl
    have hDc := hD.sub (ws' := []) [] (by decide) rfl
    have hKc := hK.sub (tys' := []) [] rfl
    have hFc := va_free (wc := []) hD hS hA [] rfl
    refine va_calli (va_runSN (As := [.int r3]) (rest := [.ref h_this]) ⟨hx, hb, hml, hown, hts⟩ (c_X5_grownVariableIn l dC dI H.size r3 (r21, ()) gr21) ⟨va_cnB 1 hts gX3_writeLine_X5_grownVariableIn_n61 rfl rfl rfl (hE.1 _ (nz_X3_61 : _ ∈ nzL)) w_2 hdn_X5_grownVariableIn ⟨Nat.le_of_ble_eq_true rfl, Nat.le_of_ble_eq_true rfl⟩, w_4, trivial⟩ (preS hKc hPc hDc) rfl rfl hl.1 rfl (lv_room (Nat.le_of_ble_eq_true rfl)) dX3_writeLine_101 ⟨Nat.zero_le _, Nat.zero_le _⟩) hS (fun q _ h => hFc q h) hFc (fun ar21 ur21 tr21 H1 locs htr21 hvmr21 hw hB hz1 hk1 hS => ?_)
    obtain ⟨rfl, rfl⟩ := And.intro hw.1.symm hw.2.symm
    obtain ⟨hP1, hK1, hD1⟩ := hB
    rw [htr21] at hP1
    have hP : va_P (dC, dI) vwCl [(h_p1, .inr (0, [.ref h_p1_kinds, .ref h_p1_numbers, .int v_p1_size])), (h_p1_kinds, .inl (k_p1_kinds, 300, .inl (v_p1_kinds))), (h_p1_numbers, .inl (k_p1_numbers, 300, .inl (v_p1_numbers))), (h_this, .inr (3, [.ref h_this_signs, .int r19_this_first, .ref h_this_waiting, .int v_this_waitingSize])), (h_this_signs, .inl (k_this_signs, 800, .inl (r19_this_signs))), (h_this_waiting, .inl (k_this_waiting, 800, .inl (v_this_waiting)))] H1 := keep0 hP hk1
    generalize H1 = H at hP hS ⊢
    clear hk1 hz1
    obtain ⟨⟨r23_this_first, r23_this_signs⟩, gr23, h⟩ := Option.bind_eq_some_iff.mp h
    try dsimp only at h
    have hPc := hP.sub (ws' := W_X3_writeVariable h_this h_this_signs k_this_signs (.ref h_this_waiting) (.int v_this_waitingSize) r19_this_first r19_this_signs) [3, 4] rfl
    have hDc := hD.sub (ws' := W_X3_writeVariable h_this h_this_signs k_this_signs (.ref h_this_waiting) (.int v_this_waitingSize) r19_this_first r19_this_signs) [3, 4] (by decide) rfl
    have hKc := hK.sub (tys' := [(k_this_signs, .char)]) [2] rfl
    have hFc := va_free (wc := W_X3_writeVariable h_this h_this_signs k_this_signs (.ref h_this_waiting) (.int v_this_waitingSize) r19_this_first r19_this_signs) hD hS hA [3, 4] rfl
    refine va_callv (va_runV (As := [.int r21]) (rest := []) ⟨hx, hb, hml, hown, hts⟩ (c_X3_writeVariable l dC dI h_this h_this_signs k_this_signs (.ref h_this_waiting) (.int v_this_waitingSize) H.size r19_this_first r19_this_signs r21 (r23_this_first, r23_this_signs) gr23) (cwV 1 hts gX3_writeLine_X3_writeVariable rfl rfl rfl hd_X3_writeVariable ⟨Nat.le_of_ble_eq_true rfl, Nat.le_of_ble_eq_true rfl⟩) (preV hKc hPc hDc (va_recv hK hP (ci := 3) (q0 := 3) rfl rfl)) rfl rfl hl.1 rfl (lv_room (Nat.le_of_ble_eq_true rfl)) dX3_writeLine_104 ⟨Nat.zero_le _, Nat.zero_le _⟩) hS (fun q _ h => hFc q h) hFc (fun ur23 tr23 H1 locs htr23 hvmr23 hw hB hz1 hk1 hS => ?_)
    obtain rfl := hw.symm
    obtain ⟨hP1, hK1, hD1⟩ := hB
    rw [htr23] at hP1
    obtain ⟨hP, hD⟩ := va_join (wr := [(h_p1, .inr (0, [.ref h_p1_kinds, .ref h_p1_numbers, .int v_p1_size])), (h_p1_kinds, .inl (k_p1_kinds, 300, .inl (v_p1_kinds))), (h_p1_numbers, .inl (k_p1_numbers, 300, .inl (v_p1_numbers))), (h_this_waiting, .inl (k_this_waiting, 800, .inl (v_this_waiting)))]) (w1 := W_X3_writeVariable h_this h_this_signs k_this_signs (.ref h_this_waiting) (.int v_this_waitingSize) r23_this_first r23_this_signs) hP hD [3, 4] [0, 1, 2, 5] rfl rfl (by decide) (by decide) hk1 hFc hP1 hD1
    have hP := hP.sub (ws' := [(h_p1, .inr (0, [.ref h_p1_kinds, .ref h_p1_numbers, .int v_p1_size])), (h_p1_kinds, .inl (k_p1_kinds, 300, .inl (v_p1_kinds))), (h_p1_numbers, .inl (k_p1_numbers, 300, .inl (v_p1_numbers))), (h_this, .inr (3, [.ref h_this_signs, .int r23_this_first, .ref h_this_waiting, .int v_this_waitingSize])), (h_this_signs, .inl (k_this_signs, 800, .inl (r23_this_signs))), (h_this_waiting, .inl (k_this_waiting, 800, .inl (v_this_waiting)))]) [0, 1, 2, 4, 5, 3] rfl
    have hD := hD.sub (ws' := [(h_p1, .inr (0, [.ref h_p1_kinds, .ref h_p1_numbers, .int v_p1_size])), (h_p1_kinds, .inl (k_p1_kinds, 300, .inl (v_p1_kinds))), (h_p1_numbers, .inl (k_p1_numbers, 300, .inl (v_p1_numbers))), (h_this, .inr (3, [.ref h_this_signs, .int r23_this_first, .ref h_this_waiting, .int v_this_waitingSize])), (h_this_signs, .inl (k_this_signs, 800, .inl (r23_this_signs))), (h_this_waiting, .inl (k_this_waiting, 800, .inl (v_this_waiting)))]) [0, 1, 2, 4, 5, 3] (by decide) rfl
    generalize H1 = H at hP hS ⊢
    clear hk1 hz1
    refine lv_goto (tgt := 147) hx hb dX3_writeLine_107 (by decide) ?_
    obtain rfl := Option.some.inj h
    exact W.vret hx hb hr (fun t ht hW => ⟨⟨(r23_this_first, r23_this_signs, v_this_waiting, v_this_waitingSize), rfl, rfl, by rw [ht]; exact hP, va_K.moved hW.alike hK, hD⟩, hS.F ht⟩) hS.2.2 dX3_writeLine_147
  have h := it_f h s14
  by_cases s25 : r1 = 6
  · have h := it_t h s25
    refine lv_tableIn (tgt := 110) hx hb dX3_writeLine_27 (by rw [s25]; decide) (by rw [s25]; decide) (by rw [s25]; rfl) (by decide) ?_
    refine lv_aload_n hx hb dX3_writeLine_110 rfl (lv_at hl 2 rfl) ?_
    refine lv_aload_n hx hb dX3_writeLine_111 rfl (lv_at hl 3 rfl) ?_
    refine lv_iload_n hx hb dX3_writeLine_112 rfl (lv_at hl 4 rfl) ?_
    refine lv_iconst (v := 1) hx hb dX3_writeLine_113 (by decide) ?_
    refine lv_isub hx hb dX3_writeLine_114 ?_
    obtain ⟨⟨r26_this_first, r26_this_signs, r26_this_waiting, r26_this_waitingSize⟩, gr26, h⟩ := Option.bind_eq_some_iff.mp h
    try dsimp only at h
    have hPc := hP.sub (ws' := W_X3_writeTerm h_p1 h_p1_kinds h_p1_numbers h_this h_this_signs h_this_waiting k_p1_kinds k_p1_numbers k_this_signs k_this_waiting v_p1_kinds v_p1_numbers v_p1_size r5_this_first r5_this_signs v_this_waiting v_this_waitingSize) [0, 1, 2, 3, 4, 5] rfl
    have hDc := hD.sub (ws' := W_X3_writeTerm h_p1 h_p1_kinds h_p1_numbers h_this h_this_signs h_this_waiting k_p1_kinds k_p1_numbers k_this_signs k_this_waiting v_p1_kinds v_p1_numbers v_p1_size r5_this_first r5_this_signs v_this_waiting v_this_waitingSize) [0, 1, 2, 3, 4, 5] (by decide) rfl
    have hKc := hK.sub (tys' := [(k_p1_kinds, .int), (k_p1_numbers, .int), (k_this_signs, .char), (k_this_waiting, .int)]) [0, 1, 2, 3] rfl
    have hFc := va_free (wc := W_X3_writeTerm h_p1 h_p1_kinds h_p1_numbers h_this h_this_signs h_this_waiting k_p1_kinds k_p1_numbers k_this_signs k_this_waiting v_p1_kinds v_p1_numbers v_p1_size r5_this_first r5_this_signs v_this_waiting v_this_waitingSize) hD hS hA [0, 1, 2, 3, 4, 5] rfl
    refine va_callv (va_runV (As := [.ref h_p1, .int (a_p2 - 1)]) (rest := []) ⟨hx, hb, hml, hown, hts⟩ (c_X3_writeTerm l dC dI adK adV h_p1 h_p1_kinds h_p1_numbers h_this h_this_signs h_this_waiting k_p1_kinds k_p1_numbers k_this_signs k_this_waiting H.size v_p1_kinds v_p1_numbers v_p1_size r5_this_first r5_this_signs v_this_waiting v_this_waitingSize (a_p2 - 1) (r26_this_first, r26_this_signs, r26_this_waiting, r26_this_waitingSize) gr26) (cwV 2 hts gX3_writeLine_X3_writeTerm rfl rfl rfl hd_X3_writeTerm ⟨Nat.le_of_ble_eq_true rfl, Nat.le_of_ble_eq_true rfl⟩) (preVE hKc hPc hDc (va_recv hK hP (ci := 3) (q0 := 3) rfl rfl) (fun U hU hW => envp hE hS hFc hU hW)) rfl rfl hl.1 rfl (lv_room (Nat.le_of_ble_eq_true rfl)) dX3_writeLine_115 ⟨Nat.zero_le _, Nat.zero_le _⟩) hS (fun q _ h => hFc q h) hFc (fun ur26 tr26 H1 locs htr26 hvmr26 hw hB hz1 hk1 hS => ?_)
    obtain rfl := hw.symm
    obtain ⟨hP1, hK1, hD1⟩ := hB
    rw [htr26] at hP1
    obtain ⟨hP, hD⟩ := va_join (wr := []) (w1 := W_X3_writeTerm h_p1 h_p1_kinds h_p1_numbers h_this h_this_signs h_this_waiting k_p1_kinds k_p1_numbers k_this_signs k_this_waiting v_p1_kinds v_p1_numbers v_p1_size r26_this_first r26_this_signs r26_this_waiting r26_this_waitingSize) hP hD [0, 1, 2, 3, 4, 5] [] rfl rfl (by decide) (by decide) hk1 hFc hP1 hD1
    have hP := hP.sub (ws' := [(h_p1, .inr (0, [.ref h_p1_kinds, .ref h_p1_numbers, .int v_p1_size])), (h_p1_kinds, .inl (k_p1_kinds, 300, .inl (v_p1_kinds))), (h_p1_numbers, .inl (k_p1_numbers, 300, .inl (v_p1_numbers))), (h_this, .inr (3, [.ref h_this_signs, .int r26_this_first, .ref h_this_waiting, .int r26_this_waitingSize])), (h_this_signs, .inl (k_this_signs, 800, .inl (r26_this_signs))), (h_this_waiting, .inl (k_this_waiting, 800, .inl (r26_this_waiting)))]) [0, 1, 2, 3, 4, 5] rfl
    have hD := hD.sub (ws' := [(h_p1, .inr (0, [.ref h_p1_kinds, .ref h_p1_numbers, .int v_p1_size])), (h_p1_kinds, .inl (k_p1_kinds, 300, .inl (v_p1_kinds))), (h_p1_numbers, .inl (k_p1_numbers, 300, .inl (v_p1_numbers))), (h_this, .inr (3, [.ref h_this_signs, .int r26_this_first, .ref h_this_waiting, .int r26_this_waitingSize])), (h_this_signs, .inl (k_this_signs, 800, .inl (r26_this_signs))), (h_this_waiting, .inl (k_this_waiting, 800, .inl (r26_this_waiting)))]) [0, 1, 2, 3, 4, 5] (by decide) rfl
    generalize H1 = H at hP hS ⊢
    clear hk1 hz1
    refine lv_aload_n hx hb dX3_writeLine_118 rfl (lv_at hl 2 rfl) ?_
    refine va_ldcS hx hb hown hE.2.2.2.2.2.2.2.2.2.2.1 dX3_writeLine_119 ?_
    obtain ⟨⟨r28_this_first, r28_this_signs⟩, gr28, h⟩ := Option.bind_eq_some_iff.mp h
    try dsimp only at h
    have hPc := hP.sub (ws' := W_X3_writeText h_this h_this_signs k_this_signs (.ref h_this_waiting) (.int r26_this_waitingSize) r26_this_first r26_this_signs) [3, 4] rfl
    have hDc := hD.sub (ws' := W_X3_writeText h_this h_this_signs k_this_signs (.ref h_this_waiting) (.int r26_this_waitingSize) r26_this_first r26_this_signs) [3, 4] (by decide) rfl
    have hKc := hK.sub (tys' := [(k_this_signs, .char)]) [2] rfl
    have hFc := va_free (wc := W_X3_writeText h_this h_this_signs k_this_signs (.ref h_this_waiting) (.int r26_this_waitingSize) r26_this_first r26_this_signs) hD hS hA [3, 4] rfl
    refine va_callv (va_runV (As := [.ref (adK 3)]) (rest := []) ⟨hx, hb, hml, hown, hts⟩ (c_X3_writeText l dC dI adK adV h_this h_this_signs k_this_signs (.ref h_this_waiting) (.int r26_this_waitingSize) H.size r26_this_first r26_this_signs 3 (r28_this_first, r28_this_signs) gr28) (cwV 1 hts gX3_writeLine_X3_writeText rfl rfl rfl hd_X3_writeText ⟨Nat.le_of_ble_eq_true rfl, Nat.le_of_ble_eq_true rfl⟩) (preVE hKc hPc hDc (va_recv hK hP (ci := 3) (q0 := 3) rfl rfl) (fun U hU hW => envp hE hS hFc hU hW)) rfl rfl hl.1 rfl (lv_room (Nat.le_of_ble_eq_true rfl)) dX3_writeLine_121 ⟨Nat.zero_le _, Nat.zero_le _⟩) hS (fun q _ h => hFc q h) hFc (fun ur28 tr28 H1 locs htr28 hvmr28 hw hB hz1 hk1 hS => ?_)
    obtain rfl := hw.symm
    obtain ⟨hP1, hK1, hD1⟩ := hB
    rw [htr28] at hP1
    obtain ⟨hP, hD⟩ := va_join (wr := [(h_p1, .inr (0, [.ref h_p1_kinds, .ref h_p1_numbers, .int v_p1_size])), (h_p1_kinds, .inl (k_p1_kinds, 300, .inl (v_p1_kinds))), (h_p1_numbers, .inl (k_p1_numbers, 300, .inl (v_p1_numbers))), (h_this_waiting, .inl (k_this_waiting, 800, .inl (r26_this_waiting)))]) (w1 := W_X3_writeText h_this h_this_signs k_this_signs (.ref h_this_waiting) (.int r26_this_waitingSize) r28_this_first r28_this_signs) hP hD [3, 4] [0, 1, 2, 5] rfl rfl (by decide) (by decide) hk1 hFc hP1 hD1
    have hP := hP.sub (ws' := [(h_p1, .inr (0, [.ref h_p1_kinds, .ref h_p1_numbers, .int v_p1_size])), (h_p1_kinds, .inl (k_p1_kinds, 300, .inl (v_p1_kinds))), (h_p1_numbers, .inl (k_p1_numbers, 300, .inl (v_p1_numbers))), (h_this, .inr (3, [.ref h_this_signs, .int r28_this_first, .ref h_this_waiting, .int r26_this_waitingSize])), (h_this_signs, .inl (k_this_signs, 800, .inl (r28_this_signs))), (h_this_waiting, .inl (k_this_waiting, 800, .inl (r26_this_waiting)))]) [0, 1, 2, 4, 5, 3] rfl
    have hD := hD.sub (ws' := [(h_p1, .inr (0, [.ref h_p1_kinds, .ref h_p1_numbers, .int v_p1_size])), (h_p1_kinds, .inl (k_p1_kinds, 300, .inl (v_p1_kinds))), (h_p1_numbers, .inl (k_p1_numbers, 300, .inl (v_p1_numbers))), (h_this, .inr (3, [.ref h_this_signs, .int r28_this_first, .ref h_this_waiting, .int r26_this_waitingSize])), (h_this_signs, .inl (k_this_signs, 800, .inl (r28_this_signs))), (h_this_waiting, .inl (k_this_waiting, 800, .inl (r26_this_waiting)))]) [0, 1, 2, 4, 5, 3] (by decide) rfl
    generalize H1 = H at hP hS ⊢
    clear hk1 hz1
    refine lv_goto (tgt := 147) hx hb dX3_writeLine_124 (by decide) ?_
    obtain rfl := Option.some.inj h
    exact W.vret hx hb hr (fun t ht hW => ⟨⟨(r28_this_first, r28_this_signs, r26_this_waiting, r26_this_waitingSize), rfl, rfl, by rw [ht]; exact hP, va_K.moved hW.alike hK, hD⟩, hS.F ht⟩) hS.2.2 dX3_writeLine_147
  have h := it_f h s25
  refine lv_tableD (tgt := 127) hx hb dX3_writeLine_27 (by decide) (fun h1 h2 => by have es7 := lv_neT (a := 2) s7 rfl; have es14 := lv_neT (a := 3) s14 rfl; have es25 := lv_neT (a := 6) s25 rfl; have e9 : (r1 : Int32).toInt = 4 ∨ (r1 : Int32).toInt = 5 := (by omega); rcases e9 with e9 | e9 <;> (rw [e9]; rfl)) ?_
  refine lv_aload_n hx hb dX3_writeLine_127 rfl (lv_at hl 2 rfl) ?_
  refine lv_aload_n hx hb dX3_writeLine_128 rfl (lv_at hl 3 rfl) ?_
  refine lv_iload_n hx hb dX3_writeLine_129 rfl (lv_at hl 4 rfl) ?_
  refine lv_iconst (v := 1) hx hb dX3_writeLine_130 (by decide) ?_
  refine lv_isub hx hb dX3_writeLine_131 ?_
  obtain ⟨⟨r30_this_first, r30_this_signs, r30_this_waiting, r30_this_waitingSize⟩, gr30, h⟩ := Option.bind_eq_some_iff.mp h
  try dsimp only at h
  have hPc := hP.sub (ws' := W_X3_writeTerm h_p1 h_p1_kinds h_p1_numbers h_this h_this_signs h_this_waiting k_p1_kinds k_p1_numbers k_this_signs k_this_waiting v_p1_kinds v_p1_numbers v_p1_size r5_this_first r5_this_signs v_this_waiting v_this_waitingSize) [0, 1, 2, 3, 4, 5] rfl
  have hDc := hD.sub (ws' := W_X3_writeTerm h_p1 h_p1_kinds h_p1_numbers h_this h_this_signs h_this_waiting k_p1_kinds k_p1_numbers k_this_signs k_this_waiting v_p1_kinds v_p1_numbers v_p1_size r5_this_first r5_this_signs v_this_waiting v_this_waitingSize) [0, 1, 2, 3, 4, 5] (by decide) rfl
  have hKc := hK.sub (tys' := [(k_p1_kinds, .int), (k_p1_numbers, .int), (k_this_signs, .char), (k_this_waiting, .int)]) [0, 1, 2, 3] rfl
  have hFc := va_free (wc := W_X3_writeTerm h_p1 h_p1_kinds h_p1_numbers h_this h_this_signs h_this_waiting k_p1_kinds k_p1_numbers k_this_signs k_this_waiting v_p1_kinds v_p1_numbers v_p1_size r5_this_first r5_this_signs v_this_waiting v_this_waitingSize) hD hS hA [0, 1, 2, 3, 4, 5] rfl
  refine va_callv (va_runV (As := [.ref h_p1, .int (a_p2 - 1)]) (rest := []) ⟨hx, hb, hml, hown, hts⟩ (c_X3_writeTerm l dC dI adK adV h_p1 h_p1_kinds h_p1_numbers h_this h_this_signs h_this_waiting k_p1_kinds k_p1_numbers k_this_signs k_this_waiting H.size v_p1_kinds v_p1_numbers v_p1_size r5_this_first r5_this_signs v_this_waiting v_this_waitingSize (a_p2 - 1) (r30_this_first, r30_this_signs, r30_this_waiting, r30_this_waitingSize) gr30) (cwV 2 hts gX3_writeLine_X3_writeTerm rfl rfl rfl hd_X3_writeTerm ⟨Nat.le_of_ble_eq_true rfl, Nat.le_of_ble_eq_true rfl⟩) (preVE hKc hPc hDc (va_recv hK hP (ci := 3) (q0 := 3) rfl rfl) (fun U hU hW => envp hE hS hFc hU hW)) rfl rfl hl.1 rfl (lv_room (Nat.le_of_ble_eq_true rfl)) dX3_writeLine_132 ⟨Nat.zero_le _, Nat.zero_le _⟩) hS (fun q _ h => hFc q h) hFc (fun ur30 tr30 H1 locs htr30 hvmr30 hw hB hz1 hk1 hS => ?_)
  obtain rfl := hw.symm
  obtain ⟨hP1, hK1, hD1⟩ := hB
  rw [htr30] at hP1
  obtain ⟨hP, hD⟩ := va_join (wr := []) (w1 := W_X3_writeTerm h_p1 h_p1_kinds h_p1_numbers h_this h_this_signs h_this_waiting k_p1_kinds k_p1_numbers k_this_signs k_this_waiting v_p1_kinds v_p1_numbers v_p1_size r30_this_first r30_this_signs r30_this_waiting r30_this_waitingSize) hP hD [0, 1, 2, 3, 4, 5] [] rfl rfl (by decide) (by decide) hk1 hFc hP1 hD1
  have hP := hP.sub (ws' := [(h_p1, .inr (0, [.ref h_p1_kinds, .ref h_p1_numbers, .int v_p1_size])), (h_p1_kinds, .inl (k_p1_kinds, 300, .inl (v_p1_kinds))), (h_p1_numbers, .inl (k_p1_numbers, 300, .inl (v_p1_numbers))), (h_this, .inr (3, [.ref h_this_signs, .int r30_this_first, .ref h_this_waiting, .int r30_this_waitingSize])), (h_this_signs, .inl (k_this_signs, 800, .inl (r30_this_signs))), (h_this_waiting, .inl (k_this_waiting, 800, .inl (r30_this_waiting)))]) [0, 1, 2, 3, 4, 5] rfl
  have hD := hD.sub (ws' := [(h_p1, .inr (0, [.ref h_p1_kinds, .ref h_p1_numbers, .int v_p1_size])), (h_p1_kinds, .inl (k_p1_kinds, 300, .inl (v_p1_kinds))), (h_p1_numbers, .inl (k_p1_numbers, 300, .inl (v_p1_numbers))), (h_this, .inr (3, [.ref h_this_signs, .int r30_this_first, .ref h_this_waiting, .int r30_this_waitingSize])), (h_this_signs, .inl (k_this_signs, 800, .inl (r30_this_signs))), (h_this_waiting, .inl (k_this_waiting, 800, .inl (r30_this_waiting)))]) [0, 1, 2, 3, 4, 5] (by decide) rfl
  generalize H1 = H at hP hS ⊢
  clear hk1 hz1
  refine lv_aload_n hx hb dX3_writeLine_135 rfl (lv_at hl 2 rfl) ?_
  refine va_ldcS hx hb hown hE.2.2.2.2.2.2.2.2.1 dX3_writeLine_136 ?_
  obtain ⟨⟨r32_this_first, r32_this_signs⟩, gr32, h⟩ := Option.bind_eq_some_iff.mp h
  try dsimp only at h
  have hPc := hP.sub (ws' := W_X3_writeText h_this h_this_signs k_this_signs (.ref h_this_waiting) (.int r30_this_waitingSize) r30_this_first r30_this_signs) [3, 4] rfl
  have hDc := hD.sub (ws' := W_X3_writeText h_this h_this_signs k_this_signs (.ref h_this_waiting) (.int r30_this_waitingSize) r30_this_first r30_this_signs) [3, 4] (by decide) rfl
  have hKc := hK.sub (tys' := [(k_this_signs, .char)]) [2] rfl
  have hFc := va_free (wc := W_X3_writeText h_this h_this_signs k_this_signs (.ref h_this_waiting) (.int r30_this_waitingSize) r30_this_first r30_this_signs) hD hS hA [3, 4] rfl
  refine va_callv (va_runV (As := [.ref (adK 1)]) (rest := []) ⟨hx, hb, hml, hown, hts⟩ (c_X3_writeText l dC dI adK adV h_this h_this_signs k_this_signs (.ref h_this_waiting) (.int r30_this_waitingSize) H.size r30_this_first r30_this_signs 1 (r32_this_first, r32_this_signs) gr32) (cwV 1 hts gX3_writeLine_X3_writeText rfl rfl rfl hd_X3_writeText ⟨Nat.le_of_ble_eq_true rfl, Nat.le_of_ble_eq_true rfl⟩) (preVE hKc hPc hDc (va_recv hK hP (ci := 3) (q0 := 3) rfl rfl) (fun U hU hW => envp hE hS hFc hU hW)) rfl rfl hl.1 rfl (lv_room (Nat.le_of_ble_eq_true rfl)) dX3_writeLine_138 ⟨Nat.zero_le _, Nat.zero_le _⟩) hS (fun q _ h => hFc q h) hFc (fun ur32 tr32 H1 locs htr32 hvmr32 hw hB hz1 hk1 hS => ?_)
  obtain rfl := hw.symm
  obtain ⟨hP1, hK1, hD1⟩ := hB
  rw [htr32] at hP1
  obtain ⟨hP, hD⟩ := va_join (wr := [(h_p1, .inr (0, [.ref h_p1_kinds, .ref h_p1_numbers, .int v_p1_size])), (h_p1_kinds, .inl (k_p1_kinds, 300, .inl (v_p1_kinds))), (h_p1_numbers, .inl (k_p1_numbers, 300, .inl (v_p1_numbers))), (h_this_waiting, .inl (k_this_waiting, 800, .inl (r30_this_waiting)))]) (w1 := W_X3_writeText h_this h_this_signs k_this_signs (.ref h_this_waiting) (.int r30_this_waitingSize) r32_this_first r32_this_signs) hP hD [3, 4] [0, 1, 2, 5] rfl rfl (by decide) (by decide) hk1 hFc hP1 hD1
  have hP := hP.sub (ws' := [(h_p1, .inr (0, [.ref h_p1_kinds, .ref h_p1_numbers, .int v_p1_size])), (h_p1_kinds, .inl (k_p1_kinds, 300, .inl (v_p1_kinds))), (h_p1_numbers, .inl (k_p1_numbers, 300, .inl (v_p1_numbers))), (h_this, .inr (3, [.ref h_this_signs, .int r32_this_first, .ref h_this_waiting, .int r30_this_waitingSize])), (h_this_signs, .inl (k_this_signs, 800, .inl (r32_this_signs))), (h_this_waiting, .inl (k_this_waiting, 800, .inl (r30_this_waiting)))]) [0, 1, 2, 4, 5, 3] rfl
  have hD := hD.sub (ws' := [(h_p1, .inr (0, [.ref h_p1_kinds, .ref h_p1_numbers, .int v_p1_size])), (h_p1_kinds, .inl (k_p1_kinds, 300, .inl (v_p1_kinds))), (h_p1_numbers, .inl (k_p1_numbers, 300, .inl (v_p1_numbers))), (h_this, .inr (3, [.ref h_this_signs, .int r32_this_first, .ref h_this_waiting, .int r30_this_waitingSize])), (h_this_signs, .inl (k_this_signs, 800, .inl (r32_this_signs))), (h_this_waiting, .inl (k_this_waiting, 800, .inl (r30_this_waiting)))]) [0, 1, 2, 4, 5, 3] (by decide) rfl
  generalize H1 = H at hP hS ⊢
  clear hk1 hz1
  refine lv_aload_n hx hb dX3_writeLine_141 rfl (lv_at hl 2 rfl) ?_
  refine lv_iload hx hb dX3_writeLine_142 (lv_at hl 0 rfl) ?_
  obtain ⟨⟨r34_this_first, r34_this_signs⟩, gr34, h⟩ := Option.bind_eq_some_iff.mp h
  try dsimp only at h
  have hPc := hP.sub (ws' := W_X3_writeTemporary h_this h_this_signs k_this_signs (.ref h_this_waiting) (.int r30_this_waitingSize) r32_this_first r32_this_signs) [3, 4] rfl
  have hDc := hD.sub (ws' := W_X3_writeTemporary h_this h_this_signs k_this_signs (.ref h_this_waiting) (.int r30_this_waitingSize) r32_this_first r32_this_signs) [3, 4] (by decide) rfl
  have hKc := hK.sub (tys' := [(k_this_signs, .char)]) [2] rfl
  have hFc := va_free (wc := W_X3_writeTemporary h_this h_this_signs k_this_signs (.ref h_this_waiting) (.int r30_this_waitingSize) r32_this_first r32_this_signs) hD hS hA [3, 4] rfl
  refine va_callv (va_runV (As := [.int r3]) (rest := []) ⟨hx, hb, hml, hown, hts⟩ (c_X3_writeTemporary l dC dI h_this h_this_signs k_this_signs (.ref h_this_waiting) (.int r30_this_waitingSize) H.size r32_this_first r32_this_signs r3 (r34_this_first, r34_this_signs) gr34) (cwV 1 hts gX3_writeLine_X3_writeTemporary rfl rfl rfl hd_X3_writeTemporary ⟨Nat.le_of_ble_eq_true rfl, Nat.le_of_ble_eq_true rfl⟩) (preV hKc hPc hDc (va_recv hK hP (ci := 3) (q0 := 3) rfl rfl)) rfl rfl hl.1 rfl (lv_room (Nat.le_of_ble_eq_true rfl)) dX3_writeLine_144 ⟨Nat.zero_le _, Nat.zero_le _⟩) hS (fun q _ h => hFc q h) hFc (fun ur34 tr34 H1 locs htr34 hvmr34 hw hB hz1 hk1 hS => ?_)
  obtain rfl := hw.symm
  obtain ⟨hP1, hK1, hD1⟩ := hB
  rw [htr34] at hP1
  obtain ⟨hP, hD⟩ := va_join (wr := [(h_p1, .inr (0, [.ref h_p1_kinds, .ref h_p1_numbers, .int v_p1_size])), (h_p1_kinds, .inl (k_p1_kinds, 300, .inl (v_p1_kinds))), (h_p1_numbers, .inl (k_p1_numbers, 300, .inl (v_p1_numbers))), (h_this_waiting, .inl (k_this_waiting, 800, .inl (r30_this_waiting)))]) (w1 := W_X3_writeTemporary h_this h_this_signs k_this_signs (.ref h_this_waiting) (.int r30_this_waitingSize) r34_this_first r34_this_signs) hP hD [3, 4] [0, 1, 2, 5] rfl rfl (by decide) (by decide) hk1 hFc hP1 hD1
  have hP := hP.sub (ws' := [(h_p1, .inr (0, [.ref h_p1_kinds, .ref h_p1_numbers, .int v_p1_size])), (h_p1_kinds, .inl (k_p1_kinds, 300, .inl (v_p1_kinds))), (h_p1_numbers, .inl (k_p1_numbers, 300, .inl (v_p1_numbers))), (h_this, .inr (3, [.ref h_this_signs, .int r34_this_first, .ref h_this_waiting, .int r30_this_waitingSize])), (h_this_signs, .inl (k_this_signs, 800, .inl (r34_this_signs))), (h_this_waiting, .inl (k_this_waiting, 800, .inl (r30_this_waiting)))]) [0, 1, 2, 4, 5, 3] rfl
  have hD := hD.sub (ws' := [(h_p1, .inr (0, [.ref h_p1_kinds, .ref h_p1_numbers, .int v_p1_size])), (h_p1_kinds, .inl (k_p1_kinds, 300, .inl (v_p1_kinds))), (h_p1_numbers, .inl (k_p1_numbers, 300, .inl (v_p1_numbers))), (h_this, .inr (3, [.ref h_this_signs, .int r34_this_first, .ref h_this_waiting, .int r30_this_waitingSize])), (h_this_signs, .inl (k_this_signs, 800, .inl (r34_this_signs))), (h_this_waiting, .inl (k_this_waiting, 800, .inl (r30_this_waiting)))]) [0, 1, 2, 4, 5, 3] (by decide) rfl
  generalize H1 = H at hP hS ⊢
  clear hk1 hz1
  obtain rfl := Option.some.inj h
  exact W.vret hx hb hr (fun t ht hW => ⟨⟨(r34_this_first, r34_this_signs, r30_this_waiting, r30_this_waitingSize), rfl, rfl, by rw [ht]; exact hP, va_K.moved hW.alike hK, hD⟩, hS.F ht⟩) hS.2.2 dX3_writeLine_147
