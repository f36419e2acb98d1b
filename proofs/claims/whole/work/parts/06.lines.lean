abbrev W_X5_isSide : va_W := []
def f_X5_isSide (a_p1 : Int32) : Option (Int32 × Unit) := if a_p1 = 0 then some (1, ()) else if a_p1 = 1 then some (1, ()) else some (0, ())
theorem hdn_X5_isSide : yX5_isSide.cls ≠ "java/lang/invoke/MethodHandle" ∧ yX5_isSide.cls ≠ "java/lang/invoke/VarHandle" ∧ (parseMethodDescriptor yX5_isSide.desc).map (fun d => d.parameters.length) = some 1 := by decide +kernel
set_option maxHeartbeats 4000000 in
set_option maxRecDepth 100000 in
theorem c_X5_isSide (l : Launch) (dC : Nat → ClassId) (dI : Nat → Nat → Nat) (sz : Nat) (a_p1 : Int32) (res : Int32 × Unit) (hd : f_X5_isSide a_p1 = some res) : Met l yX5_isSide wsX5_isSide ({ frames := 0, cells := 0, slots := 0, locals := 0 }) (va_Pc [.int a_p1] (fun U => mPre dC dI ([]) [] sz U)) (va_Qi (fun (r : Int32) (u : Unit) => r = res.1 ∧ u = res.2) (fun (u : Unit) t => mPost dC dI (va_A ([]) sz) ([]) [] t) (va_A ([]) sz)) 0 0 (va_A ([]) sz) := by
  refine Met.ofW (cc := cX5_isSide) (maxL := 1) (ret := (some .boolean)) (by decide) rfl ?_
  intro p e s m args below meth c s₁ B hml hv
  obtain ⟨rfl, ⟨hsz, hP, hK, hD0⟩⟩ := hv
  have hx := B.exec
  have hb := B.bytes
  have hr := B.returns
  have hts := atoms_spec (ws := wsX5_isSide) B.pre
  have hown : s.vm.findClass RX5 = some m.cls := findClass_of_methodNamed B.named
  have hlocks := B.notSynchronized
  subst hsz
  have hD := hD0.self (sz := s.heap.size)
  generalize hAe : va_A ([]) s.heap.size = A at hD ⊢
  have hA : ∀ q : Nat, s.heap.size ≤ q → A q := fun q h => by rw [← hAe]; exact Or.inr h
  clear hAe hD0
  have hS : va_S A s.heap s.heap [] := va_S.rf
  have hl := lv_entry ([.int a_p1]) (n := 1) (Nat.le_of_ble_eq_true rfl)
  rw [lg_entry_eq]
  generalize (lg_sl ([.int a_p1]) ++ List.replicate (1 - (lg_sl ([.int a_p1])).length) Slot.unset).toArray = ls at hl ⊢
  have hl : lv_has ls 1 [(0, .int a_p1)] := hl
  have h := hd
  unfold f_X5_isSide at h
  obtain ⟨H, hHe⟩ : ∃ H, H = s.heap := ⟨_, rfl⟩
  obtain ⟨locs, hLe⟩ : ∃ L : List Loc, L = [] := ⟨_, rfl⟩
  have hS : va_S A s.heap H locs := by rw [hHe, hLe]; exact hS
  have hP : va_P (dC, dI) vwCl [] H := by rw [hHe]; exact hP
  rw [show W p l e (headSpec wsX5_isSide ({ frames := 0, cells := 0, slots := 0, locals := 0 })).room s m [.int a_p1].toArray below meth c s.heap [] 0 0 = W p l e (headSpec wsX5_isSide ({ frames := 0, cells := 0, slots := 0, locals := 0 })).room s m [.int a_p1].toArray below meth c H locs 0 0 by rw [hHe, hLe]]
  clear hHe hLe
  refine lv_iload_n hx hb dX5_isSide_0 rfl (lv_at hl 0 rfl) ?_
  refine lv_if_eq (tgt := 9) hx hb dX5_isSide_1 (by decide) (fun c1 => ?_) (fun c1 => ?_)
  · have h := it_t h c1
    refine lv_iconst (v := 1) hx hb dX5_isSide_9 (by decide) ?_
    refine lv_goto (tgt := 14) hx hb dX5_isSide_10 (by decide) ?_
    obtain rfl := Option.some.inj h
    exact W.zret (v := 1) hx hb hr (by decide) (fun t ht hW => ⟨⟨1, (), rfl, ⟨rfl, rfl⟩, by rw [ht]; exact hP, va_K.moved hW.alike hK, hD⟩, hS.F ht⟩) hS.2.2 dX5_isSide_14
  · have h := it_f h c1
    refine lv_iload_n hx hb dX5_isSide_4 rfl (lv_at hl 0 rfl) ?_
    refine lv_iconst (v := 1) hx hb dX5_isSide_5 (by decide) ?_
    refine lv_icmp_ne (tgt := 13) hx hb dX5_isSide_6 (by decide) (fun c2 => ?_) (fun c2 => ?_)
    · have h := it_f h c2
      refine lv_iconst (v := 0) hx hb dX5_isSide_13 (by decide) ?_
      obtain rfl := Option.some.inj h
      exact W.zret (v := 0) hx hb hr (by decide) (fun t ht hW => ⟨⟨0, (), rfl, ⟨rfl, rfl⟩, by rw [ht]; exact hP, va_K.moved hW.alike hK, hD⟩, hS.F ht⟩) hS.2.2 dX5_isSide_14
    · have h := it_t h c2
      refine lv_iconst (v := 1) hx hb dX5_isSide_9 (by decide) ?_
      refine lv_goto (tgt := 14) hx hb dX5_isSide_10 (by decide) ?_
      obtain rfl := Option.some.inj h
      exact W.zret (v := 1) hx hb hr (by decide) (fun t ht hW => ⟨⟨1, (), rfl, ⟨rfl, rfl⟩, by rw [ht]; exact hP, va_K.moved hW.alike hK, hD⟩, hS.F ht⟩) hS.2.2 dX5_isSide_14
abbrev W_X5_isVariable : va_W := []
def f_X5_isVariable (a_p1 : Int32) : Option (Int32 × Unit) := if a_p1 < 0 then some (0, ()) else if 10 ≤ a_p1 then some (0, ()) else some (1, ())
theorem hdn_X5_isVariable : yX5_isVariable.cls ≠ "java/lang/invoke/MethodHandle" ∧ yX5_isVariable.cls ≠ "java/lang/invoke/VarHandle" ∧ (parseMethodDescriptor yX5_isVariable.desc).map (fun d => d.parameters.length) = some 1 := by decide +kernel
set_option maxHeartbeats 4000000 in
set_option maxRecDepth 100000 in
theorem c_X5_isVariable (l : Launch) (dC : Nat → ClassId) (dI : Nat → Nat → Nat) (sz : Nat) (a_p1 : Int32) (res : Int32 × Unit) (hd : f_X5_isVariable a_p1 = some res) : Met l yX5_isVariable wsX5_isVariable ({ frames := 0, cells := 0, slots := 0, locals := 0 }) (va_Pc [.int a_p1] (fun U => mPre dC dI ([]) [] sz U)) (va_Qi (fun (r : Int32) (u : Unit) => r = res.1 ∧ u = res.2) (fun (u : Unit) t => mPost dC dI (va_A ([]) sz) ([]) [] t) (va_A ([]) sz)) 0 0 (va_A ([]) sz) := by
  refine Met.ofW (cc := cX5_isVariable) (maxL := 1) (ret := (some .boolean)) (by decide) rfl ?_
  intro p e s m args below meth c s₁ B hml hv
  obtain ⟨rfl, ⟨hsz, hP, hK, hD0⟩⟩ := hv
  have hx := B.exec
  have hb := B.bytes
  have hr := B.returns
  have hts := atoms_spec (ws := wsX5_isVariable) B.pre
  have hown : s.vm.findClass RX5 = some m.cls := findClass_of_methodNamed B.named
  have hlocks := B.notSynchronized
  subst hsz
  have hD := hD0.self (sz := s.heap.size)
  generalize hAe : va_A ([]) s.heap.size = A at hD ⊢
  have hA : ∀ q : Nat, s.heap.size ≤ q → A q := fun q h => by rw [← hAe]; exact Or.inr h
  clear hAe hD0
  have hS : va_S A s.heap s.heap [] := va_S.rf
  have hl := lv_entry ([.int a_p1]) (n := 1) (Nat.le_of_ble_eq_true rfl)
  rw [lg_entry_eq]
  generalize (lg_sl ([.int a_p1]) ++ List.replicate (1 - (lg_sl ([.int a_p1])).length) Slot.unset).toArray = ls at hl ⊢
  have hl : lv_has ls 1 [(0, .int a_p1)] := hl
  have h := hd
  unfold f_X5_isVariable at h
  obtain ⟨H, hHe⟩ : ∃ H, H = s.heap := ⟨_, rfl⟩
  obtain ⟨locs, hLe⟩ : ∃ L : List Loc, L = [] := ⟨_, rfl⟩
  have hS : va_S A s.heap H locs := by rw [hHe, hLe]; exact hS
  have hP : va_P (dC, dI) vwCl [] H := by rw [hHe]; exact hP
  rw [show W p l e (headSpec wsX5_isVariable ({ frames := 0, cells := 0, slots := 0, locals := 0 })).room s m [.int a_p1].toArray below meth c s.heap [] 0 0 = W p l e (headSpec wsX5_isVariable ({ frames := 0, cells := 0, slots := 0, locals := 0 })).room s m [.int a_p1].toArray below meth c H locs 0 0 by rw [hHe, hLe]]
  clear hHe hLe
  refine lv_iload_n hx hb dX5_isVariable_0 rfl (lv_at hl 0 rfl) ?_
  refine lv_if_lt (tgt := 14) hx hb dX5_isVariable_1 (by decide) (fun c1 => ?_) (fun c1 => ?_)
  · have h := it_t h c1
    refine lv_iconst (v := 0) hx hb dX5_isVariable_14 (by decide) ?_
    obtain rfl := Option.some.inj h
    exact W.zret (v := 0) hx hb hr (by decide) (fun t ht hW => ⟨⟨0, (), rfl, ⟨rfl, rfl⟩, by rw [ht]; exact hP, va_K.moved hW.alike hK, hD⟩, hS.F ht⟩) hS.2.2 dX5_isVariable_15
  · have h := it_f h c1
    refine lv_iload_n hx hb dX5_isVariable_4 rfl (lv_at hl 0 rfl) ?_
    refine lv_bipush (v := 10) hx hb dX5_isVariable_5 (by decide) ?_
    refine lv_icmp_ge (tgt := 14) hx hb dX5_isVariable_7 (by decide) (fun c2 => ?_) (fun c2 => ?_)
    · have h := it_t h c2
      refine lv_iconst (v := 0) hx hb dX5_isVariable_14 (by decide) ?_
      obtain rfl := Option.some.inj h
      exact W.zret (v := 0) hx hb hr (by decide) (fun t ht hW => ⟨⟨0, (), rfl, ⟨rfl, rfl⟩, by rw [ht]; exact hP, va_K.moved hW.alike hK, hD⟩, hS.F ht⟩) hS.2.2 dX5_isVariable_15
    · have h := it_f h c2
      refine lv_iconst (v := 1) hx hb dX5_isVariable_10 (by decide) ?_
      refine lv_goto (tgt := 15) hx hb dX5_isVariable_11 (by decide) ?_
      obtain rfl := Option.some.inj h
      exact W.zret (v := 1) hx hb hr (by decide) (fun t ht hW => ⟨⟨1, (), rfl, ⟨rfl, rfl⟩, by rw [ht]; exact hP, va_K.moved hW.alike hK, hD⟩, hS.F ht⟩) hS.2.2 dX5_isVariable_15
abbrev W_X5_isAct : va_W := []
def f_X5_isAct (a_p1 : Int32) (a_p2 : Int32) : Option (Int32 × Unit) := if a_p1 < 0 then some (0, ()) else if 10 < a_p1 then some (0, ()) else ixd a_p1 11 (if a_p2 < (tb_LEAST_NUMBER a_p1.toNatClampNeg) then some (0, ()) else ixd a_p1 11 (if (tb_MOST_NUMBER a_p1.toNatClampNeg) < a_p2 then some (0, ()) else some (1, ())))
theorem hdn_X5_isAct : yX5_isAct.cls ≠ "java/lang/invoke/MethodHandle" ∧ yX5_isAct.cls ≠ "java/lang/invoke/VarHandle" ∧ (parseMethodDescriptor yX5_isAct.desc).map (fun d => d.parameters.length) = some 2 := by decide +kernel
set_option maxHeartbeats 4000000 in
set_option maxRecDepth 100000 in
theorem c_X5_isAct (l : Launch) (dC : Nat → ClassId) (dI : Nat → Nat → Nat) (adK adV : Nat → Nat) (sz : Nat) (a_p1 : Int32) (a_p2 : Int32) (res : Int32 × Unit) (hd : f_X5_isAct a_p1 a_p2 = some res) : Met l yX5_isAct wsX5_isAct ({ frames := 0, cells := 0, slots := 0, locals := 0 }) (va_Pc [.int a_p1, .int a_p2] (fun U => mPre dC dI ([]) [] sz U ∧ env adK adV (va_A ([]) sz) U U.heap)) (va_Qi (fun (r : Int32) (u : Unit) => r = res.1 ∧ u = res.2) (fun (u : Unit) t => mPost dC dI (va_A ([]) sz) ([]) [] t) (va_A ([]) sz)) 0 0 (va_A ([]) sz) := by
  refine Met.ofW (cc := cX5_isAct) (maxL := 2) (ret := (some .boolean)) (by decide) rfl ?_
  intro p e s m args below meth c s₁ B hml hv
  obtain ⟨rfl, ⟨hsz, hP, hK, hD0⟩, hE⟩ := hv
  have hx := B.exec
  have hb := B.bytes
  have hr := B.returns
  have hts := atoms_spec (ws := wsX5_isAct) B.pre
  have hown : s.vm.findClass RX5 = some m.cls := findClass_of_methodNamed B.named
  have hlocks := B.notSynchronized
  have w_1 := hts (.fieldLink RX5 155 "TermPile" "LEAST_NUMBER" "[I") (by decide +kernel)
  have w_2 := hts (.fieldLink RX5 158 "TermPile" "MOST_NUMBER" "[I") (by decide +kernel)
  subst hsz
  have hD := hD0.self (sz := s.heap.size)
  generalize hAe : va_A ([]) s.heap.size = A at hD hE ⊢
  have hA : ∀ q : Nat, s.heap.size ≤ q → A q := fun q h => by rw [← hAe]; exact Or.inr h
  clear hAe hD0
  have hS : va_S A s.heap s.heap [] := va_S.rf
  have hl := lv_entry ([.int a_p1, .int a_p2]) (n := 2) (Nat.le_of_ble_eq_true rfl)
  rw [lg_entry_eq]
  generalize (lg_sl ([.int a_p1, .int a_p2]) ++ List.replicate (2 - (lg_sl ([.int a_p1, .int a_p2])).length) Slot.unset).toArray = ls at hl ⊢
  have hl : lv_has ls 2 [(0, .int a_p1), (1, .int a_p2)] := hl
  have h := hd
  unfold f_X5_isAct at h
  obtain ⟨H, hHe⟩ : ∃ H, H = s.heap := ⟨_, rfl⟩
  obtain ⟨locs, hLe⟩ : ∃ L : List Loc, L = [] := ⟨_, rfl⟩
  have hS : va_S A s.heap H locs := by rw [hHe, hLe]; exact hS
  have hP : va_P (dC, dI) vwCl [] H := by rw [hHe]; exact hP
  rw [show W p l e (headSpec wsX5_isAct ({ frames := 0, cells := 0, slots := 0, locals := 0 })).room s m [.int a_p1, .int a_p2].toArray below meth c s.heap [] 0 0 = W p l e (headSpec wsX5_isAct ({ frames := 0, cells := 0, slots := 0, locals := 0 })).room s m [.int a_p1, .int a_p2].toArray below meth c H locs 0 0 by rw [hHe, hLe]]
  clear hHe hLe
  refine lv_iload_n hx hb dX5_isAct_0 rfl (lv_at hl 0 rfl) ?_
  refine lv_if_lt (tgt := 32) hx hb dX5_isAct_1 (by decide) (fun c1 => ?_) (fun c1 => ?_)
  · have h := it_t h c1
    refine lv_iconst (v := 0) hx hb dX5_isAct_32 (by decide) ?_
    obtain rfl := Option.some.inj h
    exact W.zret (v := 0) hx hb hr (by decide) (fun t ht hW => ⟨⟨0, (), rfl, ⟨rfl, rfl⟩, by rw [ht]; exact hP, va_K.moved hW.alike hK, hD⟩, hS.F ht⟩) hS.2.2 dX5_isAct_33
  · have h := it_f h c1
    refine lv_iload_n hx hb dX5_isAct_4 rfl (lv_at hl 0 rfl) ?_
    refine lv_bipush (v := 10) hx hb dX5_isAct_5 (by decide) ?_
    refine lv_icmp_gt (tgt := 32) hx hb dX5_isAct_7 (by decide) (fun c2 => ?_) (fun c2 => ?_)
    · have h := it_t h c2
      refine lv_iconst (v := 0) hx hb dX5_isAct_32 (by decide) ?_
      obtain rfl := Option.some.inj h
      exact W.zret (v := 0) hx hb hr (by decide) (fun t ht hW => ⟨⟨0, (), rfl, ⟨rfl, rfl⟩, by rw [ht]; exact hP, va_K.moved hW.alike hK, hD⟩, hS.F ht⟩) hS.2.2 dX5_isAct_33
    · have h := it_f h c2
      refine lv_iload_n hx hb dX5_isAct_10 rfl (lv_at hl 1 rfl) ?_
      obtain ⟨t_LEAST_NUMBER, z_LEAST_NUMBER, T_LEAST_NUMBER⟩ := hE.2.2.2.1
      refine va_gets hx hb z_LEAST_NUMBER hS hown w_1 (fun _ h9 => h9) dX5_isAct_11 ?_
      refine lv_iload_n hx hb dX5_isAct_14 rfl (lv_at hl 0 rfl) ?_
      obtain ⟨i3, h⟩ := ixd_ok h
      refine va_ti hx hb T_LEAST_NUMBER hS i3 rfl dX5_isAct_15 ?_
      refine lv_icmp_lt (tgt := 32) hx hb dX5_isAct_16 (by decide) (fun c4 => ?_) (fun c4 => ?_)
      · have h := it_t h c4
        refine lv_iconst (v := 0) hx hb dX5_isAct_32 (by decide) ?_
        obtain rfl := Option.some.inj h
        exact W.zret (v := 0) hx hb hr (by decide) (fun t ht hW => ⟨⟨0, (), rfl, ⟨rfl, rfl⟩, by rw [ht]; exact hP, va_K.moved hW.alike hK, hD⟩, hS.F ht⟩) hS.2.2 dX5_isAct_33
      · have h := it_f h c4
        refine lv_iload_n hx hb dX5_isAct_19 rfl (lv_at hl 1 rfl) ?_
        obtain ⟨t_MOST_NUMBER, z_MOST_NUMBER, T_MOST_NUMBER⟩ := hE.2.2.2.2.1
        refine va_gets hx hb z_MOST_NUMBER hS hown w_2 (fun _ h9 => h9) dX5_isAct_20 ?_
        refine lv_iload_n hx hb dX5_isAct_23 rfl (lv_at hl 0 rfl) ?_
        obtain ⟨i5, h⟩ := ixd_ok h
        refine va_ti hx hb T_MOST_NUMBER hS i5 rfl dX5_isAct_24 ?_
        refine lv_icmp_gt (tgt := 32) hx hb dX5_isAct_25 (by decide) (fun c6 => ?_) (fun c6 => ?_)
        · have h := it_t h c6
          refine lv_iconst (v := 0) hx hb dX5_isAct_32 (by decide) ?_
          obtain rfl := Option.some.inj h
          exact W.zret (v := 0) hx hb hr (by decide) (fun t ht hW => ⟨⟨0, (), rfl, ⟨rfl, rfl⟩, by rw [ht]; exact hP, va_K.moved hW.alike hK, hD⟩, hS.F ht⟩) hS.2.2 dX5_isAct_33
        · have h := it_f h c6
          refine lv_iconst (v := 1) hx hb dX5_isAct_28 (by decide) ?_
          refine lv_goto (tgt := 33) hx hb dX5_isAct_29 (by decide) ?_
          obtain rfl := Option.some.inj h
          exact W.zret (v := 1) hx hb hr (by decide) (fun t ht hW => ⟨⟨1, (), rfl, ⟨rfl, rfl⟩, by rw [ht]; exact hP, va_K.moved hW.alike hK, hD⟩, hS.F ht⟩) hS.2.2 dX5_isAct_33
abbrev W_X5_takenBy : va_W := []
def f_X5_takenBy (a_p1 : Int32) (a_p2 : Int32) : Option (Int32 × Unit) := if a_p1 = 10 then some (a_p2, ()) else ixd a_p1 11 (some (tb_TAKES a_p1.toNatClampNeg, ()))
theorem hdn_X5_takenBy : yX5_takenBy.cls ≠ "java/lang/invoke/MethodHandle" ∧ yX5_takenBy.cls ≠ "java/lang/invoke/VarHandle" ∧ (parseMethodDescriptor yX5_takenBy.desc).map (fun d => d.parameters.length) = some 2 := by decide +kernel
set_option maxHeartbeats 4000000 in
set_option maxRecDepth 100000 in
theorem c_X5_takenBy (l : Launch) (dC : Nat → ClassId) (dI : Nat → Nat → Nat) (adK adV : Nat → Nat) (sz : Nat) (a_p1 : Int32) (a_p2 : Int32) (res : Int32 × Unit) (hd : f_X5_takenBy a_p1 a_p2 = some res) : Met l yX5_takenBy wsX5_takenBy ({ frames := 0, cells := 0, slots := 0, locals := 0 }) (va_Pc [.int a_p1, .int a_p2] (fun U => mPre dC dI ([]) [] sz U ∧ env adK adV (va_A ([]) sz) U U.heap)) (va_Qi (fun (r : Int32) (u : Unit) => r = res.1 ∧ u = res.2) (fun (u : Unit) t => mPost dC dI (va_A ([]) sz) ([]) [] t) (va_A ([]) sz)) 0 0 (va_A ([]) sz) := by
  refine Met.ofW (cc := cX5_takenBy) (maxL := 2) (ret := (some .int)) (by decide) rfl ?_
  intro p e s m args below meth c s₁ B hml hv
  obtain ⟨rfl, ⟨hsz, hP, hK, hD0⟩, hE⟩ := hv
  have hx := B.exec
  have hb := B.bytes
  have hr := B.returns
  have hts := atoms_spec (ws := wsX5_takenBy) B.pre
  have hown : s.vm.findClass RX5 = some m.cls := findClass_of_methodNamed B.named
  have hlocks := B.notSynchronized
  have w_1 := hts (.fieldLink RX5 161 "TermPile" "TAKES" "[I") (by decide +kernel)
  subst hsz
  have hD := hD0.self (sz := s.heap.size)
  generalize hAe : va_A ([]) s.heap.size = A at hD hE ⊢
  have hA : ∀ q : Nat, s.heap.size ≤ q → A q := fun q h => by rw [← hAe]; exact Or.inr h
  clear hAe hD0
  have hS : va_S A s.heap s.heap [] := va_S.rf
  have hl := lv_entry ([.int a_p1, .int a_p2]) (n := 2) (Nat.le_of_ble_eq_true rfl)
  rw [lg_entry_eq]
  generalize (lg_sl ([.int a_p1, .int a_p2]) ++ List.replicate (2 - (lg_sl ([.int a_p1, .int a_p2])).length) Slot.unset).toArray = ls at hl ⊢
  have hl : lv_has ls 2 [(0, .int a_p1), (1, .int a_p2)] := hl
  have h := hd
  unfold f_X5_takenBy at h
  obtain ⟨H, hHe⟩ : ∃ H, H = s.heap := ⟨_, rfl⟩
  obtain ⟨locs, hLe⟩ : ∃ L : List Loc, L = [] := ⟨_, rfl⟩
  have hS : va_S A s.heap H locs := by rw [hHe, hLe]; exact hS
  have hP : va_P (dC, dI) vwCl [] H := by rw [hHe]; exact hP
  rw [show W p l e (headSpec wsX5_takenBy ({ frames := 0, cells := 0, slots := 0, locals := 0 })).room s m [.int a_p1, .int a_p2].toArray below meth c s.heap [] 0 0 = W p l e (headSpec wsX5_takenBy ({ frames := 0, cells := 0, slots := 0, locals := 0 })).room s m [.int a_p1, .int a_p2].toArray below meth c H locs 0 0 by rw [hHe, hLe]]
  clear hHe hLe
  refine lv_iload_n hx hb dX5_takenBy_0 rfl (lv_at hl 0 rfl) ?_
  refine lv_bipush (v := 10) hx hb dX5_takenBy_1 (by decide) ?_
  refine lv_icmp_ne (tgt := 10) hx hb dX5_takenBy_3 (by decide) (fun c1 => ?_) (fun c1 => ?_)
  · have h := it_f h c1
    obtain ⟨t_TAKES, z_TAKES, T_TAKES⟩ := hE.2.1
    refine va_gets hx hb z_TAKES hS hown w_1 (fun _ h9 => h9) dX5_takenBy_10 ?_
    refine lv_iload_n hx hb dX5_takenBy_13 rfl (lv_at hl 0 rfl) ?_
    obtain ⟨i2, h⟩ := ixd_ok h
    refine va_ti hx hb T_TAKES hS i2 rfl dX5_takenBy_14 ?_
    obtain rfl := Option.some.inj h
    exact W.iret (v := tb_TAKES a_p1.toNatClampNeg) hx hb hr (fun t ht hW => ⟨⟨tb_TAKES a_p1.toNatClampNeg, (), rfl, ⟨rfl, rfl⟩, by rw [ht]; exact hP, va_K.moved hW.alike hK, hD⟩, hS.F ht⟩) hS.2.2 dX5_takenBy_15
  · have h := it_t h c1
    refine lv_iload_n hx hb dX5_takenBy_6 rfl (lv_at hl 1 rfl) ?_
    refine lv_goto (tgt := 15) hx hb dX5_takenBy_7 (by decide) ?_
    obtain rfl := Option.some.inj h
    exact W.iret (v := a_p2) hx hb hr (fun t ht hW => ⟨⟨a_p2, (), rfl, ⟨rfl, rfl⟩, by rw [ht]; exact hP, va_K.moved hW.alike hK, hD⟩, hS.F ht⟩) hS.2.2 dX5_takenBy_15
abbrev W_X5_grownVariableIn : va_W := []
def f_X5_grownVariableIn (a_p1 : Int32) : Option (Int32 × Unit) := some (a_p1 / 256, ())
theorem hdn_X5_grownVariableIn : yX5_grownVariableIn.cls ≠ "java/lang/invoke/MethodHandle" ∧ yX5_grownVariableIn.cls ≠ "java/lang/invoke/VarHandle" ∧ (parseMethodDescriptor yX5_grownVariableIn.desc).map (fun d => d.parameters.length) = some 1 := by decide +kernel
set_option maxHeartbeats 4000000 in
set_option maxRecDepth 100000 in
theorem c_X5_grownVariableIn (l : Launch) (dC : Nat → ClassId) (dI : Nat → Nat → Nat) (sz : Nat) (a_p1 : Int32) (res : Int32 × Unit) (hd : f_X5_grownVariableIn a_p1 = some res) : Met l yX5_grownVariableIn wsX5_grownVariableIn ({ frames := 0, cells := 0, slots := 0, locals := 0 }) (va_Pc [.int a_p1] (fun U => mPre dC dI ([]) [] sz U)) (va_Qi (fun (r : Int32) (u : Unit) => r = res.1 ∧ u = res.2) (fun (u : Unit) t => mPost dC dI (va_A ([]) sz) ([]) [] t) (va_A ([]) sz)) 0 0 (va_A ([]) sz) := by
  refine Met.ofW (cc := cX5_grownVariableIn) (maxL := 1) (ret := (some .int)) (by decide) rfl ?_
  intro p e s m args below meth c s₁ B hml hv
  obtain ⟨rfl, ⟨hsz, hP, hK, hD0⟩⟩ := hv
  have hx := B.exec
  have hb := B.bytes
  have hr := B.returns
  have hts := atoms_spec (ws := wsX5_grownVariableIn) B.pre
  have hown : s.vm.findClass RX5 = some m.cls := findClass_of_methodNamed B.named
  have hlocks := B.notSynchronized
  subst hsz
  have hD := hD0.self (sz := s.heap.size)
  generalize hAe : va_A ([]) s.heap.size = A at hD ⊢
  have hA : ∀ q : Nat, s.heap.size ≤ q → A q := fun q h => by rw [← hAe]; exact Or.inr h
  clear hAe hD0
  have hS : va_S A s.heap s.heap [] := va_S.rf
  have hl := lv_entry ([.int a_p1]) (n := 1) (Nat.le_of_ble_eq_true rfl)
  rw [lg_entry_eq]
  generalize (lg_sl ([.int a_p1]) ++ List.replicate (1 - (lg_sl ([.int a_p1])).length) Slot.unset).toArray = ls at hl ⊢
  have hl : lv_has ls 1 [(0, .int a_p1)] := hl
  have h := hd
  unfold f_X5_grownVariableIn at h
  obtain ⟨H, hHe⟩ : ∃ H, H = s.heap := ⟨_, rfl⟩
  obtain ⟨locs, hLe⟩ : ∃ L : List Loc, L = [] := ⟨_, rfl⟩
  have hS : va_S A s.heap H locs := by rw [hHe, hLe]; exact hS
  have hP : va_P (dC, dI) vwCl [] H := by rw [hHe]; exact hP
  rw [show W p l e (headSpec wsX5_grownVariableIn ({ frames := 0, cells := 0, slots := 0, locals := 0 })).room s m [.int a_p1].toArray below meth c s.heap [] 0 0 = W p l e (headSpec wsX5_grownVariableIn ({ frames := 0, cells := 0, slots := 0, locals := 0 })).room s m [.int a_p1].toArray below meth c H locs 0 0 by rw [hHe, hLe]]
  clear hHe hLe
  refine lv_iload_n hx hb dX5_grownVariableIn_0 rfl (lv_at hl 0 rfl) ?_
  refine lv_sipush (v := 256) hx hb dX5_grownVariableIn_1 (by decide) ?_
  refine lv_idiv hx hb dX5_grownVariableIn_4 (by decide) ?_
  obtain rfl := Option.some.inj h
  exact W.iret (v := a_p1 / 256) hx hb hr (fun t ht hW => ⟨⟨a_p1 / 256, (), rfl, ⟨rfl, rfl⟩, by rw [ht]; exact hP, va_K.moved hW.alike hK, hD⟩, hS.F ht⟩) hS.2.2 dX5_grownVariableIn_5
abbrev W_X5_growthIn : va_W := []
def f_X5_growthIn (a_p1 : Int32) : Option (Int32 × Unit) := some ((a_p1 - a_p1 / 256 * 256) - 128, ())
theorem hdn_X5_growthIn : yX5_growthIn.cls ≠ "java/lang/invoke/MethodHandle" ∧ yX5_growthIn.cls ≠ "java/lang/invoke/VarHandle" ∧ (parseMethodDescriptor yX5_growthIn.desc).map (fun d => d.parameters.length) = some 1 := by decide +kernel
set_option maxHeartbeats 4000000 in
set_option maxRecDepth 100000 in
theorem c_X5_growthIn (l : Launch) (dC : Nat → ClassId) (dI : Nat → Nat → Nat) (sz : Nat) (a_p1 : Int32) (res : Int32 × Unit) (hd : f_X5_growthIn a_p1 = some res) : Met l yX5_growthIn wsX5_growthIn ({ frames := 0, cells := 0, slots := 0, locals := 0 }) (va_Pc [.int a_p1] (fun U => mPre dC dI ([]) [] sz U)) (va_Qi (fun (r : Int32) (u : Unit) => r = res.1 ∧ u = res.2) (fun (u : Unit) t => mPost dC dI (va_A ([]) sz) ([]) [] t) (va_A ([]) sz)) 0 0 (va_A ([]) sz) := by
  refine Met.ofW (cc := cX5_growthIn) (maxL := 1) (ret := (some .int)) (by decide) rfl ?_
  intro p e s m args below meth c s₁ B hml hv
  obtain ⟨rfl, ⟨hsz, hP, hK, hD0⟩⟩ := hv
  have hx := B.exec
  have hb := B.bytes
  have hr := B.returns
  have hts := atoms_spec (ws := wsX5_growthIn) B.pre
  have hown : s.vm.findClass RX5 = some m.cls := findClass_of_methodNamed B.named
  have hlocks := B.notSynchronized
  subst hsz
  have hD := hD0.self (sz := s.heap.size)
  generalize hAe : va_A ([]) s.heap.size = A at hD ⊢
  have hA : ∀ q : Nat, s.heap.size ≤ q → A q := fun q h => by rw [← hAe]; exact Or.inr h
  clear hAe hD0
  have hS : va_S A s.heap s.heap [] := va_S.rf
  have hl := lv_entry ([.int a_p1]) (n := 1) (Nat.le_of_ble_eq_true rfl)
  rw [lg_entry_eq]
  generalize (lg_sl ([.int a_p1]) ++ List.replicate (1 - (lg_sl ([.int a_p1])).length) Slot.unset).toArray = ls at hl ⊢
  have hl : lv_has ls 1 [(0, .int a_p1)] := hl
  have h := hd
  unfold f_X5_growthIn at h
  obtain ⟨H, hHe⟩ : ∃ H, H = s.heap := ⟨_, rfl⟩
  obtain ⟨locs, hLe⟩ : ∃ L : List Loc, L = [] := ⟨_, rfl⟩
  have hS : va_S A s.heap H locs := by rw [hHe, hLe]; exact hS
  have hP : va_P (dC, dI) vwCl [] H := by rw [hHe]; exact hP
  rw [show W p l e (headSpec wsX5_growthIn ({ frames := 0, cells := 0, slots := 0, locals := 0 })).room s m [.int a_p1].toArray below meth c s.heap [] 0 0 = W p l e (headSpec wsX5_growthIn ({ frames := 0, cells := 0, slots := 0, locals := 0 })).room s m [.int a_p1].toArray below meth c H locs 0 0 by rw [hHe, hLe]]
  clear hHe hLe
  refine lv_iload_n hx hb dX5_growthIn_0 rfl (lv_at hl 0 rfl) ?_
  refine lv_sipush (v := 256) hx hb dX5_growthIn_1 (by decide) ?_
  refine lv_irem hx hb dX5_growthIn_4 (by decide) ?_
  refine lv_sipush (v := 128) hx hb dX5_growthIn_5 (by decide) ?_
  refine lv_isub hx hb dX5_growthIn_8 ?_
  obtain rfl := Option.some.inj h
  exact W.iret (v := (a_p1 - a_p1 / 256 * 256) - 128) hx hb hr (fun t ht hW => ⟨⟨(a_p1 - a_p1 / 256 * 256) - 128, (), rfl, ⟨rfl, rfl⟩, by rw [ht]; exact hP, va_K.moved hW.alike hK, hD⟩, hS.F ht⟩) hS.2.2 dX5_growthIn_9
abbrev W_X1_endOf (h_this h_this_code h_this_ends : Nat) (k_this_ends : ClassId) (u_this_code_kinds u_this_code_numbers : Value) (v_this_code_size : Int32) (v_this_ends : Nat → Int32) (v_this_size : Int32) : va_W := [(h_this, .inr (1, [.ref h_this_code, .ref h_this_ends, .int v_this_size])), (h_this_code, .inr (0, [u_this_code_kinds, u_this_code_numbers, .int v_this_code_size])), (h_this_ends, .inl (k_this_ends, 100, .inl (v_this_ends)))]
def f_X1_endOf (v_this_code_size : Int32) (v_this_ends : Nat → Int32) (v_this_size : Int32) (a_p1 : Int32) : Option (Int32 × Unit) := if a_p1 < 0 then some (v_this_code_size, ()) else if v_this_size ≤ a_p1 then some (v_this_code_size, ()) else ixd a_p1 100 (some (v_this_ends a_p1.toNatClampNeg, ()))
theorem hdn_X1_endOf : yX1_endOf.cls ≠ "java/lang/invoke/MethodHandle" ∧ yX1_endOf.cls ≠ "java/lang/invoke/VarHandle" ∧ (parseMethodDescriptor yX1_endOf.desc).map (fun d => d.parameters.length) = some 1 := by decide +kernel
theorem hd_X1_endOf : yX1_endOf.cls = RX1 ∧ yX1_endOf.cls ≠ "java/lang/invoke/MethodHandle" ∧ yX1_endOf.cls ≠ "java/lang/invoke/VarHandle" ∧ (parseMethodDescriptor yX1_endOf.desc).map (fun d => d.parameters.length) = some 1 := ⟨rfl, hdn_X1_endOf⟩
set_option maxHeartbeats 4000000 in
set_option maxRecDepth 100000 in
theorem c_X1_endOf (l : Launch) (dC : Nat → ClassId) (dI : Nat → Nat → Nat) (adK adV : Nat → Nat) (h_this h_this_code h_this_ends : Nat) (k_this_ends : ClassId) (u_this_code_kinds u_this_code_numbers : Value) (sz : Nat) (v_this_code_size : Int32) (v_this_ends : Nat → Int32) (v_this_size : Int32) (a_p1 : Int32) (res : Int32 × Unit) (hd : f_X1_endOf v_this_code_size v_this_ends v_this_size a_p1 = some res) : Met l yX1_endOf wsX1_endOf ({ frames := 0, cells := 0, slots := 0, locals := 0 }) (va_Pc [.ref h_this, .int a_p1] (fun U => mPre dC dI (W_X1_endOf h_this h_this_code h_this_ends k_this_ends u_this_code_kinds u_this_code_numbers v_this_code_size v_this_ends v_this_size) [(k_this_ends, .int)] sz U ∧ env adK adV (va_A (W_X1_endOf h_this h_this_code h_this_ends k_this_ends u_this_code_kinds u_this_code_numbers v_this_code_size v_this_ends v_this_size) sz) U U.heap)) (va_Qi (fun (r : Int32) (u : Unit) => r = res.1 ∧ u = res.2) (fun (u : Unit) t => mPost dC dI (va_A (W_X1_endOf h_this h_this_code h_this_ends k_this_ends u_this_code_kinds u_this_code_numbers v_this_code_size v_this_ends v_this_size) sz) (W_X1_endOf h_this h_this_code h_this_ends k_this_ends u_this_code_kinds u_this_code_numbers v_this_code_size v_this_ends v_this_size) [(k_this_ends, .int)] t) (va_A (W_X1_endOf h_this h_this_code h_this_ends k_this_ends u_this_code_kinds u_this_code_numbers v_this_code_size v_this_ends v_this_size) sz)) 0 0 (va_A (W_X1_endOf h_this h_this_code h_this_ends k_this_ends u_this_code_kinds u_this_code_numbers v_this_code_size v_this_ends v_this_size) sz) := by
  refine Met.ofW (cc := cX1_endOf) (maxL := 2) (ret := (some .int)) (by decide) rfl ?_
  intro p e s m args below meth c s₁ B hml hv
  obtain ⟨rfl, ⟨hsz, hP, hK, hD0⟩, hE⟩ := hv
  have hx := B.exec
  have hb := B.bytes
  have hr := B.returns
  have hts := atoms_spec (ws := wsX1_endOf) B.pre
  have hown : s.vm.findClass RX1 = some m.cls := findClass_of_methodNamed B.named
  have hlocks := B.notSynchronized
  have w_1 := hts (.fieldLink RX1 12 "TermPile$Lines" "code" "LTermPile$Code;") (by decide +kernel)
  have w_2 := hts (.fieldLink RX1 22 "TermPile$Lines" "size" "I") (by decide +kernel)
  have w_3 := hts (.fieldLink RX1 18 "TermPile$Lines" "ends" "[I") (by decide +kernel)
  have in_X0 : ∀ w ∈ wsX00, w ∈ wsX1_endOf := by decide +kernel
  have in_X1 : ∀ w ∈ wsX10, w ∈ wsX1_endOf := by decide +kernel
  subst hsz
  have hD := hD0.self (sz := s.heap.size)
  generalize hAe : va_A (W_X1_endOf h_this h_this_code h_this_ends k_this_ends u_this_code_kinds u_this_code_numbers v_this_code_size v_this_ends v_this_size) s.heap.size = A at hD hE ⊢
  have hA : ∀ q : Nat, s.heap.size ≤ q → A q := fun q h => by rw [← hAe]; exact Or.inr h
  clear hAe hD0
  have hS : va_S A s.heap s.heap [] := va_S.rf
  have hP : va_P (dC, dI) vwCl [(h_this, .inr (1, [.ref h_this_code, .ref h_this_ends, .int v_this_size])), (h_this_code, .inr (0, [u_this_code_kinds, u_this_code_numbers, .int v_this_code_size])), (h_this_ends, .inl (k_this_ends, 100, .inl (v_this_ends)))] s.heap := hP
  have hD : va_D A [(h_this, .inr (1, [.ref h_this_code, .ref h_this_ends, .int v_this_size])), (h_this_code, .inr (0, [u_this_code_kinds, u_this_code_numbers, .int v_this_code_size])), (h_this_ends, .inl (k_this_ends, 100, .inl (v_this_ends)))] := hD
  have hl := lv_entry ([.ref h_this, .int a_p1]) (n := 2) (Nat.le_of_ble_eq_true rfl)
  rw [lg_entry_eq]
  generalize (lg_sl ([.ref h_this, .int a_p1]) ++ List.replicate (2 - (lg_sl ([.ref h_this, .int a_p1])).length) Slot.unset).toArray = ls at hl ⊢
  have hl : lv_has ls 2 [(0, .ref h_this), (1, .int a_p1)] := hl
  have h := hd
  unfold f_X1_endOf at h
  obtain ⟨H, hHe⟩ : ∃ H, H = s.heap := ⟨_, rfl⟩
  obtain ⟨locs, hLe⟩ : ∃ L : List Loc, L = [] := ⟨_, rfl⟩
  have hS : va_S A s.heap H locs := by rw [hHe, hLe]; exact hS
  have hP : va_P (dC, dI) vwCl [(h_this, .inr (1, [.ref h_this_code, .ref h_this_ends, .int v_this_size])), (h_this_code, .inr (0, [u_this_code_kinds, u_this_code_numbers, .int v_this_code_size])), (h_this_ends, .inl (k_this_ends, 100, .inl (v_this_ends)))] H := by rw [hHe]; exact hP
  rw [show W p l e (headSpec wsX1_endOf ({ frames := 0, cells := 0, slots := 0, locals := 0 })).room s m [.ref h_this, .int a_p1].toArray below meth c s.heap [] 0 0 = W p l e (headSpec wsX1_endOf ({ frames := 0, cells := 0, slots := 0, locals := 0 })).room s m [.ref h_this, .int a_p1].toArray below meth c H locs 0 0 by rw [hHe, hLe]]
  clear hHe hLe
  refine lv_iload_n hx hb dX1_endOf_0 rfl (lv_at hl 1 rfl) ?_
  refine lv_if_lt (tgt := 21) hx hb dX1_endOf_1 (by decide) (fun c1 => ?_) (fun c1 => ?_)
  · have h := it_t h c1
    refine lv_aload_n hx hb dX1_endOf_21 rfl (lv_at hl 0 rfl) ?_
    refine va_get (D := (dC, dI)) (ci := 1) (v := .ref h_this_code) (C := RX1) (T := TX1) (N := 3) hx hb hts in_X1 hown hK hP 0 rfl rfl 0 (by decide) w_1 (fun _ h9 => h9) rfl dX1_endOf_22 ?_
    refine va_getN (D := (dC, dI)) (ci := 0) (v := .int v_this_code_size) (C := RX0) (T := TX0) (N := 3) hx hb hts in_X0 hown hK hP 1 rfl rfl 2 (by decide) (va_Nw.use rfl (hE.1 _ (nz_X1_26 : _ ∈ nzL))) (fun _ h9 => h9) rfl dX1_endOf_25 ?_
    obtain rfl := Option.some.inj h
    exact W.iret (v := v_this_code_size) hx hb hr (fun t ht hW => ⟨⟨v_this_code_size, (), rfl, ⟨rfl, rfl⟩, by rw [ht]; exact hP, va_K.moved hW.alike hK, hD⟩, hS.F ht⟩) hS.2.2 dX1_endOf_28
  · have h := it_f h c1
    refine lv_iload_n hx hb dX1_endOf_4 rfl (lv_at hl 1 rfl) ?_
    refine lv_aload_n hx hb dX1_endOf_5 rfl (lv_at hl 0 rfl) ?_
    refine va_get (D := (dC, dI)) (ci := 1) (v := .int v_this_size) (C := RX1) (T := TX1) (N := 3) hx hb hts in_X1 hown hK hP 0 rfl rfl 2 (by decide) w_2 (fun _ h9 => h9) rfl dX1_endOf_6 ?_
    refine lv_icmp_ge (tgt := 21) hx hb dX1_endOf_9 (by decide) (fun c2 => ?_) (fun c2 => ?_)
    · have h := it_t h c2
      refine lv_aload_n hx hb dX1_endOf_21 rfl (lv_at hl 0 rfl) ?_
      refine va_get (D := (dC, dI)) (ci := 1) (v := .ref h_this_code) (C := RX1) (T := TX1) (N := 3) hx hb hts in_X1 hown hK hP 0 rfl rfl 0 (by decide) w_1 (fun _ h9 => h9) rfl dX1_endOf_22 ?_
      refine va_getN (D := (dC, dI)) (ci := 0) (v := .int v_this_code_size) (C := RX0) (T := TX0) (N := 3) hx hb hts in_X0 hown hK hP 1 rfl rfl 2 (by decide) (va_Nw.use rfl (hE.1 _ (nz_X1_26 : _ ∈ nzL))) (fun _ h9 => h9) rfl dX1_endOf_25 ?_
      obtain rfl := Option.some.inj h
      exact W.iret (v := v_this_code_size) hx hb hr (fun t ht hW => ⟨⟨v_this_code_size, (), rfl, ⟨rfl, rfl⟩, by rw [ht]; exact hP, va_K.moved hW.alike hK, hD⟩, hS.F ht⟩) hS.2.2 dX1_endOf_28
    · have h := it_f h c2
      refine lv_aload_n hx hb dX1_endOf_12 rfl (lv_at hl 0 rfl) ?_
      refine va_get (D := (dC, dI)) (ci := 1) (v := .ref h_this_ends) (C := RX1) (T := TX1) (N := 3) hx hb hts in_X1 hown hK hP 0 rfl rfl 1 (by decide) w_3 (fun _ h9 => h9) rfl dX1_endOf_13 ?_
      refine lv_iload_n hx hb dX1_endOf_16 rfl (lv_at hl 1 rfl) ?_
      obtain ⟨i3, h⟩ := ixd_ok h
      refine va_iald hx hb hK hP 2 0 rfl rfl i3 dX1_endOf_17 ?_
      refine lv_goto (tgt := 28) hx hb dX1_endOf_18 (by decide) ?_
      obtain rfl := Option.some.inj h
      exact W.iret (v := v_this_ends a_p1.toNatClampNeg) hx hb hr (fun t ht hW => ⟨⟨v_this_ends a_p1.toNatClampNeg, (), rfl, ⟨rfl, rfl⟩, by rw [ht]; exact hP, va_K.moved hW.alike hK, hD⟩, hS.F ht⟩) hS.2.2 dX1_endOf_28
abbrev W_X1_addTerm (h_p1 h_p1_kinds h_p1_numbers h_this h_this_code h_this_code_kinds h_this_code_numbers : Nat) (k_p1_kinds k_p1_numbers k_this_code_kinds k_this_code_numbers : ClassId) (u_this_ends u_this_size : Value) (v_p1_kinds : Nat → Int32) (v_p1_numbers : Nat → Int32) (v_p1_size : Int32) (v_this_code_kinds : Nat → Int32) (v_this_code_numbers : Nat → Int32) (v_this_code_size : Int32) : va_W := [(h_p1, .inr (0, [.ref h_p1_kinds, .ref h_p1_numbers, .int v_p1_size])), (h_p1_kinds, .inl (k_p1_kinds, 300, .inl (v_p1_kinds))), (h_p1_numbers, .inl (k_p1_numbers, 300, .inl (v_p1_numbers))), (h_this, .inr (1, [.ref h_this_code, u_this_ends, u_this_size])), (h_this_code, .inr (0, [.ref h_this_code_kinds, .ref h_this_code_numbers, .int v_this_code_size])), (h_this_code_kinds, .inl (k_this_code_kinds, 300, .inl (v_this_code_kinds))), (h_this_code_numbers, .inl (k_this_code_numbers, 300, .inl (v_this_code_numbers)))]
def f_X1_addTerm_B3 (n : Nat) (v_p1_kinds : Nat → Int32) (v_p1_numbers : Nat → Int32) (v_p1_size : Int32) (v_this_code_kinds : Nat → Int32) (v_this_code_numbers : Nat → Int32) (v_this_code_size : Int32) (l3 : Int32) (l4 : Int32) : Option ((Nat → Int32) × (Nat → Int32) × Int32) := match n with
  | 0 => none
  | n + 1 => if l3 ≤ l4 then some ((v_this_code_kinds, v_this_code_numbers, v_this_code_size)) else (f_X0_kindAt v_p1_kinds v_p1_size l4).bind fun q3 => (f_X0_numberAt v_p1_numbers v_p1_size l4).bind fun q5 => (f_X0_add v_this_code_kinds v_this_code_numbers v_this_code_size q3.1 q5.1).bind fun q7 => f_X1_addTerm_B3 n v_p1_kinds v_p1_numbers v_p1_size q7.1 q7.2.1 q7.2.2 l3 (l4 + 1)
def f_X1_addTerm (v_p1_kinds : Nat → Int32) (v_p1_numbers : Nat → Int32) (v_p1_size : Int32) (v_this_code_kinds : Nat → Int32) (v_this_code_numbers : Nat → Int32) (v_this_code_size : Int32) (a_p2 : Int32) (a_p3 : Int32) : Option ((Nat → Int32) × (Nat → Int32) × Int32) := f_X1_addTerm_B3 FU v_p1_kinds v_p1_numbers v_p1_size v_this_code_kinds v_this_code_numbers v_this_code_size a_p3 a_p2
theorem hdn_X1_addTerm : yX1_addTerm.cls ≠ "java/lang/invoke/MethodHandle" ∧ yX1_addTerm.cls ≠ "java/lang/invoke/VarHandle" ∧ (parseMethodDescriptor yX1_addTerm.desc).map (fun d => d.parameters.length) = some 3 := by decide +kernel
theorem hd_X1_addTerm : yX1_addTerm.cls = RX1 ∧ yX1_addTerm.cls ≠ "java/lang/invoke/MethodHandle" ∧ yX1_addTerm.cls ≠ "java/lang/invoke/VarHandle" ∧ (parseMethodDescriptor yX1_addTerm.desc).map (fun d => d.parameters.length) = some 3 := ⟨rfl, hdn_X1_addTerm⟩
set_option maxHeartbeats 4000000 in
set_option maxRecDepth 100000 in
theorem c_X1_addTerm (l : Launch) (dC : Nat → ClassId) (dI : Nat → Nat → Nat) (h_p1 h_p1_kinds h_p1_numbers h_this h_this_code h_this_code_kinds h_this_code_numbers : Nat) (k_p1_kinds k_p1_numbers k_this_code_kinds k_this_code_numbers : ClassId) (u_this_ends u_this_size : Value) (sz : Nat) (v_p1_kinds : Nat → Int32) (v_p1_numbers : Nat → Int32) (v_p1_size : Int32) (v_this_code_kinds : Nat → Int32) (v_this_code_numbers : Nat → Int32) (v_this_code_size : Int32) (a_p2 : Int32) (a_p3 : Int32) (res : (Nat → Int32) × (Nat → Int32) × Int32) (hd : f_X1_addTerm v_p1_kinds v_p1_numbers v_p1_size v_this_code_kinds v_this_code_numbers v_this_code_size a_p2 a_p3 = some res) : Met l yX1_addTerm wsX1_addTerm ({ frames := 2, cells := 0, slots := 0, locals := 42 }) (va_Pc [.ref h_this, .ref h_p1, .int a_p2, .int a_p3] (fun U => mPre dC dI (W_X1_addTerm h_p1 h_p1_kinds h_p1_numbers h_this h_this_code h_this_code_kinds h_this_code_numbers k_p1_kinds k_p1_numbers k_this_code_kinds k_this_code_numbers u_this_ends u_this_size v_p1_kinds v_p1_numbers v_p1_size v_this_code_kinds v_this_code_numbers v_this_code_size) [(k_p1_kinds, .int), (k_p1_numbers, .int), (k_this_code_kinds, .int), (k_this_code_numbers, .int)] sz U)) (va_Qv (fun (u : (Nat → Int32) × (Nat → Int32) × Int32) => u = res) (fun (u : (Nat → Int32) × (Nat → Int32) × Int32) t => mPost dC dI (va_A (W_X1_addTerm h_p1 h_p1_kinds h_p1_numbers h_this h_this_code h_this_code_kinds h_this_code_numbers k_p1_kinds k_p1_numbers k_this_code_kinds k_this_code_numbers u_this_ends u_this_size v_p1_kinds v_p1_numbers v_p1_size v_this_code_kinds v_this_code_numbers v_this_code_size) sz) (W_X1_addTerm h_p1 h_p1_kinds h_p1_numbers h_this h_this_code h_this_code_kinds h_this_code_numbers k_p1_kinds k_p1_numbers k_this_code_kinds k_this_code_numbers u_this_ends u_this_size v_p1_kinds v_p1_numbers v_p1_size u.1 u.2.1 u.2.2) [(k_p1_kinds, .int), (k_p1_numbers, .int), (k_this_code_kinds, .int), (k_this_code_numbers, .int)] t) (va_A (W_X1_addTerm h_p1 h_p1_kinds h_p1_numbers h_this h_this_code h_this_code_kinds h_this_code_numbers k_p1_kinds k_p1_numbers k_this_code_kinds k_this_code_numbers u_this_ends u_this_size v_p1_kinds v_p1_numbers v_p1_size v_this_code_kinds v_this_code_numbers v_this_code_size) sz)) 0 0 (va_A (W_X1_addTerm h_p1 h_p1_kinds h_p1_numbers h_this h_this_code h_this_code_kinds h_this_code_numbers k_p1_kinds k_p1_numbers k_this_code_kinds k_this_code_numbers u_this_ends u_this_size v_p1_kinds v_p1_numbers v_p1_size v_this_code_kinds v_this_code_numbers v_this_code_size) sz) := by
  refine Met.ofW (cc := cX1_addTerm) (maxL := 5) (ret := none) (by decide) rfl ?_
  intro p e s m args below meth c s₁ B hml hv
  obtain ⟨rfl, ⟨hsz, hP, hK, hD0⟩⟩ := hv
  have hx := B.exec
  have hb := B.bytes
  have hr := B.returns
  have hts := atoms_spec (ws := wsX1_addTerm) B.pre
  have hown : s.vm.findClass RX1 = some m.cls := findClass_of_methodNamed B.named
  have hlocks := B.notSynchronized
  have w_1 := hts (.fieldLink RX1 12 "TermPile$Lines" "code" "LTermPile$Code;") (by decide +kernel)
  have in_X1 : ∀ w ∈ wsX10, w ∈ wsX1_addTerm := by decide +kernel
  subst hsz
  have hD := hD0.self (sz := s.heap.size)
  generalize hAe : va_A (W_X1_addTerm h_p1 h_p1_kinds h_p1_numbers h_this h_this_code h_this_code_kinds h_this_code_numbers k_p1_kinds k_p1_numbers k_this_code_kinds k_this_code_numbers u_this_ends u_this_size v_p1_kinds v_p1_numbers v_p1_size v_this_code_kinds v_this_code_numbers v_this_code_size) s.heap.size = A at hD ⊢
  have hA : ∀ q : Nat, s.heap.size ≤ q → A q := fun q h => by rw [← hAe]; exact Or.inr h
  clear hAe hD0
  have hS : va_S A s.heap s.heap [] := va_S.rf
  have hP : va_P (dC, dI) vwCl [(h_p1, .inr (0, [.ref h_p1_kinds, .ref h_p1_numbers, .int v_p1_size])), (h_p1_kinds, .inl (k_p1_kinds, 300, .inl (v_p1_kinds))), (h_p1_numbers, .inl (k_p1_numbers, 300, .inl (v_p1_numbers))), (h_this, .inr (1, [.ref h_this_code, u_this_ends, u_this_size])), (h_this_code, .inr (0, [.ref h_this_code_kinds, .ref h_this_code_numbers, .int v_this_code_size])), (h_this_code_kinds, .inl (k_this_code_kinds, 300, .inl (v_this_code_kinds))), (h_this_code_numbers, .inl (k_this_code_numbers, 300, .inl (v_this_code_numbers)))] s.heap := hP
  have hD : va_D A [(h_p1, .inr (0, [.ref h_p1_kinds, .ref h_p1_numbers, .int v_p1_size])), (h_p1_kinds, .inl (k_p1_kinds, 300, .inl (v_p1_kinds))), (h_p1_numbers, .inl (k_p1_numbers, 300, .inl (v_p1_numbers))), (h_this, .inr (1, [.ref h_this_code, u_this_ends, u_this_size])), (h_this_code, .inr (0, [.ref h_this_code_kinds, .ref h_this_code_numbers, .int v_this_code_size])), (h_this_code_kinds, .inl (k_this_code_kinds, 300, .inl (v_this_code_kinds))), (h_this_code_numbers, .inl (k_this_code_numbers, 300, .inl (v_this_code_numbers)))] := hD
  have B3 : ∀ n : Nat, ∀ (v_p1_kinds : Nat → Int32) (v_p1_numbers : Nat → Int32) (v_p1_size : Int32) (v_this_code_kinds : Nat → Int32) (v_this_code_numbers : Nat → Int32) (v_this_code_size : Int32) (l3 : Int32) (l4 : Int32) (H : Heap) (locs : List Loc) (ls : Array Slot), f_X1_addTerm_B3 n v_p1_kinds v_p1_numbers v_p1_size v_this_code_kinds v_this_code_numbers v_this_code_size l3 l4 = some res → va_P (dC, dI) vwCl [(h_p1, .inr (0, [.ref h_p1_kinds, .ref h_p1_numbers, .int v_p1_size])), (h_p1_kinds, .inl (k_p1_kinds, 300, .inl (v_p1_kinds))), (h_p1_numbers, .inl (k_p1_numbers, 300, .inl (v_p1_numbers))), (h_this, .inr (1, [.ref h_this_code, u_this_ends, u_this_size])), (h_this_code, .inr (0, [.ref h_this_code_kinds, .ref h_this_code_numbers, .int v_this_code_size])), (h_this_code_kinds, .inl (k_this_code_kinds, 300, .inl (v_this_code_kinds))), (h_this_code_numbers, .inl (k_this_code_numbers, 300, .inl (v_this_code_numbers)))] H → va_D A [(h_p1, .inr (0, [.ref h_p1_kinds, .ref h_p1_numbers, .int v_p1_size])), (h_p1_kinds, .inl (k_p1_kinds, 300, .inl (v_p1_kinds))), (h_p1_numbers, .inl (k_p1_numbers, 300, .inl (v_p1_numbers))), (h_this, .inr (1, [.ref h_this_code, u_this_ends, u_this_size])), (h_this_code, .inr (0, [.ref h_this_code_kinds, .ref h_this_code_numbers, .int v_this_code_size])), (h_this_code_kinds, .inl (k_this_code_kinds, 300, .inl (v_this_code_kinds))), (h_this_code_numbers, .inl (k_this_code_numbers, 300, .inl (v_this_code_numbers)))] → va_S A s.heap H locs → lv_has ls 5 [(0, .ref h_this), (1, .ref h_p1), (3, .int l3), (4, .int l4)] → W p l e (headSpec wsX1_addTerm ({ frames := 2, cells := 0, slots := 0, locals := 42 })).room s m [.ref h_this, .ref h_p1, .int a_p2, .int a_p3].toArray below meth c H locs 0 0 (MQ below (va_Qv (fun (u : (Nat → Int32) × (Nat → Int32) × Int32) => u = res) (fun (u : (Nat → Int32) × (Nat → Int32) × Int32) t => mPost dC dI A (W_X1_addTerm h_p1 h_p1_kinds h_p1_numbers h_this h_this_code h_this_code_kinds h_this_code_numbers k_p1_kinds k_p1_numbers k_this_code_kinds k_this_code_numbers u_this_ends u_this_size v_p1_kinds v_p1_numbers v_p1_size u.1 u.2.1 u.2.2) [(k_p1_kinds, .int), (k_p1_numbers, .int), (k_this_code_kinds, .int), (k_this_code_numbers, .int)] t) A) [.ref h_this, .ref h_p1, .int a_p2, .int a_p3].toArray s 0 0 A) (F0 m 3 ls []) := by
    intro n
    clear hP hD hS hd
    induction n with
    | zero => intro v_p1_kinds v_p1_numbers v_p1_size v_this_code_kinds v_this_code_numbers v_this_code_size l3 l4 H locs ls h; exact absurd h (by rw [f_X1_addTerm_B3]; exact fun z => nomatch z)
    | succ n ih3 =>
      intro v_p1_kinds v_p1_numbers v_p1_size v_this_code_kinds v_this_code_numbers v_this_code_size l3 l4 H locs ls h hP hD hS hl
      rw [f_X1_addTerm_B3] at h
      refine lv_iload hx hb dX1_addTerm_3 (lv_at hl 3 rfl) ?_
      refine lv_iload_n hx hb dX1_addTerm_5 rfl (lv_at hl 2 rfl) ?_
      refine lv_icmp_ge (tgt := 34) hx hb dX1_addTerm_6 (by decide) (fun c1 => ?_) (fun c1 => ?_)
      · have h := it_t h c1
        obtain rfl := Option.some.inj h
        exact W.vret hx hb hr (fun t ht hW => ⟨⟨(v_this_code_kinds, v_this_code_numbers, v_this_code_size), rfl, rfl, by rw [ht]; exact hP, va_K.moved hW.alike hK, hD⟩, hS.F ht⟩) hS.2.2 dX1_addTerm_34
      · have h := it_f h c1
        refine lv_aload_n hx hb dX1_addTerm_9 rfl (lv_at hl 0 rfl) ?_
        refine va_get (D := (dC, dI)) (ci := 1) (v := .ref h_this_code) (C := RX1) (T := TX1) (N := 3) hx hb hts in_X1 hown hK hP 3 rfl rfl 0 (by decide) w_1 (fun _ h9 => h9) rfl dX1_addTerm_10 ?_
        refine lv_aload_n hx hb dX1_addTerm_13 rfl (lv_at hl 1 rfl) ?_
        refine lv_iload hx hb dX1_addTerm_14 (lv_at hl 3 rfl) ?_
        obtain ⟨⟨r2, ⟨⟩⟩, gr2, h⟩ := Option.bind_eq_some_iff.mp h
        try dsimp only at h
        have hPc := hP.sub (ws' := W_X0_kindAt h_p1 h_p1_kinds k_p1_kinds (.ref h_p1_numbers) v_p1_kinds v_p1_size) [0, 1] rfl
        have hDc := hD.sub (ws' := W_X0_kindAt h_p1 h_p1_kinds k_p1_kinds (.ref h_p1_numbers) v_p1_kinds v_p1_size) [0, 1] (by decide) rfl
        have hKc := hK.sub (tys' := [(k_p1_kinds, .int)]) [0] rfl
        have hFc := va_free (wc := W_X0_kindAt h_p1 h_p1_kinds k_p1_kinds (.ref h_p1_numbers) v_p1_kinds v_p1_size) hD hS hA [0, 1] rfl
        refine va_calli (va_runV (As := [.int l4]) (rest := [.ref h_this_code]) ⟨hx, hb, hml, hown, hts⟩ (c_X0_kindAt l dC dI h_p1 h_p1_kinds k_p1_kinds (.ref h_p1_numbers) H.size v_p1_kinds v_p1_size l4 (r2, ()) gr2) (cwV 1 hts gX1_addTerm_X0_kindAt rfl rfl rfl hd_X0_kindAt ⟨Nat.le_of_ble_eq_true rfl, Nat.le_of_ble_eq_true rfl⟩) (preV hKc hPc hDc (va_recv hK hP (ci := 0) (q0 := 0) rfl rfl)) rfl rfl hl.1 rfl (lv_room (Nat.le_of_ble_eq_true rfl)) dX1_addTerm_16 ⟨Nat.zero_le _, Nat.zero_le _⟩) hS (fun q _ h => hFc q h) hFc (fun ar2 ur2 tr2 H1 locs htr2 hvmr2 hw hB hz1 hk1 hS => ?_)
        obtain ⟨rfl, rfl⟩ := And.intro hw.1.symm hw.2.symm
        obtain ⟨hP1, hK1, hD1⟩ := hB
        rw [htr2] at hP1
        obtain ⟨hP, hD⟩ := va_join (wr := [(h_p1_numbers, .inl (k_p1_numbers, 300, .inl (v_p1_numbers))), (h_this, .inr (1, [.ref h_this_code, u_this_ends, u_this_size])), (h_this_code, .inr (0, [.ref h_this_code_kinds, .ref h_this_code_numbers, .int v_this_code_size])), (h_this_code_kinds, .inl (k_this_code_kinds, 300, .inl (v_this_code_kinds))), (h_this_code_numbers, .inl (k_this_code_numbers, 300, .inl (v_this_code_numbers)))]) (w1 := W_X0_kindAt h_p1 h_p1_kinds k_p1_kinds (.ref h_p1_numbers) v_p1_kinds v_p1_size) hP hD [0, 1] [2, 3, 4, 5, 6] rfl rfl (by decide) (by decide) hk1 hFc hP1 hD1
        have hP := hP.sub (ws' := [(h_p1, .inr (0, [.ref h_p1_kinds, .ref h_p1_numbers, .int v_p1_size])), (h_p1_kinds, .inl (k_p1_kinds, 300, .inl (v_p1_kinds))), (h_p1_numbers, .inl (k_p1_numbers, 300, .inl (v_p1_numbers))), (h_this, .inr (1, [.ref h_this_code, u_this_ends, u_this_size])), (h_this_code, .inr (0, [.ref h_this_code_kinds, .ref h_this_code_numbers, .int v_this_code_size])), (h_this_code_kinds, .inl (k_this_code_kinds, 300, .inl (v_this_code_kinds))), (h_this_code_numbers, .inl (k_this_code_numbers, 300, .inl (v_this_code_numbers)))]) [5, 6, 0, 1, 2, 3, 4] rfl
        have hD := hD.sub (ws' := [(h_p1, .inr (0, [.ref h_p1_kinds, .ref h_p1_numbers, .int v_p1_size])), (h_p1_kinds, .inl (k_p1_kinds, 300, .inl (v_p1_kinds))), (h_p1_numbers, .inl (k_p1_numbers, 300, .inl (v_p1_numbers))), (h_this, .inr (1, [.ref h_this_code, u_this_ends, u_this_size])), (h_this_code, .inr (0, [.ref h_this_code_kinds, .ref h_this_code_numbers, .int v_this_code_size])), (h_this_code_kinds, .inl (k_this_code_kinds, 300, .inl (v_this_code_kinds))), (h_this_code_numbers, .inl (k_this_code_numbers, 300, .inl (v_this_code_numbers)))]) [5, 6, 0, 1, 2, 3, 4] (by decide) rfl
        generalize H1 = H at hP hS ⊢
        clear hk1 hz1
        refine lv_aload_n hx hb dX1_addTerm_19 rfl (lv_at hl 1 rfl) ?_
        refine lv_iload hx hb dX1_addTerm_20 (lv_at hl 3 rfl) ?_
        obtain ⟨⟨r4, ⟨⟩⟩, gr4, h⟩ := Option.bind_eq_some_iff.mp h
        try dsimp only at h
        have hPc := hP.sub (ws' := W_X0_numberAt h_p1 h_p1_numbers k_p1_numbers (.ref h_p1_kinds) v_p1_numbers v_p1_size) [0, 2] rfl
        have hDc := hD.sub (ws' := W_X0_numberAt h_p1 h_p1_numbers k_p1_numbers (.ref h_p1_kinds) v_p1_numbers v_p1_size) [0, 2] (by decide) rfl
        have hKc := hK.sub (tys' := [(k_p1_numbers, .int)]) [1] rfl
        have hFc := va_free (wc := W_X0_numberAt h_p1 h_p1_numbers k_p1_numbers (.ref h_p1_kinds) v_p1_numbers v_p1_size) hD hS hA [0, 2] rfl
        refine va_calli (va_runV (As := [.int l4]) (rest := [.int r2, .ref h_this_code]) ⟨hx, hb, hml, hown, hts⟩ (c_X0_numberAt l dC dI h_p1 h_p1_numbers k_p1_numbers (.ref h_p1_kinds) H.size v_p1_numbers v_p1_size l4 (r4, ()) gr4) (cwV 1 hts gX1_addTerm_X0_numberAt rfl rfl rfl hd_X0_numberAt ⟨Nat.le_of_ble_eq_true rfl, Nat.le_of_ble_eq_true rfl⟩) (preV hKc hPc hDc (va_recv hK hP (ci := 0) (q0 := 0) rfl rfl)) rfl rfl hl.1 rfl (lv_room (Nat.le_of_ble_eq_true rfl)) dX1_addTerm_22 ⟨Nat.zero_le _, Nat.zero_le _⟩) hS (fun q _ h => hFc q h) hFc (fun ar4 ur4 tr4 H1 locs htr4 hvmr4 hw hB hz1 hk1 hS => ?_)
        obtain ⟨rfl, rfl⟩ := And.intro hw.1.symm hw.2.symm
        obtain ⟨hP1, hK1, hD1⟩ := hB
        rw [htr4] at hP1
        obtain ⟨hP, hD⟩ := va_join (wr := [(h_p1_kinds, .inl (k_p1_kinds, 300, .inl (v_p1_kinds))), (h_this, .inr (1, [.ref h_this_code, u_this_ends, u_this_size])), (h_this_code, .inr (0, [.ref h_this_code_kinds, .ref h_this_code_numbers, .int v_this_code_size])), (h_this_code_kinds, .inl (k_this_code_kinds, 300, .inl (v_this_code_kinds))), (h_this_code_numbers, .inl (k_this_code_numbers, 300, .inl (v_this_code_numbers)))]) (w1 := W_X0_numberAt h_p1 h_p1_numbers k_p1_numbers (.ref h_p1_kinds) v_p1_numbers v_p1_size) hP hD [0, 2] [1, 3, 4, 5, 6] rfl rfl (by decide) (by decide) hk1 hFc hP1 hD1
        have hP := hP.sub (ws' := [(h_p1, .inr (0, [.ref h_p1_kinds, .ref h_p1_numbers, .int v_p1_size])), (h_p1_kinds, .inl (k_p1_kinds, 300, .inl (v_p1_kinds))), (h_p1_numbers, .inl (k_p1_numbers, 300, .inl (v_p1_numbers))), (h_this, .inr (1, [.ref h_this_code, u_this_ends, u_this_size])), (h_this_code, .inr (0, [.ref h_this_code_kinds, .ref h_this_code_numbers, .int v_this_code_size])), (h_this_code_kinds, .inl (k_this_code_kinds, 300, .inl (v_this_code_kinds))), (h_this_code_numbers, .inl (k_this_code_numbers, 300, .inl (v_this_code_numbers)))]) [5, 0, 6, 1, 2, 3, 4] rfl
        have hD := hD.sub (ws' := [(h_p1, .inr (0, [.ref h_p1_kinds, .ref h_p1_numbers, .int v_p1_size])), (h_p1_kinds, .inl (k_p1_kinds, 300, .inl (v_p1_kinds))), (h_p1_numbers, .inl (k_p1_numbers, 300, .inl (v_p1_numbers))), (h_this, .inr (1, [.ref h_this_code, u_this_ends, u_this_size])), (h_this_code, .inr (0, [.ref h_this_code_kinds, .ref h_this_code_numbers, .int v_this_code_size])), (h_this_code_kinds, .inl (k_this_code_kinds, 300, .inl (v_this_code_kinds))), (h_this_code_numbers, .inl (k_this_code_numbers, 300, .inl (v_this_code_numbers)))]) [5, 0, 6, 1, 2, 3, 4] (by decide) rfl
        generalize H1 = H at hP hS ⊢
        clear hk1 hz1
        obtain ⟨⟨r6_this_kinds, r6_this_numbers, r6_this_size⟩, gr6, h⟩ := Option.bind_eq_some_iff.mp h
        try dsimp only at h
        have hPc := hP.sub (ws' := W_X0_add h_this_code h_this_code_kinds h_this_code_numbers k_this_code_kinds k_this_code_numbers v_this_code_kinds v_this_code_numbers v_this_code_size) [4, 5, 6] rfl
        have hDc := hD.sub (ws' := W_X0_add h_this_code h_this_code_kinds h_this_code_numbers k_this_code_kinds k_this_code_numbers v_this_code_kinds v_this_code_numbers v_this_code_size) [4, 5, 6] (by decide) rfl
        have hKc := hK.sub (tys' := [(k_this_code_kinds, .int), (k_this_code_numbers, .int)]) [2, 3] rfl
        have hFc := va_free (wc := W_X0_add h_this_code h_this_code_kinds h_this_code_numbers k_this_code_kinds k_this_code_numbers v_this_code_kinds v_this_code_numbers v_this_code_size) hD hS hA [4, 5, 6] rfl
        refine va_callv (va_runV (As := [.int r2, .int r4]) (rest := []) ⟨hx, hb, hml, hown, hts⟩ (c_X0_add l dC dI h_this_code h_this_code_kinds h_this_code_numbers k_this_code_kinds k_this_code_numbers H.size v_this_code_kinds v_this_code_numbers v_this_code_size r2 r4 (r6_this_kinds, r6_this_numbers, r6_this_size) gr6) (cwV 2 hts gX1_addTerm_X0_add rfl rfl rfl hd_X0_add ⟨Nat.le_of_ble_eq_true rfl, Nat.le_of_ble_eq_true rfl⟩) (preV hKc hPc hDc (va_recv hK hP (ci := 0) (q0 := 4) rfl rfl)) rfl rfl hl.1 rfl (lv_room (Nat.le_of_ble_eq_true rfl)) dX1_addTerm_25 ⟨Nat.zero_le _, Nat.zero_le _⟩) hS (fun q _ h => hFc q h) hFc (fun ur6 tr6 H1 locs htr6 hvmr6 hw hB hz1 hk1 hS => ?_)
        obtain rfl := hw.symm
        obtain ⟨hP1, hK1, hD1⟩ := hB
        rw [htr6] at hP1
        obtain ⟨hP, hD⟩ := va_join (wr := [(h_p1, .inr (0, [.ref h_p1_kinds, .ref h_p1_numbers, .int v_p1_size])), (h_p1_kinds, .inl (k_p1_kinds, 300, .inl (v_p1_kinds))), (h_p1_numbers, .inl (k_p1_numbers, 300, .inl (v_p1_numbers))), (h_this, .inr (1, [.ref h_this_code, u_this_ends, u_this_size]))]) (w1 := W_X0_add h_this_code h_this_code_kinds h_this_code_numbers k_this_code_kinds k_this_code_numbers r6_this_kinds r6_this_numbers r6_this_size) hP hD [4, 5, 6] [0, 1, 2, 3] rfl rfl (by decide) (by decide) hk1 hFc hP1 hD1
        have hP := hP.sub (ws' := [(h_p1, .inr (0, [.ref h_p1_kinds, .ref h_p1_numbers, .int v_p1_size])), (h_p1_kinds, .inl (k_p1_kinds, 300, .inl (v_p1_kinds))), (h_p1_numbers, .inl (k_p1_numbers, 300, .inl (v_p1_numbers))), (h_this, .inr (1, [.ref h_this_code, u_this_ends, u_this_size])), (h_this_code, .inr (0, [.ref h_this_code_kinds, .ref h_this_code_numbers, .int r6_this_size])), (h_this_code_kinds, .inl (k_this_code_kinds, 300, .inl (r6_this_kinds))), (h_this_code_numbers, .inl (k_this_code_numbers, 300, .inl (r6_this_numbers)))]) [0, 1, 2, 3, 4, 5, 6] rfl
        have hD := hD.sub (ws' := [(h_p1, .inr (0, [.ref h_p1_kinds, .ref h_p1_numbers, .int v_p1_size])), (h_p1_kinds, .inl (k_p1_kinds, 300, .inl (v_p1_kinds))), (h_p1_numbers, .inl (k_p1_numbers, 300, .inl (v_p1_numbers))), (h_this, .inr (1, [.ref h_this_code, u_this_ends, u_this_size])), (h_this_code, .inr (0, [.ref h_this_code_kinds, .ref h_this_code_numbers, .int r6_this_size])), (h_this_code_kinds, .inl (k_this_code_kinds, 300, .inl (r6_this_kinds))), (h_this_code_numbers, .inl (k_this_code_numbers, 300, .inl (r6_this_numbers)))]) [0, 1, 2, 3, 4, 5, 6] (by decide) rfl
        generalize H1 = H at hP hS ⊢
        clear hk1 hz1
        refine lv_iinc (v := l4 + 1) (lv' := [(4, .int (l4 + 1)), (0, .ref h_this), (1, .ref h_p1), (3, .int l3)]) hx hb dX1_addTerm_28 hl (k := 3) rfl rfl (by decide) rfl (fun ls hl => ?_)
        refine lv_goto (tgt := 3) hx hb dX1_addTerm_31 (by decide) ?_
        exact ih3 v_p1_kinds v_p1_numbers v_p1_size r6_this_kinds r6_this_numbers r6_this_size l3 (l4 + 1) H locs ls h hP hD hS (lv_sub hl [1, 2, 3, 0] rfl)
  have hl := lv_entry ([.ref h_this, .ref h_p1, .int a_p2, .int a_p3]) (n := 5) (Nat.le_of_ble_eq_true rfl)
  rw [lg_entry_eq]
  generalize (lg_sl ([.ref h_this, .ref h_p1, .int a_p2, .int a_p3]) ++ List.replicate (5 - (lg_sl ([.ref h_this, .ref h_p1, .int a_p2, .int a_p3])).length) Slot.unset).toArray = ls at hl ⊢
  have hl : lv_has ls 5 [(0, .ref h_this), (1, .ref h_p1), (2, .int a_p2), (3, .int a_p3)] := hl
  have h := hd
  unfold f_X1_addTerm at h
  obtain ⟨H, hHe⟩ : ∃ H, H = s.heap := ⟨_, rfl⟩
  obtain ⟨locs, hLe⟩ : ∃ L : List Loc, L = [] := ⟨_, rfl⟩
  have hS : va_S A s.heap H locs := by rw [hHe, hLe]; exact hS
  have hP : va_P (dC, dI) vwCl [(h_p1, .inr (0, [.ref h_p1_kinds, .ref h_p1_numbers, .int v_p1_size])), (h_p1_kinds, .inl (k_p1_kinds, 300, .inl (v_p1_kinds))), (h_p1_numbers, .inl (k_p1_numbers, 300, .inl (v_p1_numbers))), (h_this, .inr (1, [.ref h_this_code, u_this_ends, u_this_size])), (h_this_code, .inr (0, [.ref h_this_code_kinds, .ref h_this_code_numbers, .int v_this_code_size])), (h_this_code_kinds, .inl (k_this_code_kinds, 300, .inl (v_this_code_kinds))), (h_this_code_numbers, .inl (k_this_code_numbers, 300, .inl (v_this_code_numbers)))] H := by rw [hHe]; exact hP
  rw [show W p l e (headSpec wsX1_addTerm ({ frames := 2, cells := 0, slots := 0, locals := 42 })).room s m [.ref h_this, .ref h_p1, .int a_p2, .int a_p3].toArray below meth c s.heap [] 0 0 = W p l e (headSpec wsX1_addTerm ({ frames := 2, cells := 0, slots := 0, locals := 42 })).room s m [.ref h_this, .ref h_p1, .int a_p2, .int a_p3].toArray below meth c H locs 0 0 by rw [hHe, hLe]]
  clear hHe hLe
  refine lv_iload_n hx hb dX1_addTerm_0 rfl (lv_at hl 2 rfl) ?_
  refine lv_istore (lv' := [(4, .int a_p2), (0, .ref h_this), (1, .ref h_p1), (2, .int a_p2), (3, .int a_p3)]) hx hb dX1_addTerm_1 hl (by decide) rfl (fun ls hl => ?_)
  exact B3 FU v_p1_kinds v_p1_numbers v_p1_size v_this_code_kinds v_this_code_numbers v_this_code_size a_p3 a_p2 H locs ls h hP hD hS (lv_sub hl [1, 2, 4, 0] rfl)
abbrev W_X1_close (h_this h_this_code h_this_code_kinds h_this_code_numbers h_this_ends : Nat) (k_this_code_kinds k_this_code_numbers k_this_ends : ClassId) (v_this_code_kinds : Nat → Int32) (v_this_code_numbers : Nat → Int32) (v_this_code_size : Int32) (v_this_ends : Nat → Int32) (v_this_size : Int32) : va_W := [(h_this, .inr (1, [.ref h_this_code, .ref h_this_ends, .int v_this_size])), (h_this_code, .inr (0, [.ref h_this_code_kinds, .ref h_this_code_numbers, .int v_this_code_size])), (h_this_code_kinds, .inl (k_this_code_kinds, 300, .inl (v_this_code_kinds))), (h_this_code_numbers, .inl (k_this_code_numbers, 300, .inl (v_this_code_numbers))), (h_this_ends, .inl (k_this_ends, 100, .inl (v_this_ends)))]
def f_X1_close (v_this_code_kinds : Nat → Int32) (v_this_code_numbers : Nat → Int32) (v_this_code_size : Int32) (v_this_ends : Nat → Int32) (v_this_size : Int32) (a_p1 : Int32) (a_p2 : Int32) : Option ((Nat → Int32) × (Nat → Int32) × Int32 × (Nat → Int32) × Int32) := (f_X0_add v_this_code_kinds v_this_code_numbers v_this_code_size a_p1 a_p2).bind fun q2 => if 100 ≤ v_this_size then some ((q2.1, q2.2.1, q2.2.2, v_this_ends, v_this_size)) else ixd v_this_size 100 (some ((q2.1, q2.2.1, q2.2.2, upd v_this_ends v_this_size.toNatClampNeg q2.2.2, v_this_size + 1)))
theorem hdn_X1_close : yX1_close.cls ≠ "java/lang/invoke/MethodHandle" ∧ yX1_close.cls ≠ "java/lang/invoke/VarHandle" ∧ (parseMethodDescriptor yX1_close.desc).map (fun d => d.parameters.length) = some 2 := by decide +kernel
theorem hd_X1_close : yX1_close.cls = RX1 ∧ yX1_close.cls ≠ "java/lang/invoke/MethodHandle" ∧ yX1_close.cls ≠ "java/lang/invoke/VarHandle" ∧ (parseMethodDescriptor yX1_close.desc).map (fun d => d.parameters.length) = some 2 := ⟨rfl, hdn_X1_close⟩
set_option maxHeartbeats 4000000 in
set_option maxRecDepth 100000 in
theorem c_X1_close (l : Launch) (dC : Nat → ClassId) (dI : Nat → Nat → Nat) (adK adV : Nat → Nat) (h_this h_this_code h_this_code_kinds h_this_code_numbers h_this_ends : Nat) (k_this_code_kinds k_this_code_numbers k_this_ends : ClassId) (sz : Nat) (v_this_code_kinds : Nat → Int32) (v_this_code_numbers : Nat → Int32) (v_this_code_size : Int32) (v_this_ends : Nat → Int32) (v_this_size : Int32) (a_p1 : Int32) (a_p2 : Int32) (res : (Nat → Int32) × (Nat → Int32) × Int32 × (Nat → Int32) × Int32) (hd : f_X1_close v_this_code_kinds v_this_code_numbers v_this_code_size v_this_ends v_this_size a_p1 a_p2 = some res) : Met l yX1_close wsX1_close ({ frames := 1, cells := 0, slots := 0, locals := 22 }) (va_Pc [.ref h_this, .int a_p1, .int a_p2] (fun U => mPre dC dI (W_X1_close h_this h_this_code h_this_code_kinds h_this_code_numbers h_this_ends k_this_code_kinds k_this_code_numbers k_this_ends v_this_code_kinds v_this_code_numbers v_this_code_size v_this_ends v_this_size) [(k_this_code_kinds, .int), (k_this_code_numbers, .int), (k_this_ends, .int)] sz U ∧ env adK adV (va_A (W_X1_close h_this h_this_code h_this_code_kinds h_this_code_numbers h_this_ends k_this_code_kinds k_this_code_numbers k_this_ends v_this_code_kinds v_this_code_numbers v_this_code_size v_this_ends v_this_size) sz) U U.heap)) (va_Qv (fun (u : (Nat → Int32) × (Nat → Int32) × Int32 × (Nat → Int32) × Int32) => u = res) (fun (u : (Nat → Int32) × (Nat → Int32) × Int32 × (Nat → Int32) × Int32) t => mPost dC dI (va_A (W_X1_close h_this h_this_code h_this_code_kinds h_this_code_numbers h_this_ends k_this_code_kinds k_this_code_numbers k_this_ends v_this_code_kinds v_this_code_numbers v_this_code_size v_this_ends v_this_size) sz) (W_X1_close h_this h_this_code h_this_code_kinds h_this_code_numbers h_this_ends k_this_code_kinds k_this_code_numbers k_this_ends u.1 u.2.1 u.2.2.1 u.2.2.2.1 u.2.2.2.2) [(k_this_code_kinds, .int), (k_this_code_numbers, .int), (k_this_ends, .int)] t) (va_A (W_X1_close h_this h_this_code h_this_code_kinds h_this_code_numbers h_this_ends k_this_code_kinds k_this_code_numbers k_this_ends v_this_code_kinds v_this_code_numbers v_this_code_size v_this_ends v_this_size) sz)) 0 0 (va_A (W_X1_close h_this h_this_code h_this_code_kinds h_this_code_numbers h_this_ends k_this_code_kinds k_this_code_numbers k_this_ends v_this_code_kinds v_this_code_numbers v_this_code_size v_this_ends v_this_size) sz) := by
  refine Met.ofW (cc := cX1_close) (maxL := 3) (ret := none) (by decide) rfl ?_
  intro p e s m args below meth c s₁ B hml hv
  obtain ⟨rfl, ⟨hsz, hP, hK, hD0⟩, hE⟩ := hv
  have hx := B.exec
  have hb := B.bytes
  have hr := B.returns
  have hts := atoms_spec (ws := wsX1_close) B.pre
  have hown : s.vm.findClass RX1 = some m.cls := findClass_of_methodNamed B.named
  have hlocks := B.notSynchronized
  have w_1 := hts (.fieldLink RX1 12 "TermPile$Lines" "code" "LTermPile$Code;") (by decide +kernel)
  have w_2 := hts (.fieldLink RX1 22 "TermPile$Lines" "size" "I") (by decide +kernel)
  have w_3 := hts (.fieldLink RX1 18 "TermPile$Lines" "ends" "[I") (by decide +kernel)
  have in_X0 : ∀ w ∈ wsX00, w ∈ wsX1_close := by decide +kernel
  have in_X1 : ∀ w ∈ wsX10, w ∈ wsX1_close := by decide +kernel
  subst hsz
  have hD := hD0.self (sz := s.heap.size)
  generalize hAe : va_A (W_X1_close h_this h_this_code h_this_code_kinds h_this_code_numbers h_this_ends k_this_code_kinds k_this_code_numbers k_this_ends v_this_code_kinds v_this_code_numbers v_this_code_size v_this_ends v_this_size) s.heap.size = A at hD hE ⊢
  have hA : ∀ q : Nat, s.heap.size ≤ q → A q := fun q h => by rw [← hAe]; exact Or.inr h
  clear hAe hD0
  have hS : va_S A s.heap s.heap [] := va_S.rf
  have hP : va_P (dC, dI) vwCl [(h_this, .inr (1, [.ref h_this_code, .ref h_this_ends, .int v_this_size])), (h_this_code, .inr (0, [.ref h_this_code_kinds, .ref h_this_code_numbers, .int v_this_code_size])), (h_this_code_kinds, .inl (k_this_code_kinds, 300, .inl (v_this_code_kinds))), (h_this_code_numbers, .inl (k_this_code_numbers, 300, .inl (v_this_code_numbers))), (h_this_ends, .inl (k_this_ends, 100, .inl (v_this_ends)))] s.heap := hP
  have hD : va_D A [(h_this, .inr (1, [.ref h_this_code, .ref h_this_ends, .int v_this_size])), (h_this_code, .inr (0, [.ref h_this_code_kinds, .ref h_this_code_numbers, .int v_this_code_size])), (h_this_code_kinds, .inl (k_this_code_kinds, 300, .inl (v_this_code_kinds))), (h_this_code_numbers, .inl (k_this_code_numbers, 300, .inl (v_this_code_numbers))), (h_this_ends, .inl (k_this_ends, 100, .inl (v_this_ends)))] := hD
  have hl := lv_entry ([.ref h_this, .int a_p1, .int a_p2]) (n := 3) (Nat.le_of_ble_eq_true rfl)
  rw [lg_entry_eq]
  generalize (lg_sl ([.ref h_this, .int a_p1, .int a_p2]) ++ List.replicate (3 - (lg_sl ([.ref h_this, .int a_p1, .int a_p2])).length) Slot.unset).toArray = ls at hl ⊢
  have hl : lv_has ls 3 [(0, .ref h_this), (1, .int a_p1), (2, .int a_p2)] := hl
  have h := hd
  unfold f_X1_close at h
  obtain ⟨H, hHe⟩ : ∃ H, H = s.heap := ⟨_, rfl⟩
  obtain ⟨locs, hLe⟩ : ∃ L : List Loc, L = [] := ⟨_, rfl⟩
  have hS : va_S A s.heap H locs := by rw [hHe, hLe]; exact hS
  have hP : va_P (dC, dI) vwCl [(h_this, .inr (1, [.ref h_this_code, .ref h_this_ends, .int v_this_size])), (h_this_code, .inr (0, [.ref h_this_code_kinds, .ref h_this_code_numbers, .int v_this_code_size])), (h_this_code_kinds, .inl (k_this_code_kinds, 300, .inl (v_this_code_kinds))), (h_this_code_numbers, .inl (k_this_code_numbers, 300, .inl (v_this_code_numbers))), (h_this_ends, .inl (k_this_ends, 100, .inl (v_this_ends)))] H := by rw [hHe]; exact hP
  rw [show W p l e (headSpec wsX1_close ({ frames := 1, cells := 0, slots := 0, locals := 22 })).room s m [.ref h_this, .int a_p1, .int a_p2].toArray below meth c s.heap [] 0 0 = W p l e (headSpec wsX1_close ({ frames := 1, cells := 0, slots := 0, locals := 22 })).room s m [.ref h_this, .int a_p1, .int a_p2].toArray below meth c H locs 0 0 by rw [hHe, hLe]]
  clear hHe hLe
  refine lv_aload_n hx hb dX1_close_0 rfl (lv_at hl 0 rfl) ?_
  refine va_get (D := (dC, dI)) (ci := 1) (v := .ref h_this_code) (C := RX1) (T := TX1) (N := 3) hx hb hts in_X1 hown hK hP 0 rfl rfl 0 (by decide) w_1 (fun _ h9 => h9) rfl dX1_close_1 ?_
  refine lv_iload_n hx hb dX1_close_4 rfl (lv_at hl 1 rfl) ?_
  refine lv_iload_n hx hb dX1_close_5 rfl (lv_at hl 2 rfl) ?_
  obtain ⟨⟨r1_this_kinds, r1_this_numbers, r1_this_size⟩, gr1, h⟩ := Option.bind_eq_some_iff.mp h
  try dsimp only at h
  have hPc := hP.sub (ws' := W_X0_add h_this_code h_this_code_kinds h_this_code_numbers k_this_code_kinds k_this_code_numbers v_this_code_kinds v_this_code_numbers v_this_code_size) [1, 2, 3] rfl
  have hDc := hD.sub (ws' := W_X0_add h_this_code h_this_code_kinds h_this_code_numbers k_this_code_kinds k_this_code_numbers v_this_code_kinds v_this_code_numbers v_this_code_size) [1, 2, 3] (by decide) rfl
  have hKc := hK.sub (tys' := [(k_this_code_kinds, .int), (k_this_code_numbers, .int)]) [0, 1] rfl
  have hFc := va_free (wc := W_X0_add h_this_code h_this_code_kinds h_this_code_numbers k_this_code_kinds k_this_code_numbers v_this_code_kinds v_this_code_numbers v_this_code_size) hD hS hA [1, 2, 3] rfl
  refine va_callv (va_runV (As := [.int a_p1, .int a_p2]) (rest := []) ⟨hx, hb, hml, hown, hts⟩ (c_X0_add l dC dI h_this_code h_this_code_kinds h_this_code_numbers k_this_code_kinds k_this_code_numbers H.size v_this_code_kinds v_this_code_numbers v_this_code_size a_p1 a_p2 (r1_this_kinds, r1_this_numbers, r1_this_size) gr1) (cwV 2 hts gX1_close_X0_add rfl rfl rfl hd_X0_add ⟨Nat.le_of_ble_eq_true rfl, Nat.le_of_ble_eq_true rfl⟩) (preV hKc hPc hDc (va_recv hK hP (ci := 0) (q0 := 1) rfl rfl)) rfl rfl hl.1 rfl (lv_room (Nat.le_of_ble_eq_true rfl)) dX1_close_6 ⟨Nat.zero_le _, Nat.zero_le _⟩) hS (fun q _ h => hFc q h) hFc (fun ur1 tr1 H1 locs htr1 hvmr1 hw hB hz1 hk1 hS => ?_)
  obtain rfl := hw.symm
  obtain ⟨hP1, hK1, hD1⟩ := hB
  rw [htr1] at hP1
  obtain ⟨hP, hD⟩ := va_join (wr := [(h_this, .inr (1, [.ref h_this_code, .ref h_this_ends, .int v_this_size])), (h_this_ends, .inl (k_this_ends, 100, .inl (v_this_ends)))]) (w1 := W_X0_add h_this_code h_this_code_kinds h_this_code_numbers k_this_code_kinds k_this_code_numbers r1_this_kinds r1_this_numbers r1_this_size) hP hD [1, 2, 3] [0, 4] rfl rfl (by decide) (by decide) hk1 hFc hP1 hD1
  have hP := hP.sub (ws' := [(h_this, .inr (1, [.ref h_this_code, .ref h_this_ends, .int v_this_size])), (h_this_code, .inr (0, [.ref h_this_code_kinds, .ref h_this_code_numbers, .int r1_this_size])), (h_this_code_kinds, .inl (k_this_code_kinds, 300, .inl (r1_this_kinds))), (h_this_code_numbers, .inl (k_this_code_numbers, 300, .inl (r1_this_numbers))), (h_this_ends, .inl (k_this_ends, 100, .inl (v_this_ends)))]) [0, 2, 3, 4, 1] rfl
  have hD := hD.sub (ws' := [(h_this, .inr (1, [.ref h_this_code, .ref h_this_ends, .int v_this_size])), (h_this_code, .inr (0, [.ref h_this_code_kinds, .ref h_this_code_numbers, .int r1_this_size])), (h_this_code_kinds, .inl (k_this_code_kinds, 300, .inl (r1_this_kinds))), (h_this_code_numbers, .inl (k_this_code_numbers, 300, .inl (r1_this_numbers))), (h_this_ends, .inl (k_this_ends, 100, .inl (v_this_ends)))]) [0, 2, 3, 4, 1] (by decide) rfl
  generalize H1 = H at hP hS ⊢
  clear hk1 hz1
  refine lv_aload_n hx hb dX1_close_9 rfl (lv_at hl 0 rfl) ?_
  refine va_get (D := (dC, dI)) (ci := 1) (v := .int v_this_size) (C := RX1) (T := TX1) (N := 3) hx hb hts in_X1 hown hK hP 0 rfl rfl 2 (by decide) w_2 (fun _ h9 => h9) rfl dX1_close_10 ?_
  refine lv_bipush (v := 100) hx hb dX1_close_13 (by decide) ?_
  refine lv_icmp_ge (tgt := 44) hx hb dX1_close_15 (by decide) (fun c3 => ?_) (fun c3 => ?_)
  · have h := it_t h c3
    obtain rfl := Option.some.inj h
    exact W.vret hx hb hr (fun t ht hW => ⟨⟨(r1_this_kinds, r1_this_numbers, r1_this_size, v_this_ends, v_this_size), rfl, rfl, by rw [ht]; exact hP, va_K.moved hW.alike hK, hD⟩, hS.F ht⟩) hS.2.2 dX1_close_44
  · have h := it_f h c3
    refine lv_aload_n hx hb dX1_close_18 rfl (lv_at hl 0 rfl) ?_
    refine va_get (D := (dC, dI)) (ci := 1) (v := .ref h_this_ends) (C := RX1) (T := TX1) (N := 3) hx hb hts in_X1 hown hK hP 0 rfl rfl 1 (by decide) w_3 (fun _ h9 => h9) rfl dX1_close_19 ?_
    refine lv_aload_n hx hb dX1_close_22 rfl (lv_at hl 0 rfl) ?_
    refine va_get (D := (dC, dI)) (ci := 1) (v := .int v_this_size) (C := RX1) (T := TX1) (N := 3) hx hb hts in_X1 hown hK hP 0 rfl rfl 2 (by decide) w_2 (fun _ h9 => h9) rfl dX1_close_23 ?_
    refine lv_aload_n hx hb dX1_close_26 rfl (lv_at hl 0 rfl) ?_
    refine va_get (D := (dC, dI)) (ci := 1) (v := .ref h_this_code) (C := RX1) (T := TX1) (N := 3) hx hb hts in_X1 hown hK hP 0 rfl rfl 0 (by decide) w_1 (fun _ h9 => h9) rfl dX1_close_27 ?_
    refine va_getN (D := (dC, dI)) (ci := 0) (v := .int r1_this_size) (C := RX0) (T := TX0) (N := 3) hx hb hts in_X0 hown hK hP 1 rfl rfl 2 (by decide) (va_Nw.use rfl (hE.1 _ (nz_X1_26 : _ ∈ nzL))) (fun _ h9 => h9) rfl dX1_close_30 ?_
    obtain ⟨i4, h⟩ := ixd_ok h
    refine va_iast hx hb hK hP hD hS 4 2 rfl rfl i4 dX1_close_33 (fun H locs hP hD hS => ?_)
    have hP : va_P (dC, dI) vwCl [(h_this, .inr (1, [.ref h_this_code, .ref h_this_ends, .int v_this_size])), (h_this_code, .inr (0, [.ref h_this_code_kinds, .ref h_this_code_numbers, .int r1_this_size])), (h_this_code_kinds, .inl (k_this_code_kinds, 300, .inl (r1_this_kinds))), (h_this_code_numbers, .inl (k_this_code_numbers, 300, .inl (r1_this_numbers))), (h_this_ends, .inl (k_this_ends, 100, .inl (upd v_this_ends v_this_size.toNatClampNeg r1_this_size)))] H := hP
    have hD : va_D A [(h_this, .inr (1, [.ref h_this_code, .ref h_this_ends, .int v_this_size])), (h_this_code, .inr (0, [.ref h_this_code_kinds, .ref h_this_code_numbers, .int r1_this_size])), (h_this_code_kinds, .inl (k_this_code_kinds, 300, .inl (r1_this_kinds))), (h_this_code_numbers, .inl (k_this_code_numbers, 300, .inl (r1_this_numbers))), (h_this_ends, .inl (k_this_ends, 100, .inl (upd v_this_ends v_this_size.toNatClampNeg r1_this_size)))] := hD
    refine lv_aload_n hx hb dX1_close_34 rfl (lv_at hl 0 rfl) ?_
    refine lv_dup hx hb dX1_close_35 rfl ?_
    refine va_get (D := (dC, dI)) (ci := 1) (v := .int v_this_size) (C := RX1) (T := TX1) (N := 3) hx hb hts in_X1 hown hK hP 0 rfl rfl 2 (by decide) w_2 (fun _ h9 => h9) rfl dX1_close_36 ?_
    refine lv_iconst (v := 1) hx hb dX1_close_39 (by decide) ?_
    refine lv_iadd hx hb dX1_close_40 ?_
    refine va_put (D := (dC, dI)) (ci := 1) (v := .int (v_this_size + 1)) (ty := .int) (C := RX1) (T := TX1) (N := 3) hx hb hts in_X1 tyX1 tyX1_ok nmX1 hown hK hP hD hS 0 rfl rfl 2 (by decide) w_2 (fun _ h9 => h9) rfl (by decide +kernel) rfl rfl (Nat.le_of_ble_eq_true rfl) dX1_close_41 (fun H locs hP hD hS => ?_)
    have hP : va_P (dC, dI) vwCl [(h_this, .inr (1, [.ref h_this_code, .ref h_this_ends, .int (v_this_size + 1)])), (h_this_code, .inr (0, [.ref h_this_code_kinds, .ref h_this_code_numbers, .int r1_this_size])), (h_this_code_kinds, .inl (k_this_code_kinds, 300, .inl (r1_this_kinds))), (h_this_code_numbers, .inl (k_this_code_numbers, 300, .inl (r1_this_numbers))), (h_this_ends, .inl (k_this_ends, 100, .inl (upd v_this_ends v_this_size.toNatClampNeg r1_this_size)))] H := hP
    have hD : va_D A [(h_this, .inr (1, [.ref h_this_code, .ref h_this_ends, .int (v_this_size + 1)])), (h_this_code, .inr (0, [.ref h_this_code_kinds, .ref h_this_code_numbers, .int r1_this_size])), (h_this_code_kinds, .inl (k_this_code_kinds, 300, .inl (r1_this_kinds))), (h_this_code_numbers, .inl (k_this_code_numbers, 300, .inl (r1_this_numbers))), (h_this_ends, .inl (k_this_ends, 100, .inl (upd v_this_ends v_this_size.toNatClampNeg r1_this_size)))] := hD
    obtain rfl := Option.some.inj h
    exact W.vret hx hb hr (fun t ht hW => ⟨⟨(r1_this_kinds, r1_this_numbers, r1_this_size, upd v_this_ends v_this_size.toNatClampNeg r1_this_size, v_this_size + 1), rfl, rfl, by rw [ht]; exact hP, va_K.moved hW.alike hK, hD⟩, hS.F ht⟩) hS.2.2 dX1_close_44
