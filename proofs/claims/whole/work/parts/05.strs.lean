/-! String.length, String.charAt over the four texts of the scribe -/
def f_J0_coder_7d493 (i : Nat) : Option (Int32 × Unit) := if i < 4 then some (0, ()) else none
theorem hdn_J0_coder_7d493 : yJ0_coder_7d493.cls ≠ "java/lang/invoke/MethodHandle" ∧ yJ0_coder_7d493.cls ≠ "java/lang/invoke/VarHandle" ∧ (parseMethodDescriptor yJ0_coder_7d493.desc).map (fun d => d.parameters.length) = some 0 := by decide +kernel
theorem hd_J0_coder_7d493 : yJ0_coder_7d493.cls = RJ0 ∧ yJ0_coder_7d493.cls ≠ "java/lang/invoke/MethodHandle" ∧ yJ0_coder_7d493.cls ≠ "java/lang/invoke/VarHandle" ∧ (parseMethodDescriptor yJ0_coder_7d493.desc).map (fun d => d.parameters.length) = some 0 := ⟨rfl, hdn_J0_coder_7d493⟩
set_option maxHeartbeats 4000000 in
set_option maxRecDepth 100000 in
theorem c_J0_coder_7d493 (l : Launch) (dC : Nat → ClassId) (dI : Nat → Nat → Nat) (adK adV : Nat → Nat) (sz : Nat) (a_this : Nat) (res : Int32 × Unit) (hd : f_J0_coder_7d493 a_this = some res) : Met l yJ0_coder_7d493 wsJ0_coder_7d493 ({ frames := 0, cells := 0, slots := 0, locals := 0 }) (va_Pc [.ref (adK a_this)] (fun U => mPre dC dI [] [] sz U ∧ env adK adV (va_A [] sz) U U.heap)) (va_Qi (fun (r : Int32) (u : Unit) => r = res.1 ∧ u = res.2) (fun (u : Unit) t => mPost dC dI (va_A [] sz) [] [] t) (va_A [] sz)) 0 0 (va_A [] sz) := by
  refine Met.ofW (cc := cJ0_coder_7d493) (maxL := 1) (ret := (some .byte)) (by decide) rfl ?_
  intro p e s m args below meth c s₁ B hml hv
  obtain ⟨rfl, ⟨hsz, hP, hK, hD0⟩, hE⟩ := hv
  have hx := B.exec
  have hb := B.bytes
  have hr := B.returns
  have hts := atoms_spec (ws := wsJ0_coder_7d493) B.pre
  have hown : s.vm.findClass RJ0 = some m.cls := findClass_of_methodNamed B.named
  have hlocks := B.notSynchronized
  have w_1 := hts (.fieldLink RJ0 38 "java/lang/String" "COMPACT_STRINGS" "Z") (by decide +kernel)
  have w_2 := hts (.fieldLink RJ0 15 "java/lang/String" "coder" "B") (by decide +kernel)
  subst hsz
  have hD := hD0.self (sz := s.heap.size)
  generalize hAe : va_A [] s.heap.size = A at hD hE ⊢
  have hA : ∀ q : Nat, s.heap.size ≤ q → A q := fun q h => by rw [← hAe]; exact Or.inr h
  clear hAe hD0
  have hS : va_S A s.heap s.heap [] := va_S.rf
  have hl := lv_entry ([.ref (adK a_this)]) (n := 1) (Nat.le_of_ble_eq_true rfl)
  rw [lg_entry_eq]
  generalize (lg_sl ([.ref (adK a_this)]) ++ List.replicate (1 - (lg_sl ([.ref (adK a_this)])).length) Slot.unset).toArray = ls at hl ⊢
  obtain ⟨H, hHe⟩ : ∃ H, H = s.heap := ⟨_, rfl⟩
  obtain ⟨locs, hLe⟩ : ∃ L : List Loc, L = [] := ⟨_, rfl⟩
  have hS : va_S A s.heap H locs := by rw [hHe, hLe]; exact hS
  have hP : va_P (dC, dI) vwCl [] H := by rw [hHe]; exact hP
  rw [show W p l e (headSpec wsJ0_coder_7d493 ({ frames := 0, cells := 0, slots := 0, locals := 0 })).room s m ([.ref (adK a_this)]).toArray below meth c s.heap [] 0 0 = W p l e (headSpec wsJ0_coder_7d493 ({ frames := 0, cells := 0, slots := 0, locals := 0 })).room s m ([.ref (adK a_this)]).toArray below meth c H locs 0 0 by rw [hHe, hLe]]
  clear hHe hLe
  have h := hd
  unfold f_J0_coder_7d493 at h
  by_cases hi : a_this < 4
  · have h := it_t h hi
    refine va_gets hx hb hE.2.2.2.2.2.2.2.2.2.2.2.1 hS hown w_1 (fun _ h9 => h9) dJ0_coder_7d493_0 ?_
    refine lv_if_eq (tgt := 13) hx hb dJ0_coder_7d493_3 (by decide) (fun c => absurd c (by decide)) (fun _ => ?_)
    refine lv_aload_n hx hb dJ0_coder_7d493_6 rfl (lv_at hl 0 rfl) ?_
    refine vk_getf hx hb (hE.2.2.2.2.2.2.1.1 a_this hi).2.1 hS hown w_2 (fun _ h9 => h9) dJ0_coder_7d493_7 ?_
    refine lv_goto (tgt := 14) hx hb dJ0_coder_7d493_10 (by decide) ?_
    obtain rfl := Option.some.inj h
    exact W.zret (v := 0) hx hb hr (by decide) (fun t ht hW => ⟨⟨0, (), rfl, ⟨rfl, rfl⟩, by rw [ht]; exact hP, va_K.moved hW.alike hK, hD⟩, hS.F ht⟩) hS.2.2 dJ0_coder_7d493_14
  · cases it_f h hi
def f_J0_isLatin1_aae02 (i : Nat) : Option (Int32 × Unit) := if i < 4 then some (1, ()) else none
theorem hdn_J0_isLatin1_aae02 : yJ0_isLatin1_aae02.cls ≠ "java/lang/invoke/MethodHandle" ∧ yJ0_isLatin1_aae02.cls ≠ "java/lang/invoke/VarHandle" ∧ (parseMethodDescriptor yJ0_isLatin1_aae02.desc).map (fun d => d.parameters.length) = some 0 := by decide +kernel
theorem hd_J0_isLatin1_aae02 : yJ0_isLatin1_aae02.cls = RJ0 ∧ yJ0_isLatin1_aae02.cls ≠ "java/lang/invoke/MethodHandle" ∧ yJ0_isLatin1_aae02.cls ≠ "java/lang/invoke/VarHandle" ∧ (parseMethodDescriptor yJ0_isLatin1_aae02.desc).map (fun d => d.parameters.length) = some 0 := ⟨rfl, hdn_J0_isLatin1_aae02⟩
set_option maxHeartbeats 4000000 in
set_option maxRecDepth 100000 in
theorem c_J0_isLatin1_aae02 (l : Launch) (dC : Nat → ClassId) (dI : Nat → Nat → Nat) (adK adV : Nat → Nat) (sz : Nat) (a_this : Nat) (res : Int32 × Unit) (hd : f_J0_isLatin1_aae02 a_this = some res) : Met l yJ0_isLatin1_aae02 wsJ0_isLatin1_aae02 ({ frames := 0, cells := 0, slots := 0, locals := 0 }) (va_Pc [.ref (adK a_this)] (fun U => mPre dC dI [] [] sz U ∧ env adK adV (va_A [] sz) U U.heap)) (va_Qi (fun (r : Int32) (u : Unit) => r = res.1 ∧ u = res.2) (fun (u : Unit) t => mPost dC dI (va_A [] sz) [] [] t) (va_A [] sz)) 0 0 (va_A [] sz) := by
  refine Met.ofW (cc := cJ0_isLatin1_aae02) (maxL := 1) (ret := (some .boolean)) (by decide) rfl ?_
  intro p e s m args below meth c s₁ B hml hv
  obtain ⟨rfl, ⟨hsz, hP, hK, hD0⟩, hE⟩ := hv
  have hx := B.exec
  have hb := B.bytes
  have hr := B.returns
  have hts := atoms_spec (ws := wsJ0_isLatin1_aae02) B.pre
  have hown : s.vm.findClass RJ0 = some m.cls := findClass_of_methodNamed B.named
  have hlocks := B.notSynchronized
  have w_1 := hts (.fieldLink RJ0 38 "java/lang/String" "COMPACT_STRINGS" "Z") (by decide +kernel)
  have w_2 := hts (.fieldLink RJ0 15 "java/lang/String" "coder" "B") (by decide +kernel)
  subst hsz
  have hD := hD0.self (sz := s.heap.size)
  generalize hAe : va_A [] s.heap.size = A at hD hE ⊢
  have hA : ∀ q : Nat, s.heap.size ≤ q → A q := fun q h => by rw [← hAe]; exact Or.inr h
  clear hAe hD0
  have hS : va_S A s.heap s.heap [] := va_S.rf
  have hl := lv_entry ([.ref (adK a_this)]) (n := 1) (Nat.le_of_ble_eq_true rfl)
  rw [lg_entry_eq]
  generalize (lg_sl ([.ref (adK a_this)]) ++ List.replicate (1 - (lg_sl ([.ref (adK a_this)])).length) Slot.unset).toArray = ls at hl ⊢
  obtain ⟨H, hHe⟩ : ∃ H, H = s.heap := ⟨_, rfl⟩
  obtain ⟨locs, hLe⟩ : ∃ L : List Loc, L = [] := ⟨_, rfl⟩
  have hS : va_S A s.heap H locs := by rw [hHe, hLe]; exact hS
  have hP : va_P (dC, dI) vwCl [] H := by rw [hHe]; exact hP
  rw [show W p l e (headSpec wsJ0_isLatin1_aae02 ({ frames := 0, cells := 0, slots := 0, locals := 0 })).room s m ([.ref (adK a_this)]).toArray below meth c s.heap [] 0 0 = W p l e (headSpec wsJ0_isLatin1_aae02 ({ frames := 0, cells := 0, slots := 0, locals := 0 })).room s m ([.ref (adK a_this)]).toArray below meth c H locs 0 0 by rw [hHe, hLe]]
  clear hHe hLe
  have h := hd
  unfold f_J0_isLatin1_aae02 at h
  by_cases hi : a_this < 4
  · have h := it_t h hi
    refine va_gets hx hb hE.2.2.2.2.2.2.2.2.2.2.2.1 hS hown w_1 (fun _ h9 => h9) dJ0_isLatin1_aae02_0 ?_
    refine lv_if_eq (tgt := 17) hx hb dJ0_isLatin1_aae02_3 (by decide) (fun c => absurd c (by decide)) (fun _ => ?_)
    refine lv_aload_n hx hb dJ0_isLatin1_aae02_6 rfl (lv_at hl 0 rfl) ?_
    refine vk_getf hx hb (hE.2.2.2.2.2.2.1.1 a_this hi).2.1 hS hown w_2 (fun _ h9 => h9) dJ0_isLatin1_aae02_7 ?_
    refine lv_if_ne (tgt := 17) hx hb dJ0_isLatin1_aae02_10 (by decide) (fun c => absurd rfl c) (fun _ => ?_)
    refine lv_iconst (v := 1) hx hb dJ0_isLatin1_aae02_13 (by decide) ?_
    refine lv_goto (tgt := 18) hx hb dJ0_isLatin1_aae02_14 (by decide) ?_
    obtain rfl := Option.some.inj h
    exact W.zret (v := 1) hx hb hr (by decide) (fun t ht hW => ⟨⟨1, (), rfl, ⟨rfl, rfl⟩, by rw [ht]; exact hP, va_K.moved hW.alike hK, hD⟩, hS.F ht⟩) hS.2.2 dJ0_isLatin1_aae02_18
  · cases it_f h hi
def f_J0_length_8abf5 (a_this : Nat) : Option (Int32 × Unit) := if a_this < 4 then some ((Int32.ofNat (strLen.getD a_this 0) >>> ((0 : Int32) &&& 31)), ()) else none
theorem hdn_J0_length_8abf5 : yJ0_length_8abf5.cls ≠ "java/lang/invoke/MethodHandle" ∧ yJ0_length_8abf5.cls ≠ "java/lang/invoke/VarHandle" ∧ (parseMethodDescriptor yJ0_length_8abf5.desc).map (fun d => d.parameters.length) = some 0 := by decide +kernel
theorem hd_J0_length_8abf5 : yJ0_length_8abf5.cls = RJ0 ∧ yJ0_length_8abf5.cls ≠ "java/lang/invoke/MethodHandle" ∧ yJ0_length_8abf5.cls ≠ "java/lang/invoke/VarHandle" ∧ (parseMethodDescriptor yJ0_length_8abf5.desc).map (fun d => d.parameters.length) = some 0 := ⟨rfl, hdn_J0_length_8abf5⟩
set_option maxHeartbeats 4000000 in
set_option maxRecDepth 100000 in
theorem c_J0_length_8abf5 (l : Launch) (dC : Nat → ClassId) (dI : Nat → Nat → Nat) (adK adV : Nat → Nat) (sz : Nat) (a_this : Nat) (res : Int32 × Unit) (hd : f_J0_length_8abf5 a_this = some res) : Met l yJ0_length_8abf5 wsJ0_length_8abf5 ({ frames := 1, cells := 0, slots := 0, locals := 20 }) (va_Pc [.ref (adK a_this)] (fun U => mPre dC dI [] [] sz U ∧ env adK adV (va_A [] sz) U U.heap)) (va_Qi (fun (r : Int32) (u : Unit) => r = res.1 ∧ u = res.2) (fun (u : Unit) t => mPost dC dI (va_A [] sz) [] [] t) (va_A [] sz)) 0 0 (va_A [] sz) := by
  refine Met.ofW (cc := cJ0_length_8abf5) (maxL := 1) (ret := (some .int)) (by decide) rfl ?_
  intro p e s m args below meth c s₁ B hml hv
  obtain ⟨rfl, ⟨hsz, hP, hK, hD0⟩, hE⟩ := hv
  have hx := B.exec
  have hb := B.bytes
  have hr := B.returns
  have hts := atoms_spec (ws := wsJ0_length_8abf5) B.pre
  have hown : s.vm.findClass RJ0 = some m.cls := findClass_of_methodNamed B.named
  have hlocks := B.notSynchronized
  have w_1 := hts (.fieldLink RJ0 9 "java/lang/String" "value" "[B") (by decide +kernel)
  subst hsz
  have hD := hD0.self (sz := s.heap.size)
  generalize hAe : va_A [] s.heap.size = A at hD hE ⊢
  have hA : ∀ q : Nat, s.heap.size ≤ q → A q := fun q h => by rw [← hAe]; exact Or.inr h
  clear hAe hD0
  have hS : va_S A s.heap s.heap [] := va_S.rf
  have hl := lv_entry ([.ref (adK a_this)]) (n := 1) (Nat.le_of_ble_eq_true rfl)
  rw [lg_entry_eq]
  generalize (lg_sl ([.ref (adK a_this)]) ++ List.replicate (1 - (lg_sl ([.ref (adK a_this)])).length) Slot.unset).toArray = ls at hl ⊢
  obtain ⟨H, hHe⟩ : ∃ H, H = s.heap := ⟨_, rfl⟩
  obtain ⟨locs, hLe⟩ : ∃ L : List Loc, L = [] := ⟨_, rfl⟩
  have hS : va_S A s.heap H locs := by rw [hHe, hLe]; exact hS
  have hP : va_P (dC, dI) vwCl [] H := by rw [hHe]; exact hP
  rw [show W p l e (headSpec wsJ0_length_8abf5 ({ frames := 1, cells := 0, slots := 0, locals := 20 })).room s m ([.ref (adK a_this)]).toArray below meth c s.heap [] 0 0 = W p l e (headSpec wsJ0_length_8abf5 ({ frames := 1, cells := 0, slots := 0, locals := 20 })).room s m ([.ref (adK a_this)]).toArray below meth c H locs 0 0 by rw [hHe, hLe]]
  clear hHe hLe
  have h := hd
  unfold f_J0_length_8abf5 at h
  by_cases hi : a_this < 4
  · have h := it_t h hi
    refine lv_aload_n hx hb dJ0_length_8abf5_0 rfl (lv_at hl 0 rfl) ?_
    refine vk_getf hx hb (hE.2.2.2.2.2.2.1.1 a_this hi).2.2.1 hS hown w_1 (fun _ h9 => h9) dJ0_length_8abf5_1 ?_
    refine va_tlen (v := Int32.ofNat (strLen.getD a_this 0)) hx hb (hE.2.2.2.2.2.2.1.1 a_this hi).2.2.2 hS rfl dJ0_length_8abf5_4 ?_
    refine lv_aload_n hx hb dJ0_length_8abf5_5 rfl (lv_at hl 0 rfl) ?_
    have hPc := hP.sub (ws' := []) [] rfl
    have hDc := hD.sub (ws' := []) [] (by decide) rfl
    have hKc := hK.sub (tys' := []) [] rfl
    have hFc := va_free (wc := []) hD hS hA [] rfl
    refine va_calli (va_runV (As := []) (rest := [.int (Int32.ofNat (strLen.getD a_this 0))]) ⟨hx, hb, hml, hown, hts⟩ (c_J0_coder_7d493 l dC dI adK adV H.size a_this (0, ()) (if_pos hi)) (cwV 0 hts gJ0_length_8abf5_J0_coder_7d493 rfl rfl rfl hd_J0_coder_7d493 ⟨Nat.le_of_ble_eq_true rfl, Nat.le_of_ble_eq_true rfl⟩) (preVE hKc hPc hDc (vk_recv hE.2.2.2.2.2.2.1 hi hS) (fun U hU hW => envp hE hS hFc hU hW)) rfl rfl hl.1 rfl (lv_room (Nat.le_of_ble_eq_true rfl)) dJ0_length_8abf5_6 ⟨Nat.zero_le _, Nat.zero_le _⟩) hS (fun q _ h => hFc q h) hFc (fun a1 u1 t1 H1 locs ht hvm hw hB hz1 hk1 hS => ?_)
    obtain ⟨rfl, rfl⟩ := And.intro hw.1.symm hw.2.symm
    have hP : va_P (dC, dI) vwCl [] H1 := fun k q hq => by simp at hq
    generalize H1 = H at hP hS ⊢
    clear hk1 hz1
    refine lv_ishr hx hb dJ0_length_8abf5_9 ?_
    obtain rfl := Option.some.inj h
    exact W.iret (v := (Int32.ofNat (strLen.getD a_this 0) >>> ((0 : Int32) &&& 31))) hx hb hr (fun t ht hW => ⟨⟨(Int32.ofNat (strLen.getD a_this 0) >>> ((0 : Int32) &&& 31)), (), rfl, ⟨rfl, rfl⟩, by rw [ht]; exact hP, va_K.moved hW.alike hK, hD⟩, hS.F ht⟩) hS.2.2 dJ0_length_8abf5_10
  · cases it_f h hi
theorem f_J0_length_8abf5_in {i : Nat} {r : Int32 × Unit} (h : f_J0_length_8abf5 i = some r) : i < 4 := by
  unfold f_J0_length_8abf5 at h
  by_cases hi : i < 4
  · exact hi
  · cases it_f h hi
def f_J3_checkIndex (k n : Int32) : Option (Int32 × Unit) := if k < 0 then none else if k < n then some (k, ()) else none
theorem hdn_J3_checkIndex_8e157 : yJ3_checkIndex_8e157.cls ≠ "java/lang/invoke/MethodHandle" ∧ yJ3_checkIndex_8e157.cls ≠ "java/lang/invoke/VarHandle" ∧ (parseMethodDescriptor yJ3_checkIndex_8e157.desc).map (fun d => d.parameters.length) = some 3 := by decide +kernel
set_option maxHeartbeats 4000000 in
set_option maxRecDepth 100000 in
theorem c_J3_checkIndex_8e157null (l : Launch) (dC : Nat → ClassId) (dI : Nat → Nat → Nat) (adK adV : Nat → Nat) (sz : Nat) (a_p1 a_p2 : Int32)  (res : Int32 × Unit) (hd : f_J3_checkIndex a_p1 a_p2 = some res) : Met l yJ3_checkIndex_8e157 wsJ3_checkIndex_8e157 ({ frames := 0, cells := 0, slots := 0, locals := 0 }) (va_Pc [.int a_p1, .int a_p2, .null] (fun U => mPre dC dI [] [] sz U ∧ env adK adV (va_A [] sz) U U.heap)) (va_Qi (fun (r : Int32) (u : Unit) => r = res.1 ∧ u = res.2) (fun (u : Unit) t => mPost dC dI (va_A [] sz) [] [] t) (va_A [] sz)) 0 0 (va_A [] sz) := by
  refine Met.ofW (cc := cJ3_checkIndex_8e157) (maxL := 3) (ret := (some .int)) (by decide) rfl ?_
  intro p e s m args below meth c s₁ B hml hv
  obtain ⟨rfl, ⟨hsz, hP, hK, hD0⟩, hE⟩ := hv
  have hx := B.exec
  have hb := B.bytes
  have hr := B.returns
  have hts := atoms_spec (ws := wsJ3_checkIndex_8e157) B.pre
  have hown : s.vm.findClass RJ3 = some m.cls := findClass_of_methodNamed B.named
  have hlocks := B.notSynchronized
  subst hsz
  have hD := hD0.self (sz := s.heap.size)
  generalize hAe : va_A [] s.heap.size = A at hD hE ⊢
  have hA : ∀ q : Nat, s.heap.size ≤ q → A q := fun q h => by rw [← hAe]; exact Or.inr h
  clear hAe hD0
  have hS : va_S A s.heap s.heap [] := va_S.rf
  have hl := lv_entry ([.int a_p1, .int a_p2, .null]) (n := 3) (Nat.le_of_ble_eq_true rfl)
  rw [lg_entry_eq]
  generalize (lg_sl ([.int a_p1, .int a_p2, .null]) ++ List.replicate (3 - (lg_sl ([.int a_p1, .int a_p2, .null])).length) Slot.unset).toArray = ls at hl ⊢
  obtain ⟨H, hHe⟩ : ∃ H, H = s.heap := ⟨_, rfl⟩
  obtain ⟨locs, hLe⟩ : ∃ L : List Loc, L = [] := ⟨_, rfl⟩
  have hS : va_S A s.heap H locs := by rw [hHe, hLe]; exact hS
  have hP : va_P (dC, dI) vwCl [] H := by rw [hHe]; exact hP
  rw [show W p l e (headSpec wsJ3_checkIndex_8e157 ({ frames := 0, cells := 0, slots := 0, locals := 0 })).room s m ([.int a_p1, .int a_p2, .null]).toArray below meth c s.heap [] 0 0 = W p l e (headSpec wsJ3_checkIndex_8e157 ({ frames := 0, cells := 0, slots := 0, locals := 0 })).room s m ([.int a_p1, .int a_p2, .null]).toArray below meth c H locs 0 0 by rw [hHe, hLe]]
  clear hHe hLe
  have h := hd
  unfold f_J3_checkIndex at h
  by_cases c1 : a_p1 < 0
  · cases it_t h c1
  · have h := it_f h c1
    by_cases c2 : a_p1 < a_p2
    · have h := it_t h c2
      refine lv_iload_n hx hb dJ3_checkIndex_8e157_0 rfl (lv_at hl 0 rfl) ?_
      refine lv_if_lt (tgt := 9) hx hb dJ3_checkIndex_8e157_1 (by decide) (fun c => absurd c c1) (fun _ => ?_)
      refine lv_iload_n hx hb dJ3_checkIndex_8e157_4 rfl (lv_at hl 0 rfl) ?_
      refine lv_iload_n hx hb dJ3_checkIndex_8e157_5 rfl (lv_at hl 1 rfl) ?_
      refine lv_icmp_lt (tgt := 16) hx hb dJ3_checkIndex_8e157_6 (by decide) (fun _ => ?_) (fun c => absurd c2 c)
      refine lv_iload_n hx hb dJ3_checkIndex_8e157_16 rfl (lv_at hl 0 rfl) ?_
      obtain rfl := Option.some.inj h
      exact W.iret (v := a_p1) hx hb hr (fun t ht hW => ⟨⟨a_p1, (), rfl, ⟨rfl, rfl⟩, by rw [ht]; exact hP, va_K.moved hW.alike hK, hD⟩, hS.F ht⟩) hS.2.2 dJ3_checkIndex_8e157_17
    · cases it_f h c2
set_option maxHeartbeats 4000000 in
set_option maxRecDepth 100000 in
theorem c_J3_checkIndex_8e157ref (l : Launch) (dC : Nat → ClassId) (dI : Nat → Nat → Nat) (adK adV : Nat → Nat) (sz : Nat) (a_p1 a_p2 : Int32) (a_t : Nat) (res : Int32 × Unit) (hd : f_J3_checkIndex a_p1 a_p2 = some res) : Met l yJ3_checkIndex_8e157 wsJ3_checkIndex_8e157 ({ frames := 0, cells := 0, slots := 0, locals := 0 }) (va_Pc [.int a_p1, .int a_p2, .ref a_t] (fun U => mPre dC dI [] [] sz U ∧ env adK adV (va_A [] sz) U U.heap)) (va_Qi (fun (r : Int32) (u : Unit) => r = res.1 ∧ u = res.2) (fun (u : Unit) t => mPost dC dI (va_A [] sz) [] [] t) (va_A [] sz)) 0 0 (va_A [] sz) := by
  refine Met.ofW (cc := cJ3_checkIndex_8e157) (maxL := 3) (ret := (some .int)) (by decide) rfl ?_
  intro p e s m args below meth c s₁ B hml hv
  obtain ⟨rfl, ⟨hsz, hP, hK, hD0⟩, hE⟩ := hv
  have hx := B.exec
  have hb := B.bytes
  have hr := B.returns
  have hts := atoms_spec (ws := wsJ3_checkIndex_8e157) B.pre
  have hown : s.vm.findClass RJ3 = some m.cls := findClass_of_methodNamed B.named
  have hlocks := B.notSynchronized
  subst hsz
  have hD := hD0.self (sz := s.heap.size)
  generalize hAe : va_A [] s.heap.size = A at hD hE ⊢
  have hA : ∀ q : Nat, s.heap.size ≤ q → A q := fun q h => by rw [← hAe]; exact Or.inr h
  clear hAe hD0
  have hS : va_S A s.heap s.heap [] := va_S.rf
  have hl := lv_entry ([.int a_p1, .int a_p2, .ref a_t]) (n := 3) (Nat.le_of_ble_eq_true rfl)
  rw [lg_entry_eq]
  generalize (lg_sl ([.int a_p1, .int a_p2, .ref a_t]) ++ List.replicate (3 - (lg_sl ([.int a_p1, .int a_p2, .ref a_t])).length) Slot.unset).toArray = ls at hl ⊢
  obtain ⟨H, hHe⟩ : ∃ H, H = s.heap := ⟨_, rfl⟩
  obtain ⟨locs, hLe⟩ : ∃ L : List Loc, L = [] := ⟨_, rfl⟩
  have hS : va_S A s.heap H locs := by rw [hHe, hLe]; exact hS
  have hP : va_P (dC, dI) vwCl [] H := by rw [hHe]; exact hP
  rw [show W p l e (headSpec wsJ3_checkIndex_8e157 ({ frames := 0, cells := 0, slots := 0, locals := 0 })).room s m ([.int a_p1, .int a_p2, .ref a_t]).toArray below meth c s.heap [] 0 0 = W p l e (headSpec wsJ3_checkIndex_8e157 ({ frames := 0, cells := 0, slots := 0, locals := 0 })).room s m ([.int a_p1, .int a_p2, .ref a_t]).toArray below meth c H locs 0 0 by rw [hHe, hLe]]
  clear hHe hLe
  have h := hd
  unfold f_J3_checkIndex at h
  by_cases c1 : a_p1 < 0
  · cases it_t h c1
  · have h := it_f h c1
    by_cases c2 : a_p1 < a_p2
    · have h := it_t h c2
      refine lv_iload_n hx hb dJ3_checkIndex_8e157_0 rfl (lv_at hl 0 rfl) ?_
      refine lv_if_lt (tgt := 9) hx hb dJ3_checkIndex_8e157_1 (by decide) (fun c => absurd c c1) (fun _ => ?_)
      refine lv_iload_n hx hb dJ3_checkIndex_8e157_4 rfl (lv_at hl 0 rfl) ?_
      refine lv_iload_n hx hb dJ3_checkIndex_8e157_5 rfl (lv_at hl 1 rfl) ?_
      refine lv_icmp_lt (tgt := 16) hx hb dJ3_checkIndex_8e157_6 (by decide) (fun _ => ?_) (fun c => absurd c2 c)
      refine lv_iload_n hx hb dJ3_checkIndex_8e157_16 rfl (lv_at hl 0 rfl) ?_
      obtain rfl := Option.some.inj h
      exact W.iret (v := a_p1) hx hb hr (fun t ht hW => ⟨⟨a_p1, (), rfl, ⟨rfl, rfl⟩, by rw [ht]; exact hP, va_K.moved hW.alike hK, hD⟩, hS.F ht⟩) hS.2.2 dJ3_checkIndex_8e157_17
    · cases it_f h c2
def f_J0_checkIndex_df160 (k n : Int32) : Option Unit := (f_J3_checkIndex k n).bind fun _ => some ()
theorem hdn_J0_checkIndex_df160 : yJ0_checkIndex_df160.cls ≠ "java/lang/invoke/MethodHandle" ∧ yJ0_checkIndex_df160.cls ≠ "java/lang/invoke/VarHandle" ∧ (parseMethodDescriptor yJ0_checkIndex_df160.desc).map (fun d => d.parameters.length) = some 2 := by decide +kernel
set_option maxHeartbeats 4000000 in
set_option maxRecDepth 100000 in
theorem c_J0_checkIndex_df160 (l : Launch) (dC : Nat → ClassId) (dI : Nat → Nat → Nat) (adK adV : Nat → Nat) (sz : Nat) (a_p1 a_p2 : Int32) (res : Unit) (hd : f_J0_checkIndex_df160 a_p1 a_p2 = some res) : Met l yJ0_checkIndex_df160 wsJ0_checkIndex_df160 ({ frames := 1, cells := 0, slots := 0, locals := 22 }) (va_Pc [.int a_p1, .int a_p2] (fun U => mPre dC dI [] [] sz U ∧ env adK adV (va_A [] sz) U U.heap)) (va_Qv (fun (u : Unit) => u = res) (fun (u : Unit) t => mPost dC dI (va_A [] sz) [] [] t) (va_A [] sz)) 0 0 (va_A [] sz) := by
  refine Met.ofW (cc := cJ0_checkIndex_df160) (maxL := 2) (ret := none) (by decide) rfl ?_
  intro p e s m args below meth c s₁ B hml hv
  obtain ⟨rfl, ⟨hsz, hP, hK, hD0⟩, hE⟩ := hv
  have hx := B.exec
  have hb := B.bytes
  have hr := B.returns
  have hts := atoms_spec (ws := wsJ0_checkIndex_df160) B.pre
  have hown : s.vm.findClass RJ0 = some m.cls := findClass_of_methodNamed B.named
  have hlocks := B.notSynchronized
  have w_1 := hts (.fieldLink RJ0 1053 "jdk/internal/util/Preconditions" "SIOOBE_FORMATTER" "Ljava/util/function/BiFunction;") (by decide +kernel)
  subst hsz
  have hD := hD0.self (sz := s.heap.size)
  generalize hAe : va_A [] s.heap.size = A at hD hE ⊢
  have hA : ∀ q : Nat, s.heap.size ≤ q → A q := fun q h => by rw [← hAe]; exact Or.inr h
  clear hAe hD0
  have hS : va_S A s.heap s.heap [] := va_S.rf
  have hl := lv_entry ([.int a_p1, .int a_p2]) (n := 2) (Nat.le_of_ble_eq_true rfl)
  rw [lg_entry_eq]
  generalize (lg_sl ([.int a_p1, .int a_p2]) ++ List.replicate (2 - (lg_sl ([.int a_p1, .int a_p2])).length) Slot.unset).toArray = ls at hl ⊢
  obtain ⟨H, hHe⟩ : ∃ H, H = s.heap := ⟨_, rfl⟩
  obtain ⟨locs, hLe⟩ : ∃ L : List Loc, L = [] := ⟨_, rfl⟩
  have hS : va_S A s.heap H locs := by rw [hHe, hLe]; exact hS
  have hP : va_P (dC, dI) vwCl [] H := by rw [hHe]; exact hP
  rw [show W p l e (headSpec wsJ0_checkIndex_df160 ({ frames := 1, cells := 0, slots := 0, locals := 22 })).room s m ([.int a_p1, .int a_p2]).toArray below meth c s.heap [] 0 0 = W p l e (headSpec wsJ0_checkIndex_df160 ({ frames := 1, cells := 0, slots := 0, locals := 22 })).room s m ([.int a_p1, .int a_p2]).toArray below meth c H locs 0 0 by rw [hHe, hLe]]
  clear hHe hLe
  have h := hd
  unfold f_J0_checkIndex_df160 at h
  obtain ⟨y, gy, h⟩ := Option.bind_eq_some_iff.mp h
  obtain rfl := Option.some.inj h
  refine lv_iload_n hx hb dJ0_checkIndex_df160_0 rfl (lv_at hl 0 rfl) ?_
  refine lv_iload_n hx hb dJ0_checkIndex_df160_1 rfl (lv_at hl 1 rfl) ?_
  rcases hE.2.2.2.2.2.2.2.2.2.2.2.2 with hZ | ⟨t, hZ⟩
  · refine va_gets hx hb hZ hS hown w_1 (fun _ h9 => h9) dJ0_checkIndex_df160_2 ?_
    have hPc := hP.sub (ws' := []) [] rfl
    have hDc := hD.sub (ws' := []) [] (by decide) rfl
    have hKc := hK.sub (tys' := []) [] rfl
    have hFc := va_free (wc := []) hD hS hA [] rfl
    refine va_calli (va_runS (As := [.int a_p1, .int a_p2, .null]) (rest := []) ⟨hx, hb, hml, hown, hts⟩ (c_J3_checkIndex_8e157null l dC dI adK adV H.size a_p1 a_p2  y gy) (va_cwS 3 hts gJ0_checkIndex_df160_J3_checkIndex_8e157 rfl rfl rfl hdn_J3_checkIndex_8e157 ⟨Nat.le_of_ble_eq_true rfl, Nat.le_of_ble_eq_true rfl⟩) (preSE hKc hPc hDc (fun U hU hW => envp hE hS hFc hU hW)) rfl rfl hl.1 rfl (lv_room (Nat.le_of_ble_eq_true rfl)) dJ0_checkIndex_df160_5 ⟨Nat.zero_le _, Nat.zero_le _⟩) hS (fun q _ h => hFc q h) hFc (fun a1 u1 t1 H1 locs ht hvm hw hB hz1 hk1 hS => ?_)
    obtain ⟨rfl, rfl⟩ := And.intro hw.1.symm hw.2.symm
    have hP : va_P (dC, dI) vwCl [] H1 := fun k q hq => by simp at hq
    generalize H1 = H at hP hS ⊢
    clear hk1 hz1
    refine lv_pop hx hb dJ0_checkIndex_df160_8 rfl ?_
    exact W.vret hx hb hr (fun t ht hW => ⟨⟨(), rfl, rfl, by rw [ht]; exact hP, va_K.moved hW.alike hK, hD⟩, hS.F ht⟩) hS.2.2 dJ0_checkIndex_df160_9
  · refine va_gets hx hb hZ hS hown w_1 (fun _ h9 => h9) dJ0_checkIndex_df160_2 ?_
    have hPc := hP.sub (ws' := []) [] rfl
    have hDc := hD.sub (ws' := []) [] (by decide) rfl
    have hKc := hK.sub (tys' := []) [] rfl
    have hFc := va_free (wc := []) hD hS hA [] rfl
    refine va_calli (va_runS (As := [.int a_p1, .int a_p2, .ref t]) (rest := []) ⟨hx, hb, hml, hown, hts⟩ (c_J3_checkIndex_8e157ref l dC dI adK adV H.size a_p1 a_p2 t y gy) (va_cwS 3 hts gJ0_checkIndex_df160_J3_checkIndex_8e157 rfl rfl rfl hdn_J3_checkIndex_8e157 ⟨Nat.le_of_ble_eq_true rfl, Nat.le_of_ble_eq_true rfl⟩) (preSE hKc hPc hDc (fun U hU hW => envp hE hS hFc hU hW)) rfl rfl hl.1 rfl (lv_room (Nat.le_of_ble_eq_true rfl)) dJ0_checkIndex_df160_5 ⟨Nat.zero_le _, Nat.zero_le _⟩) hS (fun q _ h => hFc q h) hFc (fun a1 u1 t1 H1 locs ht hvm hw hB hz1 hk1 hS => ?_)
    obtain ⟨rfl, rfl⟩ := And.intro hw.1.symm hw.2.symm
    have hP : va_P (dC, dI) vwCl [] H1 := fun k q hq => by simp at hq
    generalize H1 = H at hP hS ⊢
    clear hk1 hz1
    refine lv_pop hx hb dJ0_checkIndex_df160_8 rfl ?_
    exact W.vret hx hb hr (fun t ht hW => ⟨⟨(), rfl, rfl, by rw [ht]; exact hP, va_K.moved hW.alike hK, hD⟩, hS.F ht⟩) hS.2.2 dJ0_checkIndex_df160_9
def f_J1_charAt_3b067 (a_this : Nat) (a_p2 : Int32) : Option (Int32 × Unit) := if a_this < 4 then (f_J0_checkIndex_df160 a_p2 (Int32.ofNat (strLen.getD a_this 0))).bind fun _ => ixd a_p2 (strLen.getD a_this 0) (some ((((strByt.getD a_this []).getD a_p2.toNatClampNeg 0 &&& 255).toUInt32 % 65536).toInt32, ())) else none
theorem hdn_J1_charAt_3b067 : yJ1_charAt_3b067.cls ≠ "java/lang/invoke/MethodHandle" ∧ yJ1_charAt_3b067.cls ≠ "java/lang/invoke/VarHandle" ∧ (parseMethodDescriptor yJ1_charAt_3b067.desc).map (fun d => d.parameters.length) = some 2 := by decide +kernel
set_option maxHeartbeats 4000000 in
set_option maxRecDepth 100000 in
theorem c_J1_charAt_3b067 (l : Launch) (dC : Nat → ClassId) (dI : Nat → Nat → Nat) (adK adV : Nat → Nat) (sz : Nat) (a_this : Nat) (a_p2 : Int32) (res : Int32 × Unit) (hd : f_J1_charAt_3b067 a_this a_p2 = some res) : Met l yJ1_charAt_3b067 wsJ1_charAt_3b067 ({ frames := 2, cells := 0, slots := 0, locals := 43 }) (va_Pc [.ref (adV a_this), .int a_p2] (fun U => mPre dC dI [] [] sz U ∧ env adK adV (va_A [] sz) U U.heap)) (va_Qi (fun (r : Int32) (u : Unit) => r = res.1 ∧ u = res.2) (fun (u : Unit) t => mPost dC dI (va_A [] sz) [] [] t) (va_A [] sz)) 0 0 (va_A [] sz) := by
  refine Met.ofW (cc := cJ1_charAt_3b067) (maxL := 2) (ret := (some .char)) (by decide) rfl ?_
  intro p e s m args below meth c s₁ B hml hv
  obtain ⟨rfl, ⟨hsz, hP, hK, hD0⟩, hE⟩ := hv
  have hx := B.exec
  have hb := B.bytes
  have hr := B.returns
  have hts := atoms_spec (ws := wsJ1_charAt_3b067) B.pre
  have hown : s.vm.findClass RJ1 = some m.cls := findClass_of_methodNamed B.named
  have hlocks := B.notSynchronized
  subst hsz
  have hD := hD0.self (sz := s.heap.size)
  generalize hAe : va_A [] s.heap.size = A at hD hE ⊢
  have hA : ∀ q : Nat, s.heap.size ≤ q → A q := fun q h => by rw [← hAe]; exact Or.inr h
  clear hAe hD0
  have hS : va_S A s.heap s.heap [] := va_S.rf
  have hl := lv_entry ([.ref (adV a_this), .int a_p2]) (n := 2) (Nat.le_of_ble_eq_true rfl)
  rw [lg_entry_eq]
  generalize (lg_sl ([.ref (adV a_this), .int a_p2]) ++ List.replicate (2 - (lg_sl ([.ref (adV a_this), .int a_p2])).length) Slot.unset).toArray = ls at hl ⊢
  obtain ⟨H, hHe⟩ : ∃ H, H = s.heap := ⟨_, rfl⟩
  obtain ⟨locs, hLe⟩ : ∃ L : List Loc, L = [] := ⟨_, rfl⟩
  have hS : va_S A s.heap H locs := by rw [hHe, hLe]; exact hS
  have hP : va_P (dC, dI) vwCl [] H := by rw [hHe]; exact hP
  rw [show W p l e (headSpec wsJ1_charAt_3b067 ({ frames := 2, cells := 0, slots := 0, locals := 43 })).room s m ([.ref (adV a_this), .int a_p2]).toArray below meth c s.heap [] 0 0 = W p l e (headSpec wsJ1_charAt_3b067 ({ frames := 2, cells := 0, slots := 0, locals := 43 })).room s m ([.ref (adV a_this), .int a_p2]).toArray below meth c H locs 0 0 by rw [hHe, hLe]]
  clear hHe hLe
  have h := hd
  unfold f_J1_charAt_3b067 at h
  by_cases hi : a_this < 4
  · have h := it_t h hi
    obtain ⟨y, gy, h⟩ := Option.bind_eq_some_iff.mp h
    obtain ⟨i1, h⟩ := ixd_ok h
    obtain rfl := Option.some.inj h
    refine lv_iload_n hx hb dJ1_charAt_3b067_0 rfl (lv_at hl 1 rfl) ?_
    refine lv_aload_n hx hb dJ1_charAt_3b067_1 rfl (lv_at hl 0 rfl) ?_
    refine va_tlen (v := (Int32.ofNat (strLen.getD a_this 0))) hx hb (hE.2.2.2.2.2.2.1.1 a_this hi).2.2.2 hS rfl dJ1_charAt_3b067_2 ?_
    have hPc := hP.sub (ws' := []) [] rfl
    have hDc := hD.sub (ws' := []) [] (by decide) rfl
    have hKc := hK.sub (tys' := []) [] rfl
    have hFc := va_free (wc := []) hD hS hA [] rfl
    refine va_callv (va_runS (As := [.int a_p2, .int (Int32.ofNat (strLen.getD a_this 0))]) (rest := []) ⟨hx, hb, hml, hown, hts⟩ (c_J0_checkIndex_df160 l dC dI adK adV H.size a_p2 (Int32.ofNat (strLen.getD a_this 0)) y gy) (va_cwS 2 hts gJ1_charAt_3b067_J0_checkIndex_df160 rfl rfl rfl hdn_J0_checkIndex_df160 ⟨Nat.le_of_ble_eq_true rfl, Nat.le_of_ble_eq_true rfl⟩) (preSE hKc hPc hDc (fun U hU hW => envp hE hS hFc hU hW)) rfl rfl hl.1 rfl (lv_room (Nat.le_of_ble_eq_true rfl)) dJ1_charAt_3b067_3 ⟨Nat.zero_le _, Nat.zero_le _⟩) hS (fun q _ h => hFc q h) hFc (fun u1 t1 H1 locs ht hvm hw hB hz1 hk1 hS => ?_)
    obtain rfl := hw.symm
    have hP : va_P (dC, dI) vwCl [] H1 := fun k q hq => by simp at hq
    generalize H1 = H at hP hS ⊢
    clear hk1 hz1
    refine lv_aload_n hx hb dJ1_charAt_3b067_6 rfl (lv_at hl 0 rfl) ?_
    refine lv_iload_n hx hb dJ1_charAt_3b067_7 rfl (lv_at hl 1 rfl) ?_
    refine va_tb (v := .int ((strByt.getD a_this []).getD a_p2.toNatClampNeg 0)) hx hb (hE.2.2.2.2.2.2.1.1 a_this hi).2.2.2 hS i1 rfl dJ1_charAt_3b067_8 ?_
    refine lv_sipush (v := 255) hx hb dJ1_charAt_3b067_9 (by decide) ?_
    refine lv_iand hx hb dJ1_charAt_3b067_12 ?_
    refine lv_i2c hx hb dJ1_charAt_3b067_13 rfl ?_
    exact W.zret (v := (((strByt.getD a_this []).getD a_p2.toNatClampNeg 0 &&& 255).toUInt32 % 65536).toInt32) hx hb hr (pk_nc _) (fun t ht hW => ⟨⟨(((strByt.getD a_this []).getD a_p2.toNatClampNeg 0 &&& 255).toUInt32 % 65536).toInt32, (), rfl, ⟨rfl, rfl⟩, by rw [ht]; exact hP, va_K.moved hW.alike hK, hD⟩, hS.F ht⟩) hS.2.2 dJ1_charAt_3b067_14
  · cases it_f h hi
def f_J0_charAt_5068e (a_this : Nat) (a_p1 : Int32) : Option (Int32 × Unit) := if a_this < 4 then (f_J1_charAt_3b067 a_this a_p1).bind fun r => ckc r.1 (some r) else none
theorem hdn_J0_charAt_5068e : yJ0_charAt_5068e.cls ≠ "java/lang/invoke/MethodHandle" ∧ yJ0_charAt_5068e.cls ≠ "java/lang/invoke/VarHandle" ∧ (parseMethodDescriptor yJ0_charAt_5068e.desc).map (fun d => d.parameters.length) = some 1 := by decide +kernel
theorem hd_J0_charAt_5068e : yJ0_charAt_5068e.cls = RJ0 ∧ yJ0_charAt_5068e.cls ≠ "java/lang/invoke/MethodHandle" ∧ yJ0_charAt_5068e.cls ≠ "java/lang/invoke/VarHandle" ∧ (parseMethodDescriptor yJ0_charAt_5068e.desc).map (fun d => d.parameters.length) = some 1 := ⟨rfl, hdn_J0_charAt_5068e⟩
set_option maxHeartbeats 4000000 in
set_option maxRecDepth 100000 in
theorem c_J0_charAt_5068e (l : Launch) (dC : Nat → ClassId) (dI : Nat → Nat → Nat) (adK adV : Nat → Nat) (sz : Nat) (a_this : Nat) (a_p1 : Int32) (res : Int32 × Unit) (hd : f_J0_charAt_5068e a_this a_p1 = some res) : Met l yJ0_charAt_5068e wsJ0_charAt_5068e ({ frames := 3, cells := 0, slots := 0, locals := 64 }) (va_Pc [.ref (adK a_this), .int a_p1] (fun U => mPre dC dI [] [] sz U ∧ env adK adV (va_A [] sz) U U.heap)) (va_Qi (fun (r : Int32) (u : Unit) => r = res.1 ∧ u = res.2) (fun (u : Unit) t => mPost dC dI (va_A [] sz) [] [] t) (va_A [] sz)) 0 0 (va_A [] sz) := by
  refine Met.ofW (cc := cJ0_charAt_5068e) (maxL := 2) (ret := (some .char)) (by decide) rfl ?_
  intro p e s m args below meth c s₁ B hml hv
  obtain ⟨rfl, ⟨hsz, hP, hK, hD0⟩, hE⟩ := hv
  have hx := B.exec
  have hb := B.bytes
  have hr := B.returns
  have hts := atoms_spec (ws := wsJ0_charAt_5068e) B.pre
  have hown : s.vm.findClass RJ0 = some m.cls := findClass_of_methodNamed B.named
  have hlocks := B.notSynchronized
  have w_1 := hts (.fieldLink RJ0 9 "java/lang/String" "value" "[B") (by decide +kernel)
  subst hsz
  have hD := hD0.self (sz := s.heap.size)
  generalize hAe : va_A [] s.heap.size = A at hD hE ⊢
  have hA : ∀ q : Nat, s.heap.size ≤ q → A q := fun q h => by rw [← hAe]; exact Or.inr h
  clear hAe hD0
  have hS : va_S A s.heap s.heap [] := va_S.rf
  have hl := lv_entry ([.ref (adK a_this), .int a_p1]) (n := 2) (Nat.le_of_ble_eq_true rfl)
  rw [lg_entry_eq]
  generalize (lg_sl ([.ref (adK a_this), .int a_p1]) ++ List.replicate (2 - (lg_sl ([.ref (adK a_this), .int a_p1])).length) Slot.unset).toArray = ls at hl ⊢
  obtain ⟨H, hHe⟩ : ∃ H, H = s.heap := ⟨_, rfl⟩
  obtain ⟨locs, hLe⟩ : ∃ L : List Loc, L = [] := ⟨_, rfl⟩
  have hS : va_S A s.heap H locs := by rw [hHe, hLe]; exact hS
  have hP : va_P (dC, dI) vwCl [] H := by rw [hHe]; exact hP
  rw [show W p l e (headSpec wsJ0_charAt_5068e ({ frames := 3, cells := 0, slots := 0, locals := 64 })).room s m ([.ref (adK a_this), .int a_p1]).toArray below meth c s.heap [] 0 0 = W p l e (headSpec wsJ0_charAt_5068e ({ frames := 3, cells := 0, slots := 0, locals := 64 })).room s m ([.ref (adK a_this), .int a_p1]).toArray below meth c H locs 0 0 by rw [hHe, hLe]]
  clear hHe hLe
  have h := hd
  unfold f_J0_charAt_5068e at h
  by_cases hi : a_this < 4
  · have h := it_t h hi
    obtain ⟨⟨y, ⟨⟩⟩, gy, h⟩ := Option.bind_eq_some_iff.mp h
    obtain ⟨n1, h⟩ := ckc_ok h
    obtain rfl := Option.some.inj h
    refine lv_aload_n hx hb dJ0_charAt_5068e_0 rfl (lv_at hl 0 rfl) ?_
    have hPc := hP.sub (ws' := []) [] rfl
    have hDc := hD.sub (ws' := []) [] (by decide) rfl
    have hKc := hK.sub (tys' := []) [] rfl
    have hFc := va_free (wc := []) hD hS hA [] rfl
    refine va_calli (va_runV (As := []) (rest := []) ⟨hx, hb, hml, hown, hts⟩ (c_J0_isLatin1_aae02 l dC dI adK adV H.size a_this (1, ()) (if_pos hi)) (cwV 0 hts gJ0_charAt_5068e_J0_isLatin1_aae02 rfl rfl rfl hd_J0_isLatin1_aae02 ⟨Nat.le_of_ble_eq_true rfl, Nat.le_of_ble_eq_true rfl⟩) (preVE hKc hPc hDc (vk_recv hE.2.2.2.2.2.2.1 hi hS) (fun U hU hW => envp hE hS hFc hU hW)) rfl rfl hl.1 rfl (lv_room (Nat.le_of_ble_eq_true rfl)) dJ0_charAt_5068e_1 ⟨Nat.zero_le _, Nat.zero_le _⟩) hS (fun q _ h => hFc q h) hFc (fun a1 u1 t1 H1 locs ht hvm hw hB hz1 hk1 hS => ?_)
    obtain ⟨rfl, rfl⟩ := And.intro hw.1.symm hw.2.symm
    have hP : va_P (dC, dI) vwCl [] H1 := fun k q hq => by simp at hq
    generalize H1 = H at hP hS ⊢
    clear hk1 hz1
    refine lv_if_eq (tgt := 16) hx hb dJ0_charAt_5068e_4 (by decide) (fun c => absurd c (by decide)) (fun _ => ?_)
    refine lv_aload_n hx hb dJ0_charAt_5068e_7 rfl (lv_at hl 0 rfl) ?_
    refine vk_getf hx hb (hE.2.2.2.2.2.2.1.1 a_this hi).2.2.1 hS hown w_1 (fun _ h9 => h9) dJ0_charAt_5068e_8 ?_
    refine lv_iload_n hx hb dJ0_charAt_5068e_11 rfl (lv_at hl 1 rfl) ?_
    have hPc := hP.sub (ws' := []) [] rfl
    have hDc := hD.sub (ws' := []) [] (by decide) rfl
    have hKc := hK.sub (tys' := []) [] rfl
    have hFc := va_free (wc := []) hD hS hA [] rfl
    refine va_calli (va_runS (As := [.ref (adV a_this), .int a_p1]) (rest := []) ⟨hx, hb, hml, hown, hts⟩ (c_J1_charAt_3b067 l dC dI adK adV H.size a_this a_p1 (y, ()) gy) (va_cwS 2 hts gJ0_charAt_5068e_J1_charAt_3b067 rfl rfl rfl hdn_J1_charAt_3b067 ⟨Nat.le_of_ble_eq_true rfl, Nat.le_of_ble_eq_true rfl⟩) (preSE hKc hPc hDc (fun U hU hW => envp hE hS hFc hU hW)) rfl rfl hl.1 rfl (lv_room (Nat.le_of_ble_eq_true rfl)) dJ0_charAt_5068e_12 ⟨Nat.zero_le _, Nat.zero_le _⟩) hS (fun q _ h => hFc q h) hFc (fun a2 u2 t2 H1 locs ht hvm hw hB hz1 hk1 hS => ?_)
    obtain ⟨rfl, rfl⟩ := And.intro hw.1.symm hw.2.symm
    have hP : va_P (dC, dI) vwCl [] H1 := fun k q hq => by simp at hq
    generalize H1 = H at hP hS ⊢
    clear hk1 hz1
    exact W.zret (v := y) hx hb hr n1 (fun t ht hW => ⟨⟨y, (), rfl, ⟨rfl, rfl⟩, by rw [ht]; exact hP, va_K.moved hW.alike hK, hD⟩, hS.F ht⟩) hS.2.2 dJ0_charAt_5068e_15
  · cases it_f h hi
theorem f_J0_charAt_5068e_in {i : Nat} {k : Int32} {r : Int32 × Unit} (h : f_J0_charAt_5068e i k = some r) : i < 4 := by
  unfold f_J0_charAt_5068e at h
  by_cases hi : i < 4
  · exact hi
  · cases it_f h hi
