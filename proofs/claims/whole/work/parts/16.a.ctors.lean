/-! the constructors -/
theorem newa_I (n : Nat) : ∀ cA : ClassId, vp_cell cA (n, .inl (fun _ => 0)) = arrV cA n (fun _ => defaultValue .int) := fun _ => rfl
theorem newa_C (n : Nat) : ∀ cA : ClassId, vp_cell cA (n, .inl (fun _ => 0)) = arrV cA n (fun _ => defaultValue .char) := fun _ => rfl
theorem newa_Z (n : Nat) : ∀ cA : ClassId, vp_cell cA (n, .inl (fun _ => 0)) = arrV cA n (fun _ => defaultValue .boolean) := fun _ => rfl
theorem newa_J (n : Nat) : ∀ cA : ClassId, vp_cell cA (n, .inr (.inl (fun _ => 0))) = arrV cA n (fun _ => defaultValue .long) := fun _ => rfl
theorem hdn_X0_init : yX0_init.cls ≠ "java/lang/invoke/MethodHandle" ∧ yX0_init.cls ≠ "java/lang/invoke/VarHandle" ∧ (parseMethodDescriptor yX0_init.desc).map (fun d => d.parameters.length) = some 0 := by decide +kernel
set_option maxHeartbeats 4000000 in
set_option maxRecDepth 100000 in
theorem c_X0_init (l : Launch) (dC : Nat → ClassId) (dI : Nat → Nat → Nat) (h_this : Nat) (sz : Nat) : Met l yX0_init wsX0_init ({ frames := 1, cells := 2, slots := 600, locals := 20 }) (va_Pc [.ref h_this] (fun U => mPre dC dI [(h_this, .inr (0, [.null, .null, .int 0]))] [] sz U)) (va_Qv (fun (_ : Nat × ClassId × Nat × ClassId) => True) (fun (u : Nat × ClassId × Nat × ClassId) t => mPost dC dI (va_A [(h_this, .inr (0, [.null, .null, .int 0]))] sz) [(h_this, .inr (0, [.ref u.1, .ref u.2.2.1, .int 0])), (u.1, .inl (u.2.1, 300, .inl (fun _ => 0))), (u.2.2.1, .inl (u.2.2.2, 300, .inl (fun _ => 0)))] [(u.2.1, .int), (u.2.2.2, .int)] t) (va_A [(h_this, .inr (0, [.null, .null, .int 0]))] sz)) 2 600 (va_A [(h_this, .inr (0, [.null, .null, .int 0]))] sz) := by
  refine Met.ofW (cc := cX0_init) (maxL := 1) (ret := none) (by decide) rfl ?_
  intro p e s m args below meth c s₁ B hml hv
  obtain ⟨rfl, ⟨hsz, hP, hK, hD0⟩⟩ := hv
  have hx := B.exec
  have hb := B.bytes
  have hr := B.returns
  have hts := atoms_spec (ws := wsX0_init) B.pre
  have hown : s.vm.findClass RX0 = some m.cls := findClass_of_methodNamed B.named
  have hlocks := B.notSynchronized
  have hin : meth.name = "<init>" := (name_of_methodNamed B.named B.method).1
  have w_1 := hts (.methodLink RX0 3 objectInit) (by decide +kernel)
  have w_2 := hts (.instanceMethod objectInit) (by decide +kernel)
  have w_3 := hts (.code objectInit ⟨#[0xb1]⟩ 1 none) (by decide +kernel)
  have w_4 := hts (.arrayClass .int) (by decide +kernel)
  have w_5 := hts (.fieldLink RX0 9 "TermPile$Code" "kinds" "[I") (by decide +kernel)
  have w_6 := hts (.fieldLink RX0 15 "TermPile$Code" "numbers" "[I") (by decide +kernel)
  have w_7 := hts (.fieldLink RX0 18 "TermPile$Code" "size" "I") (by decide +kernel)
  have in_X0 : ∀ w ∈ wsX00, w ∈ wsX0_init := by decide +kernel
  subst hsz
  have hD := hD0.self (sz := s.heap.size)
  generalize hAe : va_A [(h_this, .inr (0, [.null, .null, .int 0]))] s.heap.size = A at hD ⊢
  have hA : ∀ q : Nat, s.heap.size ≤ q → A q := fun q h => by rw [← hAe]; exact Or.inr h
  clear hAe hD0
  have hS : va_S A s.heap s.heap [] := va_S.rf
  have hl := lv_entry ([.ref h_this]) (n := 1) (Nat.le_of_ble_eq_true rfl)
  rw [lg_entry_eq]
  generalize (lg_sl ([.ref h_this]) ++ List.replicate (1 - (lg_sl ([.ref h_this])).length) Slot.unset).toArray = ls at hl ⊢
  have hl : lv_has ls 1 [(0, .ref h_this)] := hl
  obtain ⟨H, hHe⟩ : ∃ H, H = s.heap := ⟨_, rfl⟩
  obtain ⟨locs, hLe⟩ : ∃ L : List Loc, L = [] := ⟨_, rfl⟩
  have hS : va_S A s.heap H locs := by rw [hHe, hLe]; exact hS
  have hP : va_P (dC, dI) vwCl [(h_this, .inr (0, [.null, .null, .int 0]))] H := by rw [hHe]; exact hP
  rw [show W p l e (headSpec wsX0_init ({ frames := 1, cells := 2, slots := 600, locals := 20 })).room s m ([.ref h_this]).toArray below meth c s.heap [] 0 0 = W p l e (headSpec wsX0_init ({ frames := 1, cells := 2, slots := 600, locals := 20 })).room s m ([.ref h_this]).toArray below meth c H locs 0 0 by rw [hHe, hLe]]
  clear hHe hLe
  refine lv_aload_n hx hb dX0_init_0 rfl (lv_at hl 0 rfl) ?_
  refine W.objInit hx hb hown w_1 w_2 w_3 rfl (by rw [hml]; exact hl.1) rfl dX0_init_1 (Nat.le_of_ble_eq_true rfl) (Nat.le_of_ble_eq_true rfl) ?_
  refine W.eq (g2 := F0 m 4 ls []) rfl ?_
  refine lv_aload_n hx hb dX0_init_4 rfl (lv_at hl 0 rfl) ?_
  refine lv_sipush (v := 300) hx hb dX0_init_5 (by decide) ?_
  refine va_newa (n := 300) (N' := 300) (a0 := (300, .inl (fun _ => 0))) (atype := .int) (ty := .int) hx hb w_4 rfl hK hP hD hS hA (newa_I _) (by decide) (by decide) (by decide) (by decide) (by decide) dX0_init_8 (fun q1 k2 H hK hP hD hS => ?_)
  have hK : va_K (dC, dI) vwCl [(k2, .int)] s := hK
  have hP : va_P (dC, dI) vwCl [(h_this, .inr (0, [.null, .null, .int 0])), (q1, .inl (k2, 300, .inl (fun _ => 0)))] H := hP
  have hD : va_D A [(h_this, .inr (0, [.null, .null, .int 0])), (q1, .inl (k2, 300, .inl (fun _ => 0)))] := hD
  refine W.widen (k := 1) (n := 300) (by decide) (by decide) ?_
  refine va_putF (D := (dC, dI)) (ci := 0) (v := .ref q1) (ty := .array .int) (C := RX0) (T := TX0) (N := 3) hx hb hts in_X0 tyX0 tyX0_ok nmX0 hown hK hP hD hS 0 rfl rfl 0 (by decide) w_5 (fun _ h9 => h9) rfl hin rfl (by decide +kernel) rfl rfl (Nat.le_of_ble_eq_true rfl) dX0_init_10 (fun H locs hP hD hS => ?_)
  have hP : va_P (dC, dI) vwCl [(h_this, .inr (0, [.ref q1, .null, .int 0])), (q1, .inl (k2, 300, .inl (fun _ => 0)))] H := hP
  have hD : va_D A [(h_this, .inr (0, [.ref q1, .null, .int 0])), (q1, .inl (k2, 300, .inl (fun _ => 0)))] := hD
  refine lv_aload_n hx hb dX0_init_13 rfl (lv_at hl 0 rfl) ?_
  refine lv_sipush (v := 300) hx hb dX0_init_14 (by decide) ?_
  refine va_newa (n := 300) (N' := 300) (a0 := (300, .inl (fun _ => 0))) (atype := .int) (ty := .int) hx hb w_4 rfl hK hP hD hS hA (newa_I _) (by decide) (by decide) (by decide) (by decide) (by decide) dX0_init_17 (fun q3 k4 H hK hP hD hS => ?_)
  have hK : va_K (dC, dI) vwCl [(k2, .int), (k4, .int)] s := hK
  have hP : va_P (dC, dI) vwCl [(h_this, .inr (0, [.ref q1, .null, .int 0])), (q1, .inl (k2, 300, .inl (fun _ => 0))), (q3, .inl (k4, 300, .inl (fun _ => 0)))] H := hP
  have hD : va_D A [(h_this, .inr (0, [.ref q1, .null, .int 0])), (q1, .inl (k2, 300, .inl (fun _ => 0))), (q3, .inl (k4, 300, .inl (fun _ => 0)))] := hD
  refine W.widen (k := 2) (n := 600) (by decide) (by decide) ?_
  refine va_putF (D := (dC, dI)) (ci := 0) (v := .ref q3) (ty := .array .int) (C := RX0) (T := TX0) (N := 3) hx hb hts in_X0 tyX0 tyX0_ok nmX0 hown hK hP hD hS 0 rfl rfl 1 (by decide) w_6 (fun _ h9 => h9) rfl hin rfl (by decide +kernel) rfl rfl (Nat.le_of_ble_eq_true rfl) dX0_init_19 (fun H locs hP hD hS => ?_)
  have hP : va_P (dC, dI) vwCl [(h_this, .inr (0, [.ref q1, .ref q3, .int 0])), (q1, .inl (k2, 300, .inl (fun _ => 0))), (q3, .inl (k4, 300, .inl (fun _ => 0)))] H := hP
  have hD : va_D A [(h_this, .inr (0, [.ref q1, .ref q3, .int 0])), (q1, .inl (k2, 300, .inl (fun _ => 0))), (q3, .inl (k4, 300, .inl (fun _ => 0)))] := hD
  refine lv_aload_n hx hb dX0_init_22 rfl (lv_at hl 0 rfl) ?_
  refine lv_iconst (v := 0) hx hb dX0_init_23 (by decide) ?_
  refine va_put (D := (dC, dI)) (ci := 0) (v := .int 0) (ty := .int) (C := RX0) (T := TX0) (N := 3) hx hb hts in_X0 tyX0 tyX0_ok nmX0 hown hK hP hD hS 0 rfl rfl 2 (by decide) w_7 (fun _ h9 => h9) rfl (by decide +kernel) rfl rfl (Nat.le_of_ble_eq_true rfl) dX0_init_24 (fun H locs hP hD hS => ?_)
  have hP : va_P (dC, dI) vwCl [(h_this, .inr (0, [.ref q1, .ref q3, .int 0])), (q1, .inl (k2, 300, .inl (fun _ => 0))), (q3, .inl (k4, 300, .inl (fun _ => 0)))] H := hP
  have hD : va_D A [(h_this, .inr (0, [.ref q1, .ref q3, .int 0])), (q1, .inl (k2, 300, .inl (fun _ => 0))), (q3, .inl (k4, 300, .inl (fun _ => 0)))] := hD
  exact W.vret hx hb hr (fun t ht hW => ⟨⟨(q1, k2, q3, k4), rfl, trivial, by rw [ht]; exact hP, va_K.moved hW.alike hK, hD⟩, hS.F ht⟩) hS.2.2 dX0_init_27
theorem hdn_X1_init : yX1_init.cls ≠ "java/lang/invoke/MethodHandle" ∧ yX1_init.cls ≠ "java/lang/invoke/VarHandle" ∧ (parseMethodDescriptor yX1_init.desc).map (fun d => d.parameters.length) = some 0 := by decide +kernel
set_option maxHeartbeats 4000000 in
set_option maxRecDepth 100000 in
theorem c_X1_init (l : Launch) (dC : Nat → ClassId) (dI : Nat → Nat → Nat) (adK adV : Nat → Nat) (h_this : Nat) (sz : Nat) : Met l yX1_init wsX1_init ({ frames := 2, cells := 4, slots := 703, locals := 40 }) (va_Pc [.ref h_this] (fun U => mPre dC dI [(h_this, .inr (1, [.null, .null, .int 0]))] [] sz U ∧ env adK adV (va_A [(h_this, .inr (1, [.null, .null, .int 0]))] sz) U U.heap)) (va_Qv (fun (_ : Nat × Nat × ClassId × Nat × ClassId × Nat × ClassId) => True) (fun (u : Nat × Nat × ClassId × Nat × ClassId × Nat × ClassId) t => mPost dC dI (va_A [(h_this, .inr (1, [.null, .null, .int 0]))] sz) [(h_this, .inr (1, [.ref u.1, .ref u.2.2.2.2.2.1, .int 0])), (u.1, .inr (0, [.ref u.2.1, .ref u.2.2.2.1, .int 0])), (u.2.1, .inl (u.2.2.1, 300, .inl (fun _ => 0))), (u.2.2.2.1, .inl (u.2.2.2.2.1, 300, .inl (fun _ => 0))), (u.2.2.2.2.2.1, .inl (u.2.2.2.2.2.2, 100, .inl (fun _ => 0)))] [(u.2.2.1, .int), (u.2.2.2.2.1, .int), (u.2.2.2.2.2.2, .int)] t) (va_A [(h_this, .inr (1, [.null, .null, .int 0]))] sz)) 4 703 (va_A [(h_this, .inr (1, [.null, .null, .int 0]))] sz) := by
  refine Met.ofW (cc := cX1_init) (maxL := 1) (ret := none) (by decide) rfl ?_
  intro p e s m args below meth c s₁ B hml hv
  obtain ⟨rfl, ⟨hsz, hP, hK, hD0⟩, hE⟩ := hv
  have hx := B.exec
  have hb := B.bytes
  have hr := B.returns
  have hts := atoms_spec (ws := wsX1_init) B.pre
  have hown : s.vm.findClass RX1 = some m.cls := findClass_of_methodNamed B.named
  have hlocks := B.notSynchronized
  have hin : meth.name = "<init>" := (name_of_methodNamed B.named B.method).1
  have w_1 := hts (.methodLink RX1 3 objectInit) (by decide +kernel)
  have w_2 := hts (.instanceMethod objectInit) (by decide +kernel)
  have w_3 := hts (.code objectInit ⟨#[0xb1]⟩ 1 none) (by decide +kernel)
  have w_4 := hts (.classLink RX1 9 RX0) (by decide +kernel)
  have w_5 := hts (.instantiable RX0 3) (by decide +kernel)
  have w_6 := hts (.initialized RX0) (by decide +kernel)
  have w_7 := hts (.instanceMethod yX0_init) (by decide +kernel)
  have w_8 := hts (.fieldLink RX1 12 "TermPile$Lines" "code" "LTermPile$Code;") (by decide +kernel)
  have w_9 := hts (.arrayClass .int) (by decide +kernel)
  have w_10 := hts (.fieldLink RX1 18 "TermPile$Lines" "ends" "[I") (by decide +kernel)
  have w_11 := hts (.fieldLink RX1 22 "TermPile$Lines" "size" "I") (by decide +kernel)
  have in_X0 : ∀ w ∈ wsX00, w ∈ wsX1_init := by decide +kernel
  have in_X1 : ∀ w ∈ wsX10, w ∈ wsX1_init := by decide +kernel
  subst hsz
  have hD := hD0.self (sz := s.heap.size)
  generalize hAe : va_A [(h_this, .inr (1, [.null, .null, .int 0]))] s.heap.size = A at hD hE ⊢
  have hA : ∀ q : Nat, s.heap.size ≤ q → A q := fun q h => by rw [← hAe]; exact Or.inr h
  clear hAe hD0
  have hS : va_S A s.heap s.heap [] := va_S.rf
  have hl := lv_entry ([.ref h_this]) (n := 1) (Nat.le_of_ble_eq_true rfl)
  rw [lg_entry_eq]
  generalize (lg_sl ([.ref h_this]) ++ List.replicate (1 - (lg_sl ([.ref h_this])).length) Slot.unset).toArray = ls at hl ⊢
  have hl : lv_has ls 1 [(0, .ref h_this)] := hl
  obtain ⟨H, hHe⟩ : ∃ H, H = s.heap := ⟨_, rfl⟩
  obtain ⟨locs, hLe⟩ : ∃ L : List Loc, L = [] := ⟨_, rfl⟩
  have hS : va_S A s.heap H locs := by rw [hHe, hLe]; exact hS
  have hP : va_P (dC, dI) vwCl [(h_this, .inr (1, [.null, .null, .int 0]))] H := by rw [hHe]; exact hP
  rw [show W p l e (headSpec wsX1_init ({ frames := 2, cells := 4, slots := 703, locals := 40 })).room s m ([.ref h_this]).toArray below meth c s.heap [] 0 0 = W p l e (headSpec wsX1_init ({ frames := 2, cells := 4, slots := 703, locals := 40 })).room s m ([.ref h_this]).toArray below meth c H locs 0 0 by rw [hHe, hLe]]
  clear hHe hLe
  refine lv_aload_n hx hb dX1_init_0 rfl (lv_at hl 0 rfl) ?_
  refine W.objInit hx hb hown w_1 w_2 w_3 rfl (by rw [hml]; exact hl.1) rfl dX1_init_1 (Nat.le_of_ble_eq_true rfl) (Nat.le_of_ble_eq_true rfl) ?_
  refine W.eq (g2 := F0 m 4 ls []) rfl ?_
  refine lv_aload_n hx hb dX1_init_4 rfl (lv_at hl 0 rfl) ?_
  refine va_new (ci := 0) (fs := [.null, .null, .int 0]) (C := RX0) (T := TX0) (N := 3) hx hb hts in_X0 tyX0 tyX0_ok hown w_4 w_5 w_6 hK hP hD hS hA rfl (fun j hj => by rcases (show j = 0 ∨ j = 1 ∨ j = 2 by omega) with rfl | rfl | rfl <;> rfl) (by decide) (by decide) dX1_init_5 (fun q1 H hP hD hS => ?_)
  have hP : va_P (dC, dI) vwCl [(h_this, .inr (1, [.null, .null, .int 0])), (q1, .inr (0, [.null, .null, .int 0]))] H := hP
  have hD : va_D A [(h_this, .inr (1, [.null, .null, .int 0])), (q1, .inr (0, [.null, .null, .int 0]))] := hD
  refine W.widen (k := 1) (n := 3) (by decide) (by decide) ?_
  refine lv_dup hx hb dX1_init_8 rfl ?_
  have hPc := hP.sub (ws' := [(q1, .inr (0, [.null, .null, .int 0]))]) [1] rfl
  have hDc := hD.sub (ws' := [(q1, .inr (0, [.null, .null, .int 0]))]) [1] (by decide) rfl
  have hKc := hK.sub (tys' := []) [] rfl
  have hFc := va_free (wc := [(q1, .inr (0, [.null, .null, .int 0]))]) hD hS hA [1] rfl
  refine va_callv (va_runIN (As := []) (rest := [.ref q1, .ref h_this]) ⟨hx, hb, hml, hown, hts⟩ (c_X0_init l dC dI q1 H.size) ⟨va_cnB 0 hts gX1_init_X0_init_n11 rfl rfl rfl (hE.1 _ (nz_X1_11 : _ ∈ nzL)) w_6 hdn_X0_init ⟨Nat.le_of_ble_eq_true rfl, Nat.le_of_ble_eq_true rfl⟩, rfl, w_7⟩ (preS hKc hPc hDc) rfl rfl hl.1 rfl (lv_room (Nat.le_of_ble_eq_true rfl)) dX1_init_9 ⟨by decide, by decide⟩) hS (fun q _ h => hFc q h) hFc (fun u2 tu2 H1 locs ht hvm hw hB hz1 hk1 hS => ?_)
  obtain ⟨q3, k4, q5, k6⟩ := u2
  obtain ⟨hP1, hK1, hD1⟩ := hB
  rw [ht] at hP1
  have hK1 := va_K.moved hvm.symm hK1
  obtain ⟨hP, hD⟩ := va_join (wr := [(h_this, .inr (1, [.null, .null, .int 0]))]) (w1 := [(q1, .inr (0, [.ref q3, .ref q5, .int 0])), (q3, .inl (k4, 300, .inl (fun _ => 0))), (q5, .inl (k6, 300, .inl (fun _ => 0)))]) hP hD [1] [0] rfl rfl (by decide) (by decide) hk1 hFc hP1 hD1
  have hK := hK.app hK1
  generalize H1 = H at hP hS ⊢
  have hP : va_P (dC, dI) vwCl [(h_this, .inr (1, [.null, .null, .int 0])), (q1, .inr (0, [.ref q3, .ref q5, .int 0])), (q3, .inl (k4, 300, .inl (fun _ => 0))), (q5, .inl (k6, 300, .inl (fun _ => 0)))] H := hP
  have hD : va_D A [(h_this, .inr (1, [.null, .null, .int 0])), (q1, .inr (0, [.ref q3, .ref q5, .int 0])), (q3, .inl (k4, 300, .inl (fun _ => 0))), (q5, .inl (k6, 300, .inl (fun _ => 0)))] := hD
  have hK : va_K (dC, dI) vwCl [(k4, .int), (k6, .int)] s := hK
  clear hk1 hz1 hPc hDc hKc hFc hP1 hK1 hD1
  refine W.widen (k := 3) (n := 603) (by decide) (by decide) ?_
  refine va_putF (D := (dC, dI)) (ci := 1) (v := .ref q1) (ty := .object "TermPile$Code") (C := RX1) (T := TX1) (N := 3) hx hb hts in_X1 tyX1 tyX1_ok nmX1 hown hK hP hD hS 0 rfl rfl 0 (by decide) w_8 (fun _ h9 => h9) rfl hin rfl (by decide +kernel) rfl rfl (Nat.le_of_ble_eq_true rfl) dX1_init_12 (fun H locs hP hD hS => ?_)
  have hP : va_P (dC, dI) vwCl [(h_this, .inr (1, [.ref q1, .null, .int 0])), (q1, .inr (0, [.ref q3, .ref q5, .int 0])), (q3, .inl (k4, 300, .inl (fun _ => 0))), (q5, .inl (k6, 300, .inl (fun _ => 0)))] H := hP
  have hD : va_D A [(h_this, .inr (1, [.ref q1, .null, .int 0])), (q1, .inr (0, [.ref q3, .ref q5, .int 0])), (q3, .inl (k4, 300, .inl (fun _ => 0))), (q5, .inl (k6, 300, .inl (fun _ => 0)))] := hD
  refine lv_aload_n hx hb dX1_init_15 rfl (lv_at hl 0 rfl) ?_
  refine lv_bipush (v := 100) hx hb dX1_init_16 (by decide) ?_
  refine va_newa (n := 100) (N' := 100) (a0 := (100, .inl (fun _ => 0))) (atype := .int) (ty := .int) hx hb w_9 rfl hK hP hD hS hA (newa_I _) (by decide) (by decide) (by decide) (by decide) (by decide) dX1_init_18 (fun q7 k8 H hK hP hD hS => ?_)
  have hK : va_K (dC, dI) vwCl [(k4, .int), (k6, .int), (k8, .int)] s := hK
  have hP : va_P (dC, dI) vwCl [(h_this, .inr (1, [.ref q1, .null, .int 0])), (q1, .inr (0, [.ref q3, .ref q5, .int 0])), (q3, .inl (k4, 300, .inl (fun _ => 0))), (q5, .inl (k6, 300, .inl (fun _ => 0))), (q7, .inl (k8, 100, .inl (fun _ => 0)))] H := hP
  have hD : va_D A [(h_this, .inr (1, [.ref q1, .null, .int 0])), (q1, .inr (0, [.ref q3, .ref q5, .int 0])), (q3, .inl (k4, 300, .inl (fun _ => 0))), (q5, .inl (k6, 300, .inl (fun _ => 0))), (q7, .inl (k8, 100, .inl (fun _ => 0)))] := hD
  refine W.widen (k := 4) (n := 703) (by decide) (by decide) ?_
  refine va_putF (D := (dC, dI)) (ci := 1) (v := .ref q7) (ty := .array .int) (C := RX1) (T := TX1) (N := 3) hx hb hts in_X1 tyX1 tyX1_ok nmX1 hown hK hP hD hS 0 rfl rfl 1 (by decide) w_10 (fun _ h9 => h9) rfl hin rfl (by decide +kernel) rfl rfl (Nat.le_of_ble_eq_true rfl) dX1_init_20 (fun H locs hP hD hS => ?_)
  have hP : va_P (dC, dI) vwCl [(h_this, .inr (1, [.ref q1, .ref q7, .int 0])), (q1, .inr (0, [.ref q3, .ref q5, .int 0])), (q3, .inl (k4, 300, .inl (fun _ => 0))), (q5, .inl (k6, 300, .inl (fun _ => 0))), (q7, .inl (k8, 100, .inl (fun _ => 0)))] H := hP
  have hD : va_D A [(h_this, .inr (1, [.ref q1, .ref q7, .int 0])), (q1, .inr (0, [.ref q3, .ref q5, .int 0])), (q3, .inl (k4, 300, .inl (fun _ => 0))), (q5, .inl (k6, 300, .inl (fun _ => 0))), (q7, .inl (k8, 100, .inl (fun _ => 0)))] := hD
  refine lv_aload_n hx hb dX1_init_23 rfl (lv_at hl 0 rfl) ?_
  refine lv_iconst (v := 0) hx hb dX1_init_24 (by decide) ?_
  refine va_put (D := (dC, dI)) (ci := 1) (v := .int 0) (ty := .int) (C := RX1) (T := TX1) (N := 3) hx hb hts in_X1 tyX1 tyX1_ok nmX1 hown hK hP hD hS 0 rfl rfl 2 (by decide) w_11 (fun _ h9 => h9) rfl (by decide +kernel) rfl rfl (Nat.le_of_ble_eq_true rfl) dX1_init_25 (fun H locs hP hD hS => ?_)
  have hP : va_P (dC, dI) vwCl [(h_this, .inr (1, [.ref q1, .ref q7, .int 0])), (q1, .inr (0, [.ref q3, .ref q5, .int 0])), (q3, .inl (k4, 300, .inl (fun _ => 0))), (q5, .inl (k6, 300, .inl (fun _ => 0))), (q7, .inl (k8, 100, .inl (fun _ => 0)))] H := hP
  have hD : va_D A [(h_this, .inr (1, [.ref q1, .ref q7, .int 0])), (q1, .inr (0, [.ref q3, .ref q5, .int 0])), (q3, .inl (k4, 300, .inl (fun _ => 0))), (q5, .inl (k6, 300, .inl (fun _ => 0))), (q7, .inl (k8, 100, .inl (fun _ => 0)))] := hD
  exact W.vret hx hb hr (fun t ht hW => ⟨⟨(q1, q3, k4, q5, k6, q7, k8), rfl, trivial, by rw [ht]; exact hP, va_K.moved hW.alike hK, hD⟩, hS.F ht⟩) hS.2.2 dX1_init_28
theorem hdn_X2_init : yX2_init.cls ≠ "java/lang/invoke/MethodHandle" ∧ yX2_init.cls ≠ "java/lang/invoke/VarHandle" ∧ (parseMethodDescriptor yX2_init.desc).map (fun d => d.parameters.length) = some 0 := by decide +kernel
set_option maxHeartbeats 4000000 in
set_option maxRecDepth 100000 in
theorem c_X2_init (l : Launch) (dC : Nat → ClassId) (dI : Nat → Nat → Nat) (h_this : Nat) (sz : Nat) : Met l yX2_init wsX2_init ({ frames := 1, cells := 3, slots := 130, locals := 20 }) (va_Pc [.ref h_this] (fun U => mPre dC dI [(h_this, .inr (2, [.null, .null, .null, .int 0, .int 0, .int 0]))] [] sz U)) (va_Qv (fun (_ : Nat × ClassId × Nat × ClassId × Nat × ClassId) => True) (fun (u : Nat × ClassId × Nat × ClassId × Nat × ClassId) t => mPost dC dI (va_A [(h_this, .inr (2, [.null, .null, .null, .int 0, .int 0, .int 0]))] sz) [(h_this, .inr (2, [.ref u.1, .ref u.2.2.1, .ref u.2.2.2.2.1, .int 0, .int 0, .int 0])), (u.1, .inl (u.2.1, 10, .inr (.inl (fun _ => 0)))), (u.2.2.1, .inl (u.2.2.2.1, 100, .inr (.inl (fun _ => 0)))), (u.2.2.2.2.1, .inl (u.2.2.2.2.2, 20, .inr (.inl (fun _ => 0))))] [(u.2.1, .long), (u.2.2.2.1, .long), (u.2.2.2.2.2, .long)] t) (va_A [(h_this, .inr (2, [.null, .null, .null, .int 0, .int 0, .int 0]))] sz)) 3 130 (va_A [(h_this, .inr (2, [.null, .null, .null, .int 0, .int 0, .int 0]))] sz) := by
  refine Met.ofW (cc := cX2_init) (maxL := 1) (ret := none) (by decide) rfl ?_
  intro p e s m args below meth c s₁ B hml hv
  obtain ⟨rfl, ⟨hsz, hP, hK, hD0⟩⟩ := hv
  have hx := B.exec
  have hb := B.bytes
  have hr := B.returns
  have hts := atoms_spec (ws := wsX2_init) B.pre
  have hown : s.vm.findClass RX2 = some m.cls := findClass_of_methodNamed B.named
  have hlocks := B.notSynchronized
  have hin : meth.name = "<init>" := (name_of_methodNamed B.named B.method).1
  have w_1 := hts (.methodLink RX2 3 objectInit) (by decide +kernel)
  have w_2 := hts (.instanceMethod objectInit) (by decide +kernel)
  have w_3 := hts (.code objectInit ⟨#[0xb1]⟩ 1 none) (by decide +kernel)
  have w_4 := hts (.arrayClass .long) (by decide +kernel)
  have w_5 := hts (.fieldLink RX2 9 "TermPile$Machine" "variables" "[J") (by decide +kernel)
  have w_6 := hts (.fieldLink RX2 15 "TermPile$Machine" "temporaries" "[J") (by decide +kernel)
  have w_7 := hts (.fieldLink RX2 18 "TermPile$Machine" "pile" "[J") (by decide +kernel)
  have w_8 := hts (.fieldLink RX2 21 "TermPile$Machine" "size" "I") (by decide +kernel)
  have w_9 := hts (.fieldLink RX2 25 "TermPile$Machine" "calls" "I") (by decide +kernel)
  have w_10 := hts (.fieldLink RX2 28 "TermPile$Machine" "hasRun" "Z") (by decide +kernel)
  have in_X2 : ∀ w ∈ wsX20, w ∈ wsX2_init := by decide +kernel
  subst hsz
  have hD := hD0.self (sz := s.heap.size)
  generalize hAe : va_A [(h_this, .inr (2, [.null, .null, .null, .int 0, .int 0, .int 0]))] s.heap.size = A at hD ⊢
  have hA : ∀ q : Nat, s.heap.size ≤ q → A q := fun q h => by rw [← hAe]; exact Or.inr h
  clear hAe hD0
  have hS : va_S A s.heap s.heap [] := va_S.rf
  have hl := lv_entry ([.ref h_this]) (n := 1) (Nat.le_of_ble_eq_true rfl)
  rw [lg_entry_eq]
  generalize (lg_sl ([.ref h_this]) ++ List.replicate (1 - (lg_sl ([.ref h_this])).length) Slot.unset).toArray = ls at hl ⊢
  have hl : lv_has ls 1 [(0, .ref h_this)] := hl
  obtain ⟨H, hHe⟩ : ∃ H, H = s.heap := ⟨_, rfl⟩
  obtain ⟨locs, hLe⟩ : ∃ L : List Loc, L = [] := ⟨_, rfl⟩
  have hS : va_S A s.heap H locs := by rw [hHe, hLe]; exact hS
  have hP : va_P (dC, dI) vwCl [(h_this, .inr (2, [.null, .null, .null, .int 0, .int 0, .int 0]))] H := by rw [hHe]; exact hP
  rw [show W p l e (headSpec wsX2_init ({ frames := 1, cells := 3, slots := 130, locals := 20 })).room s m ([.ref h_this]).toArray below meth c s.heap [] 0 0 = W p l e (headSpec wsX2_init ({ frames := 1, cells := 3, slots := 130, locals := 20 })).room s m ([.ref h_this]).toArray below meth c H locs 0 0 by rw [hHe, hLe]]
  clear hHe hLe
  refine lv_aload_n hx hb dX2_init_0 rfl (lv_at hl 0 rfl) ?_
  refine W.objInit hx hb hown w_1 w_2 w_3 rfl (by rw [hml]; exact hl.1) rfl dX2_init_1 (Nat.le_of_ble_eq_true rfl) (Nat.le_of_ble_eq_true rfl) ?_
  refine W.eq (g2 := F0 m 4 ls []) rfl ?_
  refine lv_aload_n hx hb dX2_init_4 rfl (lv_at hl 0 rfl) ?_
  refine lv_bipush (v := 10) hx hb dX2_init_5 (by decide) ?_
  refine va_newa (n := 10) (N' := 10) (a0 := (10, .inr (.inl (fun _ => 0)))) (atype := .long) (ty := .long) hx hb w_4 rfl hK hP hD hS hA (newa_J _) (by decide) (by decide) (by decide) (by decide) (by decide) dX2_init_7 (fun q1 k2 H hK hP hD hS => ?_)
  have hK : va_K (dC, dI) vwCl [(k2, .long)] s := hK
  have hP : va_P (dC, dI) vwCl [(h_this, .inr (2, [.null, .null, .null, .int 0, .int 0, .int 0])), (q1, .inl (k2, 10, .inr (.inl (fun _ => 0))))] H := hP
  have hD : va_D A [(h_this, .inr (2, [.null, .null, .null, .int 0, .int 0, .int 0])), (q1, .inl (k2, 10, .inr (.inl (fun _ => 0))))] := hD
  refine W.widen (k := 1) (n := 10) (by decide) (by decide) ?_
  refine va_putF (D := (dC, dI)) (ci := 2) (v := .ref q1) (ty := .array .long) (C := RX2) (T := TX2) (N := 6) hx hb hts in_X2 tyX2 tyX2_ok nmX2 hown hK hP hD hS 0 rfl rfl 0 (by decide) w_5 (fun _ h9 => h9) rfl hin rfl (by decide +kernel) rfl rfl (Nat.le_of_ble_eq_true rfl) dX2_init_9 (fun H locs hP hD hS => ?_)
  have hP : va_P (dC, dI) vwCl [(h_this, .inr (2, [.ref q1, .null, .null, .int 0, .int 0, .int 0])), (q1, .inl (k2, 10, .inr (.inl (fun _ => 0))))] H := hP
  have hD : va_D A [(h_this, .inr (2, [.ref q1, .null, .null, .int 0, .int 0, .int 0])), (q1, .inl (k2, 10, .inr (.inl (fun _ => 0))))] := hD
  refine lv_aload_n hx hb dX2_init_12 rfl (lv_at hl 0 rfl) ?_
  refine lv_bipush (v := 100) hx hb dX2_init_13 (by decide) ?_
  refine va_newa (n := 100) (N' := 100) (a0 := (100, .inr (.inl (fun _ => 0)))) (atype := .long) (ty := .long) hx hb w_4 rfl hK hP hD hS hA (newa_J _) (by decide) (by decide) (by decide) (by decide) (by decide) dX2_init_15 (fun q3 k4 H hK hP hD hS => ?_)
  have hK : va_K (dC, dI) vwCl [(k2, .long), (k4, .long)] s := hK
  have hP : va_P (dC, dI) vwCl [(h_this, .inr (2, [.ref q1, .null, .null, .int 0, .int 0, .int 0])), (q1, .inl (k2, 10, .inr (.inl (fun _ => 0)))), (q3, .inl (k4, 100, .inr (.inl (fun _ => 0))))] H := hP
  have hD : va_D A [(h_this, .inr (2, [.ref q1, .null, .null, .int 0, .int 0, .int 0])), (q1, .inl (k2, 10, .inr (.inl (fun _ => 0)))), (q3, .inl (k4, 100, .inr (.inl (fun _ => 0))))] := hD
  refine W.widen (k := 2) (n := 110) (by decide) (by decide) ?_
  refine va_putF (D := (dC, dI)) (ci := 2) (v := .ref q3) (ty := .array .long) (C := RX2) (T := TX2) (N := 6) hx hb hts in_X2 tyX2 tyX2_ok nmX2 hown hK hP hD hS 0 rfl rfl 1 (by decide) w_6 (fun _ h9 => h9) rfl hin rfl (by decide +kernel) rfl rfl (Nat.le_of_ble_eq_true rfl) dX2_init_17 (fun H locs hP hD hS => ?_)
  have hP : va_P (dC, dI) vwCl [(h_this, .inr (2, [.ref q1, .ref q3, .null, .int 0, .int 0, .int 0])), (q1, .inl (k2, 10, .inr (.inl (fun _ => 0)))), (q3, .inl (k4, 100, .inr (.inl (fun _ => 0))))] H := hP
  have hD : va_D A [(h_this, .inr (2, [.ref q1, .ref q3, .null, .int 0, .int 0, .int 0])), (q1, .inl (k2, 10, .inr (.inl (fun _ => 0)))), (q3, .inl (k4, 100, .inr (.inl (fun _ => 0))))] := hD
  refine lv_aload_n hx hb dX2_init_20 rfl (lv_at hl 0 rfl) ?_
  refine lv_bipush (v := 20) hx hb dX2_init_21 (by decide) ?_
  refine va_newa (n := 20) (N' := 20) (a0 := (20, .inr (.inl (fun _ => 0)))) (atype := .long) (ty := .long) hx hb w_4 rfl hK hP hD hS hA (newa_J _) (by decide) (by decide) (by decide) (by decide) (by decide) dX2_init_23 (fun q5 k6 H hK hP hD hS => ?_)
  have hK : va_K (dC, dI) vwCl [(k2, .long), (k4, .long), (k6, .long)] s := hK
  have hP : va_P (dC, dI) vwCl [(h_this, .inr (2, [.ref q1, .ref q3, .null, .int 0, .int 0, .int 0])), (q1, .inl (k2, 10, .inr (.inl (fun _ => 0)))), (q3, .inl (k4, 100, .inr (.inl (fun _ => 0)))), (q5, .inl (k6, 20, .inr (.inl (fun _ => 0))))] H := hP
  have hD : va_D A [(h_this, .inr (2, [.ref q1, .ref q3, .null, .int 0, .int 0, .int 0])), (q1, .inl (k2, 10, .inr (.inl (fun _ => 0)))), (q3, .inl (k4, 100, .inr (.inl (fun _ => 0)))), (q5, .inl (k6, 20, .inr (.inl (fun _ => 0))))] := hD
  refine W.widen (k := 3) (n := 130) (by decide) (by decide) ?_
  refine va_putF (D := (dC, dI)) (ci := 2) (v := .ref q5) (ty := .array .long) (C := RX2) (T := TX2) (N := 6) hx hb hts in_X2 tyX2 tyX2_ok nmX2 hown hK hP hD hS 0 rfl rfl 2 (by decide) w_7 (fun _ h9 => h9) rfl hin rfl (by decide +kernel) rfl rfl (Nat.le_of_ble_eq_true rfl) dX2_init_25 (fun H locs hP hD hS => ?_)
  have hP : va_P (dC, dI) vwCl [(h_this, .inr (2, [.ref q1, .ref q3, .ref q5, .int 0, .int 0, .int 0])), (q1, .inl (k2, 10, .inr (.inl (fun _ => 0)))), (q3, .inl (k4, 100, .inr (.inl (fun _ => 0)))), (q5, .inl (k6, 20, .inr (.inl (fun _ => 0))))] H := hP
  have hD : va_D A [(h_this, .inr (2, [.ref q1, .ref q3, .ref q5, .int 0, .int 0, .int 0])), (q1, .inl (k2, 10, .inr (.inl (fun _ => 0)))), (q3, .inl (k4, 100, .inr (.inl (fun _ => 0)))), (q5, .inl (k6, 20, .inr (.inl (fun _ => 0))))] := hD
  refine lv_aload_n hx hb dX2_init_28 rfl (lv_at hl 0 rfl) ?_
  refine lv_iconst (v := 0) hx hb dX2_init_29 (by decide) ?_
  refine va_put (D := (dC, dI)) (ci := 2) (v := .int 0) (ty := .int) (C := RX2) (T := TX2) (N := 6) hx hb hts in_X2 tyX2 tyX2_ok nmX2 hown hK hP hD hS 0 rfl rfl 3 (by decide) w_8 (fun _ h9 => h9) rfl (by decide +kernel) rfl rfl (Nat.le_of_ble_eq_true rfl) dX2_init_30 (fun H locs hP hD hS => ?_)
  have hP : va_P (dC, dI) vwCl [(h_this, .inr (2, [.ref q1, .ref q3, .ref q5, .int 0, .int 0, .int 0])), (q1, .inl (k2, 10, .inr (.inl (fun _ => 0)))), (q3, .inl (k4, 100, .inr (.inl (fun _ => 0)))), (q5, .inl (k6, 20, .inr (.inl (fun _ => 0))))] H := hP
  have hD : va_D A [(h_this, .inr (2, [.ref q1, .ref q3, .ref q5, .int 0, .int 0, .int 0])), (q1, .inl (k2, 10, .inr (.inl (fun _ => 0)))), (q3, .inl (k4, 100, .inr (.inl (fun _ => 0)))), (q5, .inl (k6, 20, .inr (.inl (fun _ => 0))))] := hD
  refine lv_aload_n hx hb dX2_init_33 rfl (lv_at hl 0 rfl) ?_
  refine lv_iconst (v := 0) hx hb dX2_init_34 (by decide) ?_
  refine va_put (D := (dC, dI)) (ci := 2) (v := .int 0) (ty := .int) (C := RX2) (T := TX2) (N := 6) hx hb hts in_X2 tyX2 tyX2_ok nmX2 hown hK hP hD hS 0 rfl rfl 4 (by decide) w_9 (fun _ h9 => h9) rfl (by decide +kernel) rfl rfl (Nat.le_of_ble_eq_true rfl) dX2_init_35 (fun H locs hP hD hS => ?_)
  have hP : va_P (dC, dI) vwCl [(h_this, .inr (2, [.ref q1, .ref q3, .ref q5, .int 0, .int 0, .int 0])), (q1, .inl (k2, 10, .inr (.inl (fun _ => 0)))), (q3, .inl (k4, 100, .inr (.inl (fun _ => 0)))), (q5, .inl (k6, 20, .inr (.inl (fun _ => 0))))] H := hP
  have hD : va_D A [(h_this, .inr (2, [.ref q1, .ref q3, .ref q5, .int 0, .int 0, .int 0])), (q1, .inl (k2, 10, .inr (.inl (fun _ => 0)))), (q3, .inl (k4, 100, .inr (.inl (fun _ => 0)))), (q5, .inl (k6, 20, .inr (.inl (fun _ => 0))))] := hD
  refine lv_aload_n hx hb dX2_init_38 rfl (lv_at hl 0 rfl) ?_
  refine lv_iconst (v := 0) hx hb dX2_init_39 (by decide) ?_
  refine va_put (D := (dC, dI)) (ci := 2) (v := .int 0) (ty := .boolean) (C := RX2) (T := TX2) (N := 6) hx hb hts in_X2 tyX2 tyX2_ok nmX2 hown hK hP hD hS 0 rfl rfl 5 (by decide) w_10 (fun _ h9 => h9) rfl (by decide +kernel) rfl rfl (Nat.le_of_ble_eq_true rfl) dX2_init_40 (fun H locs hP hD hS => ?_)
  have hP : va_P (dC, dI) vwCl [(h_this, .inr (2, [.ref q1, .ref q3, .ref q5, .int 0, .int 0, .int 0])), (q1, .inl (k2, 10, .inr (.inl (fun _ => 0)))), (q3, .inl (k4, 100, .inr (.inl (fun _ => 0)))), (q5, .inl (k6, 20, .inr (.inl (fun _ => 0))))] H := hP
  have hD : va_D A [(h_this, .inr (2, [.ref q1, .ref q3, .ref q5, .int 0, .int 0, .int 0])), (q1, .inl (k2, 10, .inr (.inl (fun _ => 0)))), (q3, .inl (k4, 100, .inr (.inl (fun _ => 0)))), (q5, .inl (k6, 20, .inr (.inl (fun _ => 0))))] := hD
  exact W.vret hx hb hr (fun t ht hW => ⟨⟨(q1, k2, q3, k4, q5, k6), rfl, trivial, by rw [ht]; exact hP, va_K.moved hW.alike hK, hD⟩, hS.F ht⟩) hS.2.2 dX2_init_43
theorem hdn_X3_init : yX3_init.cls ≠ "java/lang/invoke/MethodHandle" ∧ yX3_init.cls ≠ "java/lang/invoke/VarHandle" ∧ (parseMethodDescriptor yX3_init.desc).map (fun d => d.parameters.length) = some 0 := by decide +kernel
set_option maxHeartbeats 4000000 in
set_option maxRecDepth 100000 in
theorem c_X3_init (l : Launch) (dC : Nat → ClassId) (dI : Nat → Nat → Nat) (h_this : Nat) (sz : Nat) : Met l yX3_init wsX3_init ({ frames := 1, cells := 2, slots := 1600, locals := 20 }) (va_Pc [.ref h_this] (fun U => mPre dC dI [(h_this, .inr (3, [.null, .int 0, .null, .int 0]))] [] sz U)) (va_Qv (fun (_ : Nat × ClassId × Nat × ClassId) => True) (fun (u : Nat × ClassId × Nat × ClassId) t => mPost dC dI (va_A [(h_this, .inr (3, [.null, .int 0, .null, .int 0]))] sz) [(h_this, .inr (3, [.ref u.1, .int 800, .ref u.2.2.1, .int 0])), (u.1, .inl (u.2.1, 800, .inl (fun _ => 0))), (u.2.2.1, .inl (u.2.2.2, 800, .inl (fun _ => 0)))] [(u.2.1, .char), (u.2.2.2, .int)] t) (va_A [(h_this, .inr (3, [.null, .int 0, .null, .int 0]))] sz)) 2 1600 (va_A [(h_this, .inr (3, [.null, .int 0, .null, .int 0]))] sz) := by
  refine Met.ofW (cc := cX3_init) (maxL := 1) (ret := none) (by decide) rfl ?_
  intro p e s m args below meth c s₁ B hml hv
  obtain ⟨rfl, ⟨hsz, hP, hK, hD0⟩⟩ := hv
  have hx := B.exec
  have hb := B.bytes
  have hr := B.returns
  have hts := atoms_spec (ws := wsX3_init) B.pre
  have hown : s.vm.findClass RX3 = some m.cls := findClass_of_methodNamed B.named
  have hlocks := B.notSynchronized
  have hin : meth.name = "<init>" := (name_of_methodNamed B.named B.method).1
  have w_1 := hts (.methodLink RX3 3 objectInit) (by decide +kernel)
  have w_2 := hts (.instanceMethod objectInit) (by decide +kernel)
  have w_3 := hts (.code objectInit ⟨#[0xb1]⟩ 1 none) (by decide +kernel)
  have w_4 := hts (.arrayClass .char) (by decide +kernel)
  have w_5 := hts (.fieldLink RX3 9 "TermPile$Scribe" "signs" "[C") (by decide +kernel)
  have w_6 := hts (.fieldLink RX3 15 "TermPile$Scribe" "first" "I") (by decide +kernel)
  have w_7 := hts (.arrayClass .int) (by decide +kernel)
  have w_8 := hts (.fieldLink RX3 19 "TermPile$Scribe" "waiting" "[I") (by decide +kernel)
  have w_9 := hts (.fieldLink RX3 23 "TermPile$Scribe" "waitingSize" "I") (by decide +kernel)
  have in_X3 : ∀ w ∈ wsX30, w ∈ wsX3_init := by decide +kernel
  subst hsz
  have hD := hD0.self (sz := s.heap.size)
  generalize hAe : va_A [(h_this, .inr (3, [.null, .int 0, .null, .int 0]))] s.heap.size = A at hD ⊢
  have hA : ∀ q : Nat, s.heap.size ≤ q → A q := fun q h => by rw [← hAe]; exact Or.inr h
  clear hAe hD0
  have hS : va_S A s.heap s.heap [] := va_S.rf
  have hl := lv_entry ([.ref h_this]) (n := 1) (Nat.le_of_ble_eq_true rfl)
  rw [lg_entry_eq]
  generalize (lg_sl ([.ref h_this]) ++ List.replicate (1 - (lg_sl ([.ref h_this])).length) Slot.unset).toArray = ls at hl ⊢
  have hl : lv_has ls 1 [(0, .ref h_this)] := hl
  obtain ⟨H, hHe⟩ : ∃ H, H = s.heap := ⟨_, rfl⟩
  obtain ⟨locs, hLe⟩ : ∃ L : List Loc, L = [] := ⟨_, rfl⟩
  have hS : va_S A s.heap H locs := by rw [hHe, hLe]; exact hS
  have hP : va_P (dC, dI) vwCl [(h_this, .inr (3, [.null, .int 0, .null, .int 0]))] H := by rw [hHe]; exact hP
  rw [show W p l e (headSpec wsX3_init ({ frames := 1, cells := 2, slots := 1600, locals := 20 })).room s m ([.ref h_this]).toArray below meth c s.heap [] 0 0 = W p l e (headSpec wsX3_init ({ frames := 1, cells := 2, slots := 1600, locals := 20 })).room s m ([.ref h_this]).toArray below meth c H locs 0 0 by rw [hHe, hLe]]
  clear hHe hLe
  refine lv_aload_n hx hb dX3_init_0 rfl (lv_at hl 0 rfl) ?_
  refine W.objInit hx hb hown w_1 w_2 w_3 rfl (by rw [hml]; exact hl.1) rfl dX3_init_1 (Nat.le_of_ble_eq_true rfl) (Nat.le_of_ble_eq_true rfl) ?_
  refine W.eq (g2 := F0 m 4 ls []) rfl ?_
  refine lv_aload_n hx hb dX3_init_4 rfl (lv_at hl 0 rfl) ?_
  refine lv_sipush (v := 800) hx hb dX3_init_5 (by decide) ?_
  refine va_newa (n := 800) (N' := 800) (a0 := (800, .inl (fun _ => 0))) (atype := .char) (ty := .char) hx hb w_4 rfl hK hP hD hS hA (newa_C _) (by decide) (by decide) (by decide) (by decide) (by decide) dX3_init_8 (fun q1 k2 H hK hP hD hS => ?_)
  have hK : va_K (dC, dI) vwCl [(k2, .char)] s := hK
  have hP : va_P (dC, dI) vwCl [(h_this, .inr (3, [.null, .int 0, .null, .int 0])), (q1, .inl (k2, 800, .inl (fun _ => 0)))] H := hP
  have hD : va_D A [(h_this, .inr (3, [.null, .int 0, .null, .int 0])), (q1, .inl (k2, 800, .inl (fun _ => 0)))] := hD
  refine W.widen (k := 1) (n := 800) (by decide) (by decide) ?_
  refine va_putF (D := (dC, dI)) (ci := 3) (v := .ref q1) (ty := .array .char) (C := RX3) (T := TX3) (N := 4) hx hb hts in_X3 tyX3 tyX3_ok nmX3 hown hK hP hD hS 0 rfl rfl 0 (by decide) w_5 (fun _ h9 => h9) rfl hin rfl (by decide +kernel) rfl rfl (Nat.le_of_ble_eq_true rfl) dX3_init_10 (fun H locs hP hD hS => ?_)
  have hP : va_P (dC, dI) vwCl [(h_this, .inr (3, [.ref q1, .int 0, .null, .int 0])), (q1, .inl (k2, 800, .inl (fun _ => 0)))] H := hP
  have hD : va_D A [(h_this, .inr (3, [.ref q1, .int 0, .null, .int 0])), (q1, .inl (k2, 800, .inl (fun _ => 0)))] := hD
  refine lv_aload_n hx hb dX3_init_13 rfl (lv_at hl 0 rfl) ?_
  refine lv_sipush (v := 800) hx hb dX3_init_14 (by decide) ?_
  refine va_put (D := (dC, dI)) (ci := 3) (v := .int 800) (ty := .int) (C := RX3) (T := TX3) (N := 4) hx hb hts in_X3 tyX3 tyX3_ok nmX3 hown hK hP hD hS 0 rfl rfl 1 (by decide) w_6 (fun _ h9 => h9) rfl (by decide +kernel) rfl rfl (Nat.le_of_ble_eq_true rfl) dX3_init_17 (fun H locs hP hD hS => ?_)
  have hP : va_P (dC, dI) vwCl [(h_this, .inr (3, [.ref q1, .int 800, .null, .int 0])), (q1, .inl (k2, 800, .inl (fun _ => 0)))] H := hP
  have hD : va_D A [(h_this, .inr (3, [.ref q1, .int 800, .null, .int 0])), (q1, .inl (k2, 800, .inl (fun _ => 0)))] := hD
  refine lv_aload_n hx hb dX3_init_20 rfl (lv_at hl 0 rfl) ?_
  refine lv_sipush (v := 800) hx hb dX3_init_21 (by decide) ?_
  refine va_newa (n := 800) (N' := 800) (a0 := (800, .inl (fun _ => 0))) (atype := .int) (ty := .int) hx hb w_7 rfl hK hP hD hS hA (newa_I _) (by decide) (by decide) (by decide) (by decide) (by decide) dX3_init_24 (fun q3 k4 H hK hP hD hS => ?_)
  have hK : va_K (dC, dI) vwCl [(k2, .char), (k4, .int)] s := hK
  have hP : va_P (dC, dI) vwCl [(h_this, .inr (3, [.ref q1, .int 800, .null, .int 0])), (q1, .inl (k2, 800, .inl (fun _ => 0))), (q3, .inl (k4, 800, .inl (fun _ => 0)))] H := hP
  have hD : va_D A [(h_this, .inr (3, [.ref q1, .int 800, .null, .int 0])), (q1, .inl (k2, 800, .inl (fun _ => 0))), (q3, .inl (k4, 800, .inl (fun _ => 0)))] := hD
  refine W.widen (k := 2) (n := 1600) (by decide) (by decide) ?_
  refine va_putF (D := (dC, dI)) (ci := 3) (v := .ref q3) (ty := .array .int) (C := RX3) (T := TX3) (N := 4) hx hb hts in_X3 tyX3 tyX3_ok nmX3 hown hK hP hD hS 0 rfl rfl 2 (by decide) w_8 (fun _ h9 => h9) rfl hin rfl (by decide +kernel) rfl rfl (Nat.le_of_ble_eq_true rfl) dX3_init_26 (fun H locs hP hD hS => ?_)
  have hP : va_P (dC, dI) vwCl [(h_this, .inr (3, [.ref q1, .int 800, .ref q3, .int 0])), (q1, .inl (k2, 800, .inl (fun _ => 0))), (q3, .inl (k4, 800, .inl (fun _ => 0)))] H := hP
  have hD : va_D A [(h_this, .inr (3, [.ref q1, .int 800, .ref q3, .int 0])), (q1, .inl (k2, 800, .inl (fun _ => 0))), (q3, .inl (k4, 800, .inl (fun _ => 0)))] := hD
  refine lv_aload_n hx hb dX3_init_29 rfl (lv_at hl 0 rfl) ?_
  refine lv_iconst (v := 0) hx hb dX3_init_30 (by decide) ?_
  refine va_put (D := (dC, dI)) (ci := 3) (v := .int 0) (ty := .int) (C := RX3) (T := TX3) (N := 4) hx hb hts in_X3 tyX3 tyX3_ok nmX3 hown hK hP hD hS 0 rfl rfl 3 (by decide) w_9 (fun _ h9 => h9) rfl (by decide +kernel) rfl rfl (Nat.le_of_ble_eq_true rfl) dX3_init_31 (fun H locs hP hD hS => ?_)
  have hP : va_P (dC, dI) vwCl [(h_this, .inr (3, [.ref q1, .int 800, .ref q3, .int 0])), (q1, .inl (k2, 800, .inl (fun _ => 0))), (q3, .inl (k4, 800, .inl (fun _ => 0)))] H := hP
  have hD : va_D A [(h_this, .inr (3, [.ref q1, .int 800, .ref q3, .int 0])), (q1, .inl (k2, 800, .inl (fun _ => 0))), (q3, .inl (k4, 800, .inl (fun _ => 0)))] := hD
  exact W.vret hx hb hr (fun t ht hW => ⟨⟨(q1, k2, q3, k4), rfl, trivial, by rw [ht]; exact hP, va_K.moved hW.alike hK, hD⟩, hS.F ht⟩) hS.2.2 dX3_init_34
theorem hdn_X4_init : yX4_init.cls ≠ "java/lang/invoke/MethodHandle" ∧ yX4_init.cls ≠ "java/lang/invoke/VarHandle" ∧ (parseMethodDescriptor yX4_init.desc).map (fun d => d.parameters.length) = some 0 := by decide +kernel
set_option maxHeartbeats 4000000 in
set_option maxRecDepth 100000 in
theorem c_X4_init (l : Launch) (dC : Nat → ClassId) (dI : Nat → Nat → Nat) (adK adV : Nat → Nat) (h_this : Nat) (sz : Nat) : Met l yX4_init wsX4_init ({ frames := 3, cells := 9, slots := 1329, locals := 60 }) (va_Pc [.ref h_this] (fun U => mPre dC dI [(h_this, .inr (4, [.null, .null, .null, .int 0, .int 0]))] [] sz U ∧ env adK adV (va_A [(h_this, .inr (4, [.null, .null, .null, .int 0, .int 0]))] sz) U U.heap)) (va_Qv (fun (_ : Nat × Nat × Nat × ClassId × Nat × ClassId × Nat × ClassId × Nat × Nat × ClassId × Nat × ClassId × Nat × ClassId) => True) (fun (u : Nat × Nat × Nat × ClassId × Nat × ClassId × Nat × ClassId × Nat × Nat × ClassId × Nat × ClassId × Nat × ClassId) t => mPost dC dI (va_A [(h_this, .inr (4, [.null, .null, .null, .int 0, .int 0]))] sz) [(h_this, .inr (4, [.ref u.1, .ref u.2.2.2.2.2.2.2.2.1, .ref u.2.2.2.2.2.2.2.2.2.2.2.2.2.1, .int 0, .int 0])), (u.1, .inr (1, [.ref u.2.1, .ref u.2.2.2.2.2.2.1, .int 0])), (u.2.1, .inr (0, [.ref u.2.2.1, .ref u.2.2.2.2.1, .int 0])), (u.2.2.1, .inl (u.2.2.2.1, 300, .inl (fun _ => 0))), (u.2.2.2.2.1, .inl (u.2.2.2.2.2.1, 300, .inl (fun _ => 0))), (u.2.2.2.2.2.2.1, .inl (u.2.2.2.2.2.2.2.1, 100, .inl (fun _ => 0))), (u.2.2.2.2.2.2.2.2.1, .inr (0, [.ref u.2.2.2.2.2.2.2.2.2.1, .ref u.2.2.2.2.2.2.2.2.2.2.2.1, .int 0])), (u.2.2.2.2.2.2.2.2.2.1, .inl (u.2.2.2.2.2.2.2.2.2.2.1, 300, .inl (fun _ => 0))), (u.2.2.2.2.2.2.2.2.2.2.2.1, .inl (u.2.2.2.2.2.2.2.2.2.2.2.2.1, 300, .inl (fun _ => 0))), (u.2.2.2.2.2.2.2.2.2.2.2.2.2.1, .inl (u.2.2.2.2.2.2.2.2.2.2.2.2.2.2, 20, .inl (fun _ => 0)))] [(u.2.2.2.1, .int), (u.2.2.2.2.2.1, .int), (u.2.2.2.2.2.2.2.1, .int), (u.2.2.2.2.2.2.2.2.2.2.1, .int), (u.2.2.2.2.2.2.2.2.2.2.2.2.1, .int), (u.2.2.2.2.2.2.2.2.2.2.2.2.2.2, .int)] t) (va_A [(h_this, .inr (4, [.null, .null, .null, .int 0, .int 0]))] sz)) 9 1329 (va_A [(h_this, .inr (4, [.null, .null, .null, .int 0, .int 0]))] sz) := by
  refine Met.ofW (cc := cX4_init) (maxL := 1) (ret := none) (by decide) rfl ?_
  intro p e s m args below meth c s₁ B hml hv
  obtain ⟨rfl, ⟨hsz, hP, hK, hD0⟩, hE⟩ := hv
  have hx := B.exec
  have hb := B.bytes
  have hr := B.returns
  have hts := atoms_spec (ws := wsX4_init) B.pre
  have hown : s.vm.findClass RX4 = some m.cls := findClass_of_methodNamed B.named
  have hlocks := B.notSynchronized
  have hin : meth.name = "<init>" := (name_of_methodNamed B.named B.method).1
  have w_1 := hts (.methodLink RX4 3 objectInit) (by decide +kernel)
  have w_2 := hts (.instanceMethod objectInit) (by decide +kernel)
  have w_3 := hts (.code objectInit ⟨#[0xb1]⟩ 1 none) (by decide +kernel)
  have w_4 := hts (.classLink RX4 9 RX1) (by decide +kernel)
  have w_5 := hts (.instantiable RX1 3) (by decide +kernel)
  have w_6 := hts (.initialized RX1) (by decide +kernel)
  have w_7 := hts (.instanceMethod yX1_init) (by decide +kernel)
  have w_8 := hts (.fieldLink RX4 12 "TermPile$Terms" "lines" "LTermPile$Lines;") (by decide +kernel)
  have w_9 := hts (.classLink RX4 18 RX0) (by decide +kernel)
  have w_10 := hts (.instantiable RX0 3) (by decide +kernel)
  have w_11 := hts (.initialized RX0) (by decide +kernel)
  have w_12 := hts (.instanceMethod yX0_init) (by decide +kernel)
  have w_13 := hts (.fieldLink RX4 21 "TermPile$Terms" "code" "LTermPile$Code;") (by decide +kernel)
  have w_14 := hts (.arrayClass .int) (by decide +kernel)
  have w_15 := hts (.fieldLink RX4 25 "TermPile$Terms" "starts" "[I") (by decide +kernel)
  have w_16 := hts (.fieldLink RX4 29 "TermPile$Terms" "size" "I") (by decide +kernel)
  have w_17 := hts (.fieldLink RX4 33 "TermPile$Terms" "temporaries" "I") (by decide +kernel)
  have in_X0 : ∀ w ∈ wsX00, w ∈ wsX4_init := by decide +kernel
  have in_X1 : ∀ w ∈ wsX10, w ∈ wsX4_init := by decide +kernel
  have in_X4 : ∀ w ∈ wsX40, w ∈ wsX4_init := by decide +kernel
  subst hsz
  have hD := hD0.self (sz := s.heap.size)
  generalize hAe : va_A [(h_this, .inr (4, [.null, .null, .null, .int 0, .int 0]))] s.heap.size = A at hD hE ⊢
  have hA : ∀ q : Nat, s.heap.size ≤ q → A q := fun q h => by rw [← hAe]; exact Or.inr h
  clear hAe hD0
  have hS : va_S A s.heap s.heap [] := va_S.rf
  have hl := lv_entry ([.ref h_this]) (n := 1) (Nat.le_of_ble_eq_true rfl)
  rw [lg_entry_eq]
  generalize (lg_sl ([.ref h_this]) ++ List.replicate (1 - (lg_sl ([.ref h_this])).length) Slot.unset).toArray = ls at hl ⊢
  have hl : lv_has ls 1 [(0, .ref h_this)] := hl
  obtain ⟨H, hHe⟩ : ∃ H, H = s.heap := ⟨_, rfl⟩
  obtain ⟨locs, hLe⟩ : ∃ L : List Loc, L = [] := ⟨_, rfl⟩
  have hS : va_S A s.heap H locs := by rw [hHe, hLe]; exact hS
  have hP : va_P (dC, dI) vwCl [(h_this, .inr (4, [.null, .null, .null, .int 0, .int 0]))] H := by rw [hHe]; exact hP
  rw [show W p l e (headSpec wsX4_init ({ frames := 3, cells := 9, slots := 1329, locals := 60 })).room s m ([.ref h_this]).toArray below meth c s.heap [] 0 0 = W p l e (headSpec wsX4_init ({ frames := 3, cells := 9, slots := 1329, locals := 60 })).room s m ([.ref h_this]).toArray below meth c H locs 0 0 by rw [hHe, hLe]]
  clear hHe hLe
  refine lv_aload_n hx hb dX4_init_0 rfl (lv_at hl 0 rfl) ?_
  refine W.objInit hx hb hown w_1 w_2 w_3 rfl (by rw [hml]; exact hl.1) rfl dX4_init_1 (Nat.le_of_ble_eq_true rfl) (Nat.le_of_ble_eq_true rfl) ?_
  refine W.eq (g2 := F0 m 4 ls []) rfl ?_
  refine lv_aload_n hx hb dX4_init_4 rfl (lv_at hl 0 rfl) ?_
  refine va_new (ci := 1) (fs := [.null, .null, .int 0]) (C := RX1) (T := TX1) (N := 3) hx hb hts in_X1 tyX1 tyX1_ok hown w_4 w_5 w_6 hK hP hD hS hA rfl (fun j hj => by rcases (show j = 0 ∨ j = 1 ∨ j = 2 by omega) with rfl | rfl | rfl <;> rfl) (by decide) (by decide) dX4_init_5 (fun q1 H hP hD hS => ?_)
  have hP : va_P (dC, dI) vwCl [(h_this, .inr (4, [.null, .null, .null, .int 0, .int 0])), (q1, .inr (1, [.null, .null, .int 0]))] H := hP
  have hD : va_D A [(h_this, .inr (4, [.null, .null, .null, .int 0, .int 0])), (q1, .inr (1, [.null, .null, .int 0]))] := hD
  refine W.widen (k := 1) (n := 3) (by decide) (by decide) ?_
  refine lv_dup hx hb dX4_init_8 rfl ?_
  have hPc := hP.sub (ws' := [(q1, .inr (1, [.null, .null, .int 0]))]) [1] rfl
  have hDc := hD.sub (ws' := [(q1, .inr (1, [.null, .null, .int 0]))]) [1] (by decide) rfl
  have hKc := hK.sub (tys' := []) [] rfl
  have hFc := va_free (wc := [(q1, .inr (1, [.null, .null, .int 0]))]) hD hS hA [1] rfl
  refine va_callv (va_runIN (As := []) (rest := [.ref q1, .ref h_this]) ⟨hx, hb, hml, hown, hts⟩ (c_X1_init l dC dI adK adV q1 H.size) ⟨va_cnB 0 hts gX4_init_X1_init_n11 rfl rfl rfl (hE.1 _ (nz_X4_11 : _ ∈ nzL)) w_6 hdn_X1_init ⟨Nat.le_of_ble_eq_true rfl, Nat.le_of_ble_eq_true rfl⟩, rfl, w_7⟩ (preSE hKc hPc hDc (fun U hU hW => envp hE hS hFc hU hW)) rfl rfl hl.1 rfl (lv_room (Nat.le_of_ble_eq_true rfl)) dX4_init_9 ⟨by decide, by decide⟩) hS (fun q _ h => hFc q h) hFc (fun u2 tu2 H1 locs ht hvm hw hB hz1 hk1 hS => ?_)
  obtain ⟨q3, q4, k5, q6, k7, q8, k9⟩ := u2
  obtain ⟨hP1, hK1, hD1⟩ := hB
  rw [ht] at hP1
  have hK1 := va_K.moved hvm.symm hK1
  obtain ⟨hP, hD⟩ := va_join (wr := [(h_this, .inr (4, [.null, .null, .null, .int 0, .int 0]))]) (w1 := [(q1, .inr (1, [.ref q3, .ref q8, .int 0])), (q3, .inr (0, [.ref q4, .ref q6, .int 0])), (q4, .inl (k5, 300, .inl (fun _ => 0))), (q6, .inl (k7, 300, .inl (fun _ => 0))), (q8, .inl (k9, 100, .inl (fun _ => 0)))]) hP hD [1] [0] rfl rfl (by decide) (by decide) hk1 hFc hP1 hD1
  have hK := hK.app hK1
  generalize H1 = H at hP hS ⊢
  have hP : va_P (dC, dI) vwCl [(h_this, .inr (4, [.null, .null, .null, .int 0, .int 0])), (q1, .inr (1, [.ref q3, .ref q8, .int 0])), (q3, .inr (0, [.ref q4, .ref q6, .int 0])), (q4, .inl (k5, 300, .inl (fun _ => 0))), (q6, .inl (k7, 300, .inl (fun _ => 0))), (q8, .inl (k9, 100, .inl (fun _ => 0)))] H := hP
  have hD : va_D A [(h_this, .inr (4, [.null, .null, .null, .int 0, .int 0])), (q1, .inr (1, [.ref q3, .ref q8, .int 0])), (q3, .inr (0, [.ref q4, .ref q6, .int 0])), (q4, .inl (k5, 300, .inl (fun _ => 0))), (q6, .inl (k7, 300, .inl (fun _ => 0))), (q8, .inl (k9, 100, .inl (fun _ => 0)))] := hD
  have hK : va_K (dC, dI) vwCl [(k5, .int), (k7, .int), (k9, .int)] s := hK
  clear hk1 hz1 hPc hDc hKc hFc hP1 hK1 hD1
  refine W.widen (k := 5) (n := 706) (by decide) (by decide) ?_
  refine va_putF (D := (dC, dI)) (ci := 4) (v := .ref q1) (ty := .object "TermPile$Lines") (C := RX4) (T := TX4) (N := 5) hx hb hts in_X4 tyX4 tyX4_ok nmX4 hown hK hP hD hS 0 rfl rfl 0 (by decide) w_8 (fun _ h9 => h9) rfl hin rfl (by decide +kernel) rfl rfl (Nat.le_of_ble_eq_true rfl) dX4_init_12 (fun H locs hP hD hS => ?_)
  have hP : va_P (dC, dI) vwCl [(h_this, .inr (4, [.ref q1, .null, .null, .int 0, .int 0])), (q1, .inr (1, [.ref q3, .ref q8, .int 0])), (q3, .inr (0, [.ref q4, .ref q6, .int 0])), (q4, .inl (k5, 300, .inl (fun _ => 0))), (q6, .inl (k7, 300, .inl (fun _ => 0))), (q8, .inl (k9, 100, .inl (fun _ => 0)))] H := hP
  have hD : va_D A [(h_this, .inr (4, [.ref q1, .null, .null, .int 0, .int 0])), (q1, .inr (1, [.ref q3, .ref q8, .int 0])), (q3, .inr (0, [.ref q4, .ref q6, .int 0])), (q4, .inl (k5, 300, .inl (fun _ => 0))), (q6, .inl (k7, 300, .inl (fun _ => 0))), (q8, .inl (k9, 100, .inl (fun _ => 0)))] := hD
  refine lv_aload_n hx hb dX4_init_15 rfl (lv_at hl 0 rfl) ?_
  refine va_new (ci := 0) (fs := [.null, .null, .int 0]) (C := RX0) (T := TX0) (N := 3) hx hb hts in_X0 tyX0 tyX0_ok hown w_9 w_10 w_11 hK hP hD hS hA rfl (fun j hj => by rcases (show j = 0 ∨ j = 1 ∨ j = 2 by omega) with rfl | rfl | rfl <;> rfl) (by decide) (by decide) dX4_init_16 (fun q10 H hP hD hS => ?_)
  have hP : va_P (dC, dI) vwCl [(h_this, .inr (4, [.ref q1, .null, .null, .int 0, .int 0])), (q1, .inr (1, [.ref q3, .ref q8, .int 0])), (q3, .inr (0, [.ref q4, .ref q6, .int 0])), (q4, .inl (k5, 300, .inl (fun _ => 0))), (q6, .inl (k7, 300, .inl (fun _ => 0))), (q8, .inl (k9, 100, .inl (fun _ => 0))), (q10, .inr (0, [.null, .null, .int 0]))] H := hP
  have hD : va_D A [(h_this, .inr (4, [.ref q1, .null, .null, .int 0, .int 0])), (q1, .inr (1, [.ref q3, .ref q8, .int 0])), (q3, .inr (0, [.ref q4, .ref q6, .int 0])), (q4, .inl (k5, 300, .inl (fun _ => 0))), (q6, .inl (k7, 300, .inl (fun _ => 0))), (q8, .inl (k9, 100, .inl (fun _ => 0))), (q10, .inr (0, [.null, .null, .int 0]))] := hD
  refine W.widen (k := 6) (n := 709) (by decide) (by decide) ?_
  refine lv_dup hx hb dX4_init_19 rfl ?_
  have hPc := hP.sub (ws' := [(q10, .inr (0, [.null, .null, .int 0]))]) [6] rfl
  have hDc := hD.sub (ws' := [(q10, .inr (0, [.null, .null, .int 0]))]) [6] (by decide) rfl
  have hKc := hK.sub (tys' := []) [] rfl
  have hFc := va_free (wc := [(q10, .inr (0, [.null, .null, .int 0]))]) hD hS hA [6] rfl
  refine va_callv (va_runIN (As := []) (rest := [.ref q10, .ref h_this]) ⟨hx, hb, hml, hown, hts⟩ (c_X0_init l dC dI q10 H.size) ⟨va_cnB 0 hts gX4_init_X0_init_n20 rfl rfl rfl (hE.1 _ (nz_X4_20 : _ ∈ nzL)) w_11 hdn_X0_init ⟨Nat.le_of_ble_eq_true rfl, Nat.le_of_ble_eq_true rfl⟩, rfl, w_12⟩ (preS hKc hPc hDc) rfl rfl hl.1 rfl (lv_room (Nat.le_of_ble_eq_true rfl)) dX4_init_20 ⟨by decide, by decide⟩) hS (fun q _ h => hFc q h) hFc (fun u11 tu11 H1 locs ht hvm hw hB hz1 hk1 hS => ?_)
  obtain ⟨q12, k13, q14, k15⟩ := u11
  obtain ⟨hP1, hK1, hD1⟩ := hB
  rw [ht] at hP1
  have hK1 := va_K.moved hvm.symm hK1
  obtain ⟨hP, hD⟩ := va_join (wr := [(h_this, .inr (4, [.ref q1, .null, .null, .int 0, .int 0])), (q1, .inr (1, [.ref q3, .ref q8, .int 0])), (q3, .inr (0, [.ref q4, .ref q6, .int 0])), (q4, .inl (k5, 300, .inl (fun _ => 0))), (q6, .inl (k7, 300, .inl (fun _ => 0))), (q8, .inl (k9, 100, .inl (fun _ => 0)))]) (w1 := [(q10, .inr (0, [.ref q12, .ref q14, .int 0])), (q12, .inl (k13, 300, .inl (fun _ => 0))), (q14, .inl (k15, 300, .inl (fun _ => 0)))]) hP hD [6] [0, 1, 2, 3, 4, 5] rfl rfl (by decide) (by decide) hk1 hFc hP1 hD1
  have hK := hK.app hK1
  generalize H1 = H at hP hS ⊢
  have hP : va_P (dC, dI) vwCl [(h_this, .inr (4, [.ref q1, .null, .null, .int 0, .int 0])), (q1, .inr (1, [.ref q3, .ref q8, .int 0])), (q3, .inr (0, [.ref q4, .ref q6, .int 0])), (q4, .inl (k5, 300, .inl (fun _ => 0))), (q6, .inl (k7, 300, .inl (fun _ => 0))), (q8, .inl (k9, 100, .inl (fun _ => 0))), (q10, .inr (0, [.ref q12, .ref q14, .int 0])), (q12, .inl (k13, 300, .inl (fun _ => 0))), (q14, .inl (k15, 300, .inl (fun _ => 0)))] H := hP
  have hD : va_D A [(h_this, .inr (4, [.ref q1, .null, .null, .int 0, .int 0])), (q1, .inr (1, [.ref q3, .ref q8, .int 0])), (q3, .inr (0, [.ref q4, .ref q6, .int 0])), (q4, .inl (k5, 300, .inl (fun _ => 0))), (q6, .inl (k7, 300, .inl (fun _ => 0))), (q8, .inl (k9, 100, .inl (fun _ => 0))), (q10, .inr (0, [.ref q12, .ref q14, .int 0])), (q12, .inl (k13, 300, .inl (fun _ => 0))), (q14, .inl (k15, 300, .inl (fun _ => 0)))] := hD
  have hK : va_K (dC, dI) vwCl [(k5, .int), (k7, .int), (k9, .int), (k13, .int), (k15, .int)] s := hK
  clear hk1 hz1 hPc hDc hKc hFc hP1 hK1 hD1
  refine W.widen (k := 8) (n := 1309) (by decide) (by decide) ?_
  refine va_putF (D := (dC, dI)) (ci := 4) (v := .ref q10) (ty := .object "TermPile$Code") (C := RX4) (T := TX4) (N := 5) hx hb hts in_X4 tyX4 tyX4_ok nmX4 hown hK hP hD hS 0 rfl rfl 1 (by decide) w_13 (fun _ h9 => h9) rfl hin rfl (by decide +kernel) rfl rfl (Nat.le_of_ble_eq_true rfl) dX4_init_23 (fun H locs hP hD hS => ?_)
  have hP : va_P (dC, dI) vwCl [(h_this, .inr (4, [.ref q1, .ref q10, .null, .int 0, .int 0])), (q1, .inr (1, [.ref q3, .ref q8, .int 0])), (q3, .inr (0, [.ref q4, .ref q6, .int 0])), (q4, .inl (k5, 300, .inl (fun _ => 0))), (q6, .inl (k7, 300, .inl (fun _ => 0))), (q8, .inl (k9, 100, .inl (fun _ => 0))), (q10, .inr (0, [.ref q12, .ref q14, .int 0])), (q12, .inl (k13, 300, .inl (fun _ => 0))), (q14, .inl (k15, 300, .inl (fun _ => 0)))] H := hP
  have hD : va_D A [(h_this, .inr (4, [.ref q1, .ref q10, .null, .int 0, .int 0])), (q1, .inr (1, [.ref q3, .ref q8, .int 0])), (q3, .inr (0, [.ref q4, .ref q6, .int 0])), (q4, .inl (k5, 300, .inl (fun _ => 0))), (q6, .inl (k7, 300, .inl (fun _ => 0))), (q8, .inl (k9, 100, .inl (fun _ => 0))), (q10, .inr (0, [.ref q12, .ref q14, .int 0])), (q12, .inl (k13, 300, .inl (fun _ => 0))), (q14, .inl (k15, 300, .inl (fun _ => 0)))] := hD
  refine lv_aload_n hx hb dX4_init_26 rfl (lv_at hl 0 rfl) ?_
  refine lv_bipush (v := 20) hx hb dX4_init_27 (by decide) ?_
  refine va_newa (n := 20) (N' := 20) (a0 := (20, .inl (fun _ => 0))) (atype := .int) (ty := .int) hx hb w_14 rfl hK hP hD hS hA (newa_I _) (by decide) (by decide) (by decide) (by decide) (by decide) dX4_init_29 (fun q16 k17 H hK hP hD hS => ?_)
  have hK : va_K (dC, dI) vwCl [(k5, .int), (k7, .int), (k9, .int), (k13, .int), (k15, .int), (k17, .int)] s := hK
  have hP : va_P (dC, dI) vwCl [(h_this, .inr (4, [.ref q1, .ref q10, .null, .int 0, .int 0])), (q1, .inr (1, [.ref q3, .ref q8, .int 0])), (q3, .inr (0, [.ref q4, .ref q6, .int 0])), (q4, .inl (k5, 300, .inl (fun _ => 0))), (q6, .inl (k7, 300, .inl (fun _ => 0))), (q8, .inl (k9, 100, .inl (fun _ => 0))), (q10, .inr (0, [.ref q12, .ref q14, .int 0])), (q12, .inl (k13, 300, .inl (fun _ => 0))), (q14, .inl (k15, 300, .inl (fun _ => 0))), (q16, .inl (k17, 20, .inl (fun _ => 0)))] H := hP
  have hD : va_D A [(h_this, .inr (4, [.ref q1, .ref q10, .null, .int 0, .int 0])), (q1, .inr (1, [.ref q3, .ref q8, .int 0])), (q3, .inr (0, [.ref q4, .ref q6, .int 0])), (q4, .inl (k5, 300, .inl (fun _ => 0))), (q6, .inl (k7, 300, .inl (fun _ => 0))), (q8, .inl (k9, 100, .inl (fun _ => 0))), (q10, .inr (0, [.ref q12, .ref q14, .int 0])), (q12, .inl (k13, 300, .inl (fun _ => 0))), (q14, .inl (k15, 300, .inl (fun _ => 0))), (q16, .inl (k17, 20, .inl (fun _ => 0)))] := hD
  refine W.widen (k := 9) (n := 1329) (by decide) (by decide) ?_
  refine va_putF (D := (dC, dI)) (ci := 4) (v := .ref q16) (ty := .array .int) (C := RX4) (T := TX4) (N := 5) hx hb hts in_X4 tyX4 tyX4_ok nmX4 hown hK hP hD hS 0 rfl rfl 2 (by decide) w_15 (fun _ h9 => h9) rfl hin rfl (by decide +kernel) rfl rfl (Nat.le_of_ble_eq_true rfl) dX4_init_31 (fun H locs hP hD hS => ?_)
  have hP : va_P (dC, dI) vwCl [(h_this, .inr (4, [.ref q1, .ref q10, .ref q16, .int 0, .int 0])), (q1, .inr (1, [.ref q3, .ref q8, .int 0])), (q3, .inr (0, [.ref q4, .ref q6, .int 0])), (q4, .inl (k5, 300, .inl (fun _ => 0))), (q6, .inl (k7, 300, .inl (fun _ => 0))), (q8, .inl (k9, 100, .inl (fun _ => 0))), (q10, .inr (0, [.ref q12, .ref q14, .int 0])), (q12, .inl (k13, 300, .inl (fun _ => 0))), (q14, .inl (k15, 300, .inl (fun _ => 0))), (q16, .inl (k17, 20, .inl (fun _ => 0)))] H := hP
  have hD : va_D A [(h_this, .inr (4, [.ref q1, .ref q10, .ref q16, .int 0, .int 0])), (q1, .inr (1, [.ref q3, .ref q8, .int 0])), (q3, .inr (0, [.ref q4, .ref q6, .int 0])), (q4, .inl (k5, 300, .inl (fun _ => 0))), (q6, .inl (k7, 300, .inl (fun _ => 0))), (q8, .inl (k9, 100, .inl (fun _ => 0))), (q10, .inr (0, [.ref q12, .ref q14, .int 0])), (q12, .inl (k13, 300, .inl (fun _ => 0))), (q14, .inl (k15, 300, .inl (fun _ => 0))), (q16, .inl (k17, 20, .inl (fun _ => 0)))] := hD
  refine lv_aload_n hx hb dX4_init_34 rfl (lv_at hl 0 rfl) ?_
  refine lv_iconst (v := 0) hx hb dX4_init_35 (by decide) ?_
  refine va_put (D := (dC, dI)) (ci := 4) (v := .int 0) (ty := .int) (C := RX4) (T := TX4) (N := 5) hx hb hts in_X4 tyX4 tyX4_ok nmX4 hown hK hP hD hS 0 rfl rfl 3 (by decide) w_16 (fun _ h9 => h9) rfl (by decide +kernel) rfl rfl (Nat.le_of_ble_eq_true rfl) dX4_init_36 (fun H locs hP hD hS => ?_)
  have hP : va_P (dC, dI) vwCl [(h_this, .inr (4, [.ref q1, .ref q10, .ref q16, .int 0, .int 0])), (q1, .inr (1, [.ref q3, .ref q8, .int 0])), (q3, .inr (0, [.ref q4, .ref q6, .int 0])), (q4, .inl (k5, 300, .inl (fun _ => 0))), (q6, .inl (k7, 300, .inl (fun _ => 0))), (q8, .inl (k9, 100, .inl (fun _ => 0))), (q10, .inr (0, [.ref q12, .ref q14, .int 0])), (q12, .inl (k13, 300, .inl (fun _ => 0))), (q14, .inl (k15, 300, .inl (fun _ => 0))), (q16, .inl (k17, 20, .inl (fun _ => 0)))] H := hP
  have hD : va_D A [(h_this, .inr (4, [.ref q1, .ref q10, .ref q16, .int 0, .int 0])), (q1, .inr (1, [.ref q3, .ref q8, .int 0])), (q3, .inr (0, [.ref q4, .ref q6, .int 0])), (q4, .inl (k5, 300, .inl (fun _ => 0))), (q6, .inl (k7, 300, .inl (fun _ => 0))), (q8, .inl (k9, 100, .inl (fun _ => 0))), (q10, .inr (0, [.ref q12, .ref q14, .int 0])), (q12, .inl (k13, 300, .inl (fun _ => 0))), (q14, .inl (k15, 300, .inl (fun _ => 0))), (q16, .inl (k17, 20, .inl (fun _ => 0)))] := hD
  refine lv_aload_n hx hb dX4_init_39 rfl (lv_at hl 0 rfl) ?_
  refine lv_iconst (v := 0) hx hb dX4_init_40 (by decide) ?_
  refine va_put (D := (dC, dI)) (ci := 4) (v := .int 0) (ty := .int) (C := RX4) (T := TX4) (N := 5) hx hb hts in_X4 tyX4 tyX4_ok nmX4 hown hK hP hD hS 0 rfl rfl 4 (by decide) w_17 (fun _ h9 => h9) rfl (by decide +kernel) rfl rfl (Nat.le_of_ble_eq_true rfl) dX4_init_41 (fun H locs hP hD hS => ?_)
  have hP : va_P (dC, dI) vwCl [(h_this, .inr (4, [.ref q1, .ref q10, .ref q16, .int 0, .int 0])), (q1, .inr (1, [.ref q3, .ref q8, .int 0])), (q3, .inr (0, [.ref q4, .ref q6, .int 0])), (q4, .inl (k5, 300, .inl (fun _ => 0))), (q6, .inl (k7, 300, .inl (fun _ => 0))), (q8, .inl (k9, 100, .inl (fun _ => 0))), (q10, .inr (0, [.ref q12, .ref q14, .int 0])), (q12, .inl (k13, 300, .inl (fun _ => 0))), (q14, .inl (k15, 300, .inl (fun _ => 0))), (q16, .inl (k17, 20, .inl (fun _ => 0)))] H := hP
  have hD : va_D A [(h_this, .inr (4, [.ref q1, .ref q10, .ref q16, .int 0, .int 0])), (q1, .inr (1, [.ref q3, .ref q8, .int 0])), (q3, .inr (0, [.ref q4, .ref q6, .int 0])), (q4, .inl (k5, 300, .inl (fun _ => 0))), (q6, .inl (k7, 300, .inl (fun _ => 0))), (q8, .inl (k9, 100, .inl (fun _ => 0))), (q10, .inr (0, [.ref q12, .ref q14, .int 0])), (q12, .inl (k13, 300, .inl (fun _ => 0))), (q14, .inl (k15, 300, .inl (fun _ => 0))), (q16, .inl (k17, 20, .inl (fun _ => 0)))] := hD
  exact W.vret hx hb hr (fun t ht hW => ⟨⟨(q1, q3, q4, k5, q6, k7, q8, k9, q10, q12, k13, q14, k15, q16, k17), rfl, trivial, by rw [ht]; exact hP, va_K.moved hW.alike hK, hD⟩, hS.F ht⟩) hS.2.2 dX4_init_44
