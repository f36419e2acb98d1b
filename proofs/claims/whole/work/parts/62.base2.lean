/-! what the methods that throw take as given -/
def xzL : List Cond := [.castable "java/lang/IllegalArgumentException" "java/lang/IllegalArgumentException", .castable "java/lang/IllegalStateException" "java/lang/IllegalStateException", .castable "java/lang/IndexOutOfBoundsException" "java/lang/IndexOutOfBoundsException", .declares ⟨"java/lang/RuntimeException", "<init>", "(Ljava/lang/String;)V"⟩, .declares ⟨"java/lang/Exception", "<init>", "(Ljava/lang/String;)V"⟩, .declares ⟨"java/lang/Throwable", "<init>", "(Ljava/lang/String;)V"⟩]
theorem xz_0 : (Cond.castable "java/lang/IllegalArgumentException" "java/lang/IllegalArgumentException") ∈ xzL := List.mem_of_getElem? (i := 0) rfl
theorem xz_1 : (Cond.castable "java/lang/IllegalStateException" "java/lang/IllegalStateException") ∈ xzL := List.mem_of_getElem? (i := 1) rfl
theorem xz_2 : (Cond.castable "java/lang/IndexOutOfBoundsException" "java/lang/IndexOutOfBoundsException") ∈ xzL := List.mem_of_getElem? (i := 2) rfl
theorem xz_3 : (Cond.declares ⟨"java/lang/RuntimeException", "<init>", "(Ljava/lang/String;)V"⟩) ∈ xzL := List.mem_of_getElem? (i := 3) rfl
theorem xz_4 : (Cond.declares ⟨"java/lang/Exception", "<init>", "(Ljava/lang/String;)V"⟩) ∈ xzL := List.mem_of_getElem? (i := 4) rfl
theorem xz_5 : (Cond.declares ⟨"java/lang/Throwable", "<init>", "(Ljava/lang/String;)V"⟩) ∈ xzL := List.mem_of_getElem? (i := 5) rfl
theorem xz_same {u U : State} (hv : u.vm = U.vm) (h : ∀ w ∈ xzL, va_Nw w u) : ∀ w ∈ xzL, va_Nw w U := by
  intro w hw
  have hw2 := h w hw
  simp only [xzL, List.mem_cons, List.not_mem_nil, or_false] at hw
  rcases hw with rfl | rfl | rfl | rfl | rfl | rfl <;> exact va_Nw.same rfl hv hw2
theorem xz_warm {s U : State} (hW : s.WarmedH U.vm) (h : ∀ w ∈ xzL, va_Nw w s) : ∀ w ∈ xzL, va_Nw w U := by
  intro w hw
  have hw2 := h w hw
  simp only [xzL, List.mem_cons, List.not_mem_nil, or_false] at hw
  rcases hw with rfl | rfl | rfl | rfl | rfl | rfl <;> first | exact va_Nw.warmC hW hw2 | exact va_Nw.warmD hW hw2
def envX (A : Nat → Prop) (U : State) (H : Heap) : Prop := (∀ w ∈ xzL, va_Nw w U) ∧ (∃ a : Nat, vk_R RX5 55 "no such kind or number" a U) ∧ (∃ a : Nat, vk_R RX5 69 "the act can't be done" a U) ∧ (∃ a : Nat, vk_R RX5 109 "no such side" a U) ∧ (∃ a : Nat, vk_R RX5 128 "no such side or variable" a U) ∧ (∃ a : Nat, vk_R RX5 139 "nothing lies there" a U) ∧ vx_Zq Bundle.tN "UNASSIGNED_STACK" Bundle.steD A U H ∧ vx_Zq Bundle.tN "SUPPRESSED_SENTINEL" Bundle.listD A U H
theorem vkx_same {own tx : String} {k : Nat} {u U : State} (hv : U.vm = u.vm) (h : ∃ a : Nat, vk_R own k tx a u) : ∃ a : Nat, vk_R own k tx a U := by
  obtain ⟨a, h⟩ := h
  exact ⟨a, h.same hv⟩
theorem vkx_warm {own tx : String} {k : Nat} {s U : State} (hW : s.WarmedH U.vm) (h : ∃ a : Nat, vk_R own k tx a s) : ∃ a : Nat, vk_R own k tx a U := by
  obtain ⟨a, h⟩ := h
  exact ⟨a, h.warm hW⟩
theorem envX.call {A : Nat → Prop} {U : State} {H : Heap} {g : JFrame} {mk : MethodId} {a : Array Value} (h : envX A U H) : envX A (U.calling g mk a) H := by
  obtain ⟨h0, h1, h2, h3, h4, h5, h6, h7⟩ := h
  have hvm : U.vm.Alike (U.calling g mk a).vm := Vm.Alike.refl U.vm
  exact ⟨xz_same (u := U) rfl h0, vkx_same (u := U) rfl h1, vkx_same (u := U) rfl h2, vkx_same (u := U) rfl h3, vkx_same (u := U) rfl h4, vkx_same (u := U) rfl h5, h6.moved hvm, h7.moved hvm⟩
theorem envXp {A B : Nat → Prop} {s U : State} {H : Heap} {locs : List Loc} (h : envX A s s.heap) (hS : va_S A s.heap H locs) (hF : ∀ q, B q → A q) (hU : U.heap = H) (hW : s.WarmedH U.vm) : envX B U U.heap := by
  obtain ⟨h0, h1, h2, h3, h4, h5, h6, h7⟩ := h
  have hvm := hW.alike
  have hq := hS.2.1
  rw [hU]
  exact ⟨xz_warm hW h0, vkx_warm hW h1, vkx_warm hW h2, vkx_warm hW h3, vkx_warm hW h4, vkx_warm hW h5, ((h6.moved hvm).kept hq).narrow hF, ((h7.moved hvm).kept hq).narrow hF⟩
theorem preVX {adK adV : Nat → Nat} {dC : Nat → ClassId} {dI : Nat → Nat → Nat} {ws : va_W} {ty : List (ClassId × FieldType)} {s : State} {H : Heap} {A B : Nat → Prop} {As : List Value} {b : Addr} {C : String} (hK : va_K (dC, dI) vwCl ty s) (hP : va_P (dC, dI) vwCl ws H) (hD : va_D A ws) (hr : ∃ cell : Cell, H[b]? = some cell ∧ cell.vm.isStatics = false ∧ s.vm.findClass C = some cell.cls) (hE : ∀ U : State, U.heap = H → s.WarmedH U.vm → env adK adV B U U.heap) (hX : ∀ U : State, U.heap = H → s.WarmedH U.vm → envX B U U.heap) : PreV s H C b (va_Pc (.ref b :: As) (fun U => mPre dC dI ws ty H.size U ∧ env adK adV B U U.heap ∧ envX B U U.heap)) As :=
  ⟨fun a U g mk q => ⟨q.1, q.2.1.call, q.2.2.1.call, q.2.2.2.call⟩, hr, fun U hU hW => ⟨rfl, mPre.of hK hP hD hU hW, hE U hU hW, hX U hU hW⟩⟩
theorem preSX {adK adV : Nat → Nat} {dC : Nat → ClassId} {dI : Nat → Nat → Nat} {ws : va_W} {ty : List (ClassId × FieldType)} {s : State} {H : Heap} {A B : Nat → Prop} {As : List Value} (hK : va_K (dC, dI) vwCl ty s) (hP : va_P (dC, dI) vwCl ws H) (hD : va_D A ws) (hE : ∀ U : State, U.heap = H → s.WarmedH U.vm → env adK adV B U U.heap) (hX : ∀ U : State, U.heap = H → s.WarmedH U.vm → envX B U U.heap) : PreS s H (va_Pc As (fun U => mPre dC dI ws ty H.size U ∧ env adK adV B U U.heap ∧ envX B U U.heap)) As :=
  ⟨fun a U g mk q => ⟨q.1, q.2.1.call, q.2.2.1.call, q.2.2.2.call⟩, fun U hU hW => ⟨rfl, mPre.of hK hP hD hU hW, hE U hU hW, hX U hU hW⟩⟩
/-- which throw an answer is -/
def exA {α : Type} (E : String) (res : Nat ⊕ α) : Prop := (E = "java/lang/IllegalArgumentException" ∧ res = .inl 1) ∨ (E = "java/lang/IllegalStateException" ∧ res = .inl 2)
def exR {α : Type} (E : String) (res : Nat ⊕ α) : Prop := E = "java/lang/IllegalArgumentException" ∧ res = .inl 1
def exO {α : Type} (E : String) (res : Nat ⊕ α) : Prop := E = "java/lang/IndexOutOfBoundsException" ∧ res = .inl 1
theorem hdn_X5_machineOf : yX5_machineOf.cls ≠ "java/lang/invoke/MethodHandle" ∧ yX5_machineOf.cls ≠ "java/lang/invoke/VarHandle" ∧ (parseMethodDescriptor yX5_machineOf.desc).map (fun d => d.parameters.length) = some 1 := by decide +kernel
theorem hd_X5_machineOf : yX5_machineOf.cls = RX5 ∧ yX5_machineOf.cls ≠ "java/lang/invoke/MethodHandle" ∧ yX5_machineOf.cls ≠ "java/lang/invoke/VarHandle" ∧ (parseMethodDescriptor yX5_machineOf.desc).map (fun d => d.parameters.length) = some 1 := ⟨rfl, hdn_X5_machineOf⟩
set_option maxHeartbeats 4000000 in
set_option maxRecDepth 100000 in
theorem c_X5_machineOf (l : Launch) (dC : Nat → ClassId) (dI : Nat → Nat → Nat) (h_this hA0 hL0 : Nat) (u0 u1 u2 u3 u6 : Value) (sz : Nat) (a_p1 : Int32) : Met l yX5_machineOf wsX5_machineOf ({ frames := 0, cells := 0, slots := 0, locals := 0 }) (va_Pc [.ref h_this, .int a_p1] (fun U => mPre dC dI [(h_this, .inr (5, [u0, u1, u2, u3, .ref hA0, .ref hL0, u6]))] [] sz U)) (va_Qr (fun (_ : Unit) => True) (fun (_ : Unit) ra t => mPost dC dI (va_A [(h_this, .inr (5, [u0, u1, u2, u3, .ref hA0, .ref hL0, u6]))] sz) [(h_this, .inr (5, [u0, u1, u2, u3, .ref hA0, .ref hL0, u6]))] [] t ∧ ra = (if a_p1 = 0 then hA0 else hL0)) (va_A [(h_this, .inr (5, [u0, u1, u2, u3, .ref hA0, .ref hL0, u6]))] sz)) 0 0 (va_A [(h_this, .inr (5, [u0, u1, u2, u3, .ref hA0, .ref hL0, u6]))] sz) := by
  refine Met.ofW (cc := cX5_machineOf) (maxL := 2) (ret := (some (.object "TermPile$Machine"))) (by decide) rfl ?_
  intro p e s m args below meth c s₁ B hml hv
  obtain ⟨rfl, ⟨hsz, hP, hK, hD0⟩⟩ := hv
  have hx := B.exec
  have hb := B.bytes
  have hr := B.returns
  have hts := atoms_spec (ws := wsX5_machineOf) B.pre
  have hown : s.vm.findClass RX5 = some m.cls := findClass_of_methodNamed B.named
  have hlocks := B.notSynchronized
  have w_1 := hts (.fieldLink RX5 35 "TermPile" "actsMachine" "LTermPile$Machine;") (by decide +kernel)
  have w_2 := hts (.fieldLink RX5 39 "TermPile" "linesMachine" "LTermPile$Machine;") (by decide +kernel)
  have in_X5 : ∀ w ∈ wsX50, w ∈ wsX5_machineOf := by decide +kernel
  subst hsz
  have hD := hD0.self (sz := s.heap.size)
  generalize hAe : va_A [(h_this, .inr (5, [u0, u1, u2, u3, .ref hA0, .ref hL0, u6]))] s.heap.size = A at hD ⊢
  have hS : va_S A s.heap s.heap [] := va_S.rf
  have hl := lv_entry ([.ref h_this, .int a_p1]) (n := 2) (Nat.le_of_ble_eq_true rfl)
  rw [lg_entry_eq]
  generalize (lg_sl ([.ref h_this, .int a_p1]) ++ List.replicate (2 - (lg_sl ([.ref h_this, .int a_p1])).length) Slot.unset).toArray = ls at hl ⊢
  have hl : lv_has ls 2 [(0, .ref h_this), (1, .int a_p1)] := hl
  refine lv_iload_n hx hb dX5_machineOf_0 rfl (lv_at hl 1 rfl) ?_
  refine lv_if_ne (tgt := 11) hx hb dX5_machineOf_1 (by decide) (fun c1 => ?_) (fun c1 => ?_)
  · refine lv_aload_n hx hb dX5_machineOf_11 rfl (lv_at hl 0 rfl) ?_
    refine va_get (D := (dC, dI)) (ci := 5) (v := .ref hL0) (C := RX5) (T := TX5) (N := 7) hx hb hts in_X5 hown hK hP 0 rfl rfl 5 (by decide) w_2 (fun _ h9 => h9) rfl dX5_machineOf_12 ?_
    exact W.aret (v := .ref hL0) hx hb hr (Or.inl ⟨_, rfl⟩) (Or.inr ⟨_, rfl⟩) (fun t ht hW => ⟨⟨(), hL0, rfl, trivial, ⟨by rw [ht]; exact hP, va_K.moved hW.alike hK, hD⟩, (if_neg c1).symm⟩, hS.F ht⟩) hS.2.2 dX5_machineOf_15
  · refine lv_aload_n hx hb dX5_machineOf_4 rfl (lv_at hl 0 rfl) ?_
    refine va_get (D := (dC, dI)) (ci := 5) (v := .ref hA0) (C := RX5) (T := TX5) (N := 7) hx hb hts in_X5 hown hK hP 0 rfl rfl 4 (by decide) w_1 (fun _ h9 => h9) rfl dX5_machineOf_5 ?_
    refine lv_goto (tgt := 15) hx hb dX5_machineOf_8 (by decide) ?_
    exact W.aret (v := .ref hA0) hx hb hr (Or.inl ⟨_, rfl⟩) (Or.inr ⟨_, rfl⟩) (fun t ht hW => ⟨⟨(), hA0, rfl, trivial, ⟨by rw [ht]; exact hP, va_K.moved hW.alike hK, hD⟩, (if_pos c1).symm⟩, hS.F ht⟩) hS.2.2 dX5_machineOf_15
