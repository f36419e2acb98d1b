/-! words that all contracts below use: checked steps of a pure program, a method's start and end, what the class may take as given (nest words, tables, texts) -/
def FU : Nat := 5000
/-- an index, looked at -/
def ixd {α : Type} (i : Int32) (n : Nat) (x : Option α) : Option α := if i < 0 ∨ n ≤ i.toNatClampNeg then none else x
theorem ixd_ok {α : Type} {i : Int32} {n : Nat} {x : Option α} {r : α} (h : ixd i n x = some r) : vp_in i n ∧ x = some r := by
  unfold ixd at h
  by_cases hc : i < 0 ∨ n ≤ i.toNatClampNeg
  · rw [if_pos hc] at h; cases h
  · rw [if_neg hc] at h; exact ⟨hc, h⟩
theorem ixd_of {α : Type} {i : Int32} {n : Nat} {x : Option α} (h : vp_in i n) : ixd i n x = x := if_neg h
/-- a divisor, looked at -/
def nzi {α : Type} (y : Int32) (x : Option α) : Option α := if y = 0 then none else x
theorem nzi_ok {α : Type} {y : Int32} {x : Option α} {r : α} (h : nzi y x = some r) : ¬ y = 0 ∧ x = some r := by
  unfold nzi at h
  by_cases hc : y = 0
  · rw [if_pos hc] at h; cases h
  · rw [if_neg hc] at h; exact ⟨hc, h⟩
def nzl {α : Type} (y : Int64) (x : Option α) : Option α := if y = 0 then none else x
theorem nzl_ok {α : Type} {y : Int64} {x : Option α} {r : α} (h : nzl y x = some r) : ¬ y = 0 ∧ x = some r := by
  unfold nzl at h
  by_cases hc : y = 0
  · rw [if_pos hc] at h; cases h
  · rw [if_neg hc] at h; exact ⟨hc, h⟩
/-- an answer that must be a boolean, a char -/
def ckz {α : Type} (y : Int32) (x : Option α) : Option α := if y = 0 ∨ y = 1 then x else none
theorem ckz_ok {α : Type} {y : Int32} {x : Option α} {r : α} (h : ckz y x = some r) : narrow .boolean (.int y) = .int y ∧ x = some r := by
  unfold ckz at h
  by_cases hc : y = 0 ∨ y = 1
  · rw [if_pos hc] at h
    refine ⟨?_, h⟩
    rcases hc with e | e <;> rw [e] <;> decide
  · rw [if_neg hc] at h; cases h
def ckc {α : Type} (y : Int32) (x : Option α) : Option α := if vp_nar .char y = y then x else none
theorem ckc_ok {α : Type} {y : Int32} {x : Option α} {r : α} (h : ckc y x = some r) : narrow .char (.int y) = .int y ∧ x = some r := by
  unfold ckc at h
  by_cases hc : vp_nar .char y = y
  · rw [if_pos hc] at h
    exact ⟨congrArg Value.int hc, h⟩
  · rw [if_neg hc] at h; cases h
theorem it_t {α : Type} {c : Prop} {i : Decidable c} {a b : Option α} {r : α} (h : (@ite _ c i a b) = some r) (hc : c) : a = some r := by rw [if_pos hc] at h; exact h
theorem it_f {α : Type} {c : Prop} {i : Decidable c} {a b : Option α} {r : α} (h : (@ite _ c i a b) = some r) (hc : ¬ c) : b = some r := by rw [if_neg hc] at h; exact h
section LSD
variable {p : Program} {l : Launch} {e : Env} {R : Room} {s : State} {m : MethodId} {args : Array Value} {below : List Frame} {meth : Method} {c : Code} {H : Heap} {locs : List Loc} {cells slots : Nat} {Q : State → Prop}
variable {cc : ByteArray} {pc : Nat} {ls : Array Slot} {rest : List Value}
/-- a table's default, also from inside its range -/
theorem lv_tableD (hexec : p.tables.exec = Jvm.exec) (hb : c.code = cc) {dflt lo hi : Int} {offs : Array Int} {len : Nat} {x : Int32} {tgt : Nat} (hdg : decode cc pc = .ok (.tableswitch dflt lo hi offs, len)) (ht : (pc : Int) + dflt = (tgt : Int)) (h : ¬ x.toInt < lo → ¬ hi < x.toInt → offs[(x.toInt - lo).toNat]? = some dflt)
    (k : W p l e R s m args below meth c H locs cells slots Q (F0 m tgt ls rest)) : W p l e R s m args below meth c H locs cells slots Q (F0 m pc ls (.int x :: rest)) := by
  by_cases h1 : x.toInt < lo
  · exact lv_tableOut hexec hb hdg (Or.inl h1) ht k
  · by_cases h2 : hi < x.toInt
    · exact lv_tableOut hexec hb hdg (Or.inr h2) ht k
    · exact lv_tableIn hexec hb hdg h1 h2 (h h1 h2) ht k
end LSD
/-- a method's start and its end, by its world -/
def mPre (dC : Nat → ClassId) (dI : Nat → Nat → Nat) (ws : va_W) (ty : List (ClassId × FieldType)) (sz : Nat) (U : State) : Prop := U.heap.size = sz ∧ va_P (dC, dI) vwCl ws U.heap ∧ va_K (dC, dI) vwCl ty U ∧ va_D (fun _ => True) ws
def mPost (dC : Nat → ClassId) (dI : Nat → Nat → Nat) (A : Nat → Prop) (ws : va_W) (ty : List (ClassId × FieldType)) (t : State) : Prop := va_P (dC, dI) vwCl ws t.heap ∧ va_K (dC, dI) vwCl ty t ∧ va_D A ws
theorem mPre.call {dC : Nat → ClassId} {dI : Nat → Nat → Nat} {ws : va_W} {ty : List (ClassId × FieldType)} {sz : Nat} {U : State} {g : JFrame} {mk : MethodId} {a : Array Value} (q : mPre dC dI ws ty sz U) : mPre dC dI ws ty sz (U.calling g mk a) :=
  ⟨q.1, q.2.1, va_K.moved (u := U) (U := U.calling g mk a) (Vm.Alike.refl U.vm) q.2.2.1, q.2.2.2⟩
theorem mPre.of {dC : Nat → ClassId} {dI : Nat → Nat → Nat} {ws : va_W} {ty : List (ClassId × FieldType)} {s U : State} {H : Heap} {A : Nat → Prop} (hK : va_K (dC, dI) vwCl ty s) (hP : va_P (dC, dI) vwCl ws H) (hD : va_D A ws) (hU : U.heap = H) (hW : s.WarmedH U.vm) : mPre dC dI ws ty H.size U :=
  ⟨by rw [hU], by rw [hU]; exact hP, va_K.moved hW.alike hK, hD.weaken (fun _ _ _ _ => trivial)⟩
theorem preS {dC : Nat → ClassId} {dI : Nat → Nat → Nat} {ws : va_W} {ty : List (ClassId × FieldType)} {s : State} {H : Heap} {A : Nat → Prop} {As : List Value} (hK : va_K (dC, dI) vwCl ty s) (hP : va_P (dC, dI) vwCl ws H) (hD : va_D A ws) : PreS s H (va_Pc As (fun U => mPre dC dI ws ty H.size U)) As :=
  ⟨fun a U g mk q => ⟨q.1, q.2.call⟩, fun U hU hW => ⟨rfl, mPre.of hK hP hD hU hW⟩⟩
theorem preV {dC : Nat → ClassId} {dI : Nat → Nat → Nat} {ws : va_W} {ty : List (ClassId × FieldType)} {s : State} {H : Heap} {A : Nat → Prop} {As : List Value} {b : Addr} {C : String} (hK : va_K (dC, dI) vwCl ty s) (hP : va_P (dC, dI) vwCl ws H) (hD : va_D A ws) (hr : ∃ cell : Cell, H[b]? = some cell ∧ cell.vm.isStatics = false ∧ s.vm.findClass C = some cell.cls) : PreV s H C b (va_Pc (.ref b :: As) (fun U => mPre dC dI ws ty H.size U)) As :=
  ⟨fun a U g mk q => ⟨q.1, q.2.call⟩, hr, fun U hU hW => ⟨rfl, mPre.of hK hP hD hU hW⟩⟩
theorem keep0 {D : va_G} {cl : List vw_C} {ws : va_W} {H H1 : Heap} (hP : va_P D cl ws H) (hk : ∀ q : Nat, q < H.size → ¬ va_A [] H.size q → H1[q]? = H[q]?) : va_P D cl ws H1 := by
  refine hP.kept (fun k q hq => ?_)
  have hl := (hP k q hq).lt
  refine hk q.1 hl (fun z => ?_)
  rcases z with ⟨k2, e2, z⟩ | z
  · simp at z
  · omega
def tb_TAKES (j : Nat) : Int32 := ([0, 0, 1, 0, 2, 1, 1, 1, 2, 2, 0] : List Int32).getD j 0
def tb_PUTS (j : Nat) : Int32 := ([1, 1, 0, 0, 1, 1, 0, 2, 2, 3, 1] : List Int32).getD j 0
def tb_LEAST_NUMBER (j : Nat) : Int32 := ([-128, 0, 0, 0, 0, 0, 0, 0, 0, 0, 0] : List Int32).getD j 0
def tb_MOST_NUMBER (j : Nat) : Int32 := ([127, 9, 9, 2559, 7, 0, 0, 0, 0, 0, 3] : List Int32).getD j 0
def tb_OP_RANKS (j : Nat) : Int32 := ([3, 3, 4, 2, 0, 1, 4, 4] : List Int32).getD j 0
def nzL : List Cond := [.fieldLinkNest RX1 26 "TermPile$Code" "size" "I" "TermPile", .fieldLinkNest RX2 32 "TermPile$Code" "size" "I" "TermPile", .fieldLinkNest RX3 87 "TermPile" "OP_RANKS" "[I" "TermPile", .fieldLinkNest RX4 58 "TermPile$Code" "size" "I" "TermPile", .fieldLinkNest RX5 23 "TermPile$Terms" "lines" "LTermPile$Lines;" "TermPile", .fieldLinkNest RX5 60 "TermPile$Code" "size" "I" "TermPile", .fieldLinkNest RX5 79 "TermPile$Lines" "size" "I" "TermPile", .fieldLinkNest RX5 82 "TermPile$Lines" "code" "LTermPile$Code;" "TermPile", .fieldLinkNest RX5 96 "TermPile$Terms" "size" "I" "TermPile", .fieldLinkNest RX5 97 "TermPile$Terms" "code" "LTermPile$Code;" "TermPile", .fieldLinkNest RX5 123 "TermPile$Machine" "calls" "I" "TermPile", .fieldLinkNest RX5 131 "TermPile$Machine" "hasRun" "Z" "TermPile", .fieldLinkNest RX5 135 "TermPile$Machine" "variables" "[J" "TermPile", .fieldLinkNest RX5 138 "TermPile$Machine" "size" "I" "TermPile", .fieldLinkNest RX5 141 "TermPile$Machine" "pile" "[J" "TermPile", .fieldLinkNest RX5 144 "TermPile$Terms" "temporaries" "I" "TermPile", .methodLinkNest RX1 11 yX0_init "TermPile", .methodLinkNest RX2 50 yX5_isVariable "TermPile", .methodLinkNest RX2 62 yX5_grownVariableIn "TermPile", .methodLinkNest RX2 65 yX5_growthIn "TermPile", .methodLinkNest RX3 53 yX5_growthIn "TermPile", .methodLinkNest RX3 61 yX5_grownVariableIn "TermPile", .methodLinkNest RX4 11 yX1_init "TermPile", .methodLinkNest RX4 20 yX0_init "TermPile", .methodLinkNest RX4 36 yX5_takenBy "TermPile", .methodLinkNest RX5 11 yX0_init "TermPile", .methodLinkNest RX5 18 yX4_init "TermPile", .methodLinkNest RX5 34 yX2_init "TermPile", .methodLinkNest RX5 44 yX3_init "TermPile"]
theorem nz_X1_26 : (Cond.fieldLinkNest RX1 26 "TermPile$Code" "size" "I" "TermPile" : Cond) ∈ nzL := List.mem_of_getElem? (i := 0) rfl
theorem nz_X2_32 : (Cond.fieldLinkNest RX2 32 "TermPile$Code" "size" "I" "TermPile" : Cond) ∈ nzL := List.mem_of_getElem? (i := 1) rfl
theorem nz_X3_87 : (Cond.fieldLinkNest RX3 87 "TermPile" "OP_RANKS" "[I" "TermPile" : Cond) ∈ nzL := List.mem_of_getElem? (i := 2) rfl
theorem nz_X4_58 : (Cond.fieldLinkNest RX4 58 "TermPile$Code" "size" "I" "TermPile" : Cond) ∈ nzL := List.mem_of_getElem? (i := 3) rfl
theorem nz_X5_23 : (Cond.fieldLinkNest RX5 23 "TermPile$Terms" "lines" "LTermPile$Lines;" "TermPile" : Cond) ∈ nzL := List.mem_of_getElem? (i := 4) rfl
theorem nz_X5_60 : (Cond.fieldLinkNest RX5 60 "TermPile$Code" "size" "I" "TermPile" : Cond) ∈ nzL := List.mem_of_getElem? (i := 5) rfl
theorem nz_X5_79 : (Cond.fieldLinkNest RX5 79 "TermPile$Lines" "size" "I" "TermPile" : Cond) ∈ nzL := List.mem_of_getElem? (i := 6) rfl
theorem nz_X5_82 : (Cond.fieldLinkNest RX5 82 "TermPile$Lines" "code" "LTermPile$Code;" "TermPile" : Cond) ∈ nzL := List.mem_of_getElem? (i := 7) rfl
theorem nz_X5_96 : (Cond.fieldLinkNest RX5 96 "TermPile$Terms" "size" "I" "TermPile" : Cond) ∈ nzL := List.mem_of_getElem? (i := 8) rfl
theorem nz_X5_97 : (Cond.fieldLinkNest RX5 97 "TermPile$Terms" "code" "LTermPile$Code;" "TermPile" : Cond) ∈ nzL := List.mem_of_getElem? (i := 9) rfl
theorem nz_X5_123 : (Cond.fieldLinkNest RX5 123 "TermPile$Machine" "calls" "I" "TermPile" : Cond) ∈ nzL := List.mem_of_getElem? (i := 10) rfl
theorem nz_X5_131 : (Cond.fieldLinkNest RX5 131 "TermPile$Machine" "hasRun" "Z" "TermPile" : Cond) ∈ nzL := List.mem_of_getElem? (i := 11) rfl
theorem nz_X5_135 : (Cond.fieldLinkNest RX5 135 "TermPile$Machine" "variables" "[J" "TermPile" : Cond) ∈ nzL := List.mem_of_getElem? (i := 12) rfl
theorem nz_X5_138 : (Cond.fieldLinkNest RX5 138 "TermPile$Machine" "size" "I" "TermPile" : Cond) ∈ nzL := List.mem_of_getElem? (i := 13) rfl
theorem nz_X5_141 : (Cond.fieldLinkNest RX5 141 "TermPile$Machine" "pile" "[J" "TermPile" : Cond) ∈ nzL := List.mem_of_getElem? (i := 14) rfl
theorem nz_X5_144 : (Cond.fieldLinkNest RX5 144 "TermPile$Terms" "temporaries" "I" "TermPile" : Cond) ∈ nzL := List.mem_of_getElem? (i := 15) rfl
theorem nz_X1_11 : (Cond.methodLinkNest RX1 11 yX0_init "TermPile" : Cond) ∈ nzL := List.mem_of_getElem? (i := 16) rfl
theorem nz_X2_50 : (Cond.methodLinkNest RX2 50 yX5_isVariable "TermPile" : Cond) ∈ nzL := List.mem_of_getElem? (i := 17) rfl
theorem nz_X2_62 : (Cond.methodLinkNest RX2 62 yX5_grownVariableIn "TermPile" : Cond) ∈ nzL := List.mem_of_getElem? (i := 18) rfl
theorem nz_X2_65 : (Cond.methodLinkNest RX2 65 yX5_growthIn "TermPile" : Cond) ∈ nzL := List.mem_of_getElem? (i := 19) rfl
theorem nz_X3_53 : (Cond.methodLinkNest RX3 53 yX5_growthIn "TermPile" : Cond) ∈ nzL := List.mem_of_getElem? (i := 20) rfl
theorem nz_X3_61 : (Cond.methodLinkNest RX3 61 yX5_grownVariableIn "TermPile" : Cond) ∈ nzL := List.mem_of_getElem? (i := 21) rfl
theorem nz_X4_11 : (Cond.methodLinkNest RX4 11 yX1_init "TermPile" : Cond) ∈ nzL := List.mem_of_getElem? (i := 22) rfl
theorem nz_X4_20 : (Cond.methodLinkNest RX4 20 yX0_init "TermPile" : Cond) ∈ nzL := List.mem_of_getElem? (i := 23) rfl
theorem nz_X4_36 : (Cond.methodLinkNest RX4 36 yX5_takenBy "TermPile" : Cond) ∈ nzL := List.mem_of_getElem? (i := 24) rfl
theorem nz_X5_11 : (Cond.methodLinkNest RX5 11 yX0_init "TermPile" : Cond) ∈ nzL := List.mem_of_getElem? (i := 25) rfl
theorem nz_X5_18 : (Cond.methodLinkNest RX5 18 yX4_init "TermPile" : Cond) ∈ nzL := List.mem_of_getElem? (i := 26) rfl
theorem nz_X5_34 : (Cond.methodLinkNest RX5 34 yX2_init "TermPile" : Cond) ∈ nzL := List.mem_of_getElem? (i := 27) rfl
theorem nz_X5_44 : (Cond.methodLinkNest RX5 44 yX3_init "TermPile" : Cond) ∈ nzL := List.mem_of_getElem? (i := 28) rfl
theorem nz_same {u U : State} (hv : u.vm = U.vm) (h : ∀ w ∈ nzL, va_Nw w u) : ∀ w ∈ nzL, va_Nw w U := by
  intro w hw
  have hw2 := h w hw
  simp only [nzL, List.mem_cons, List.not_mem_nil, or_false] at hw
  rcases hw with rfl | rfl | rfl | rfl | rfl | rfl | rfl | rfl | rfl | rfl | rfl | rfl | rfl | rfl | rfl | rfl | rfl | rfl | rfl | rfl | rfl | rfl | rfl | rfl | rfl | rfl | rfl | rfl | rfl <;> exact va_Nw.same rfl hv hw2
theorem nz_warm {s U : State} (hW : s.WarmedH U.vm) (h : ∀ w ∈ nzL, va_Nw w s) : ∀ w ∈ nzL, va_Nw w U := by
  intro w hw
  have hw2 := h w hw
  simp only [nzL, List.mem_cons, List.not_mem_nil, or_false] at hw
  rcases hw with rfl | rfl | rfl | rfl | rfl | rfl | rfl | rfl | rfl | rfl | rfl | rfl | rfl | rfl | rfl | rfl | rfl | rfl | rfl | rfl | rfl | rfl | rfl | rfl | rfl | rfl | rfl | rfl | rfl <;> first | exact va_Nw.warmF hW hw2 | exact va_Nw.warmM hW hw2
/-- a static table of the class -/
def stT (n : String) (N : Nat) (f : Nat → Int32) (A : Nat → Prop) (U : State) (H : Heap) : Prop := ∃ t : Nat, va_Z "TermPile" n "[I" (.ref t) A U H ∧ va_T .int t N (fun j => .int (f j)) A U H
/-- the four texts of the scribe, and what String's own methods read -/
def strLen : List Nat := [8, 3, 4, 5]
def strByt : List (List Int32) := [[43, 45, 42, 38, 124, 94, 47, 37], [32, 61, 32], [32, 43, 61, 32], [100, 114, 111, 112, 32]]
def strs (adK adV : Nat → Nat) (A : Nat → Prop) (U : State) (H : Heap) : Prop := vk_S 4 strLen strByt adK adV A U H ∧ vk_R RX3 90 "+-*&|^/%" (adK 0) U ∧ vk_R RX3 43 " = " (adK 1) U ∧ vk_R RX3 59 " += " (adK 2) U ∧ vk_R RX3 64 "drop " (adK 3) U ∧ va_Z "java/lang/String" "COMPACT_STRINGS" "Z" (.int 1) A U H ∧ va_Zq "jdk/internal/util/Preconditions" "SIOOBE_FORMATTER" "Ljava/util/function/BiFunction;" A U H
def env (adK adV : Nat → Nat) (A : Nat → Prop) (U : State) (H : Heap) : Prop := (∀ w ∈ nzL, va_Nw w U) ∧ stT "TAKES" 11 tb_TAKES A U H ∧ stT "PUTS" 11 tb_PUTS A U H ∧ stT "LEAST_NUMBER" 11 tb_LEAST_NUMBER A U H ∧ stT "MOST_NUMBER" 11 tb_MOST_NUMBER A U H ∧ stT "OP_RANKS" 8 tb_OP_RANKS A U H ∧ strs adK adV A U H
theorem stT.moved {n : String} {N : Nat} {f : Nat → Int32} {A : Nat → Prop} {u U : State} {H : Heap} (hvm : u.vm.Alike U.vm) (h : stT n N f A u H) : stT n N f A U H := by
  obtain ⟨t, h1, h2⟩ := h
  exact ⟨t, h1.moved hvm, h2.moved hvm⟩
theorem stT.kept {n : String} {N : Nat} {f : Nat → Int32} {A : Nat → Prop} {U : State} {H H1 : Heap} (hq : ∀ a : Nat, a < H.size → ¬ A a → H1[a]? = H[a]?) (h : stT n N f A U H) : stT n N f A U H1 := by
  obtain ⟨t, h1, h2⟩ := h
  exact ⟨t, h1.kept hq, h2.kept hq⟩
theorem stT.narrow {n : String} {N : Nat} {f : Nat → Int32} {A B : Nat → Prop} {U : State} {H : Heap} (hAB : ∀ q, B q → A q) (h : stT n N f A U H) : stT n N f B U H := by
  obtain ⟨t, h1, h2⟩ := h
  exact ⟨t, h1.narrow hAB, h2.narrow hAB⟩
theorem strs.same {adK adV : Nat → Nat} {A : Nat → Prop} {u U : State} {H : Heap} (hv : u.vm = U.vm) (hvm : u.vm.Alike U.vm) (h : strs adK adV A u H) : strs adK adV A U H := by
  obtain ⟨h1, h2, h3, h4, h5, h6, h7⟩ := h
  exact ⟨h1.moved hvm, h2.same hv.symm, h3.same hv.symm, h4.same hv.symm, h5.same hv.symm, h6.moved hvm, h7.moved hvm⟩
theorem strs.warm {adK adV : Nat → Nat} {A : Nat → Prop} {s U : State} {H : Heap} (hW : s.WarmedH U.vm) (h : strs adK adV A s H) : strs adK adV A U H := by
  obtain ⟨h1, h2, h3, h4, h5, h6, h7⟩ := h
  exact ⟨h1.moved hW.alike, h2.warm hW, h3.warm hW, h4.warm hW, h5.warm hW, h6.moved hW.alike, h7.moved hW.alike⟩
theorem strs.kept {adK adV : Nat → Nat} {A : Nat → Prop} {U : State} {H H1 : Heap} (hq : ∀ a : Nat, a < H.size → ¬ A a → H1[a]? = H[a]?) (h : strs adK adV A U H) : strs adK adV A U H1 := by
  obtain ⟨h1, h2, h3, h4, h5, h6, h7⟩ := h
  exact ⟨h1.kept hq, h2, h3, h4, h5, h6.kept hq, h7.kept hq⟩
theorem strs.narrow {adK adV : Nat → Nat} {A B : Nat → Prop} {U : State} {H : Heap} (hAB : ∀ q, B q → A q) (h : strs adK adV A U H) : strs adK adV B U H := by
  obtain ⟨h1, h2, h3, h4, h5, h6, h7⟩ := h
  exact ⟨h1.narrow hAB, h2, h3, h4, h5, h6.narrow hAB, h7.narrow hAB⟩
theorem env.call {adK adV : Nat → Nat} {A : Nat → Prop} {U : State} {H : Heap} {g : JFrame} {mk : MethodId} {a : Array Value} (h : env adK adV A U H) : env adK adV A (U.calling g mk a) H := by
  obtain ⟨h0, h1, h2, h3, h4, h5, h6⟩ := h
  have hvm : U.vm.Alike (U.calling g mk a).vm := Vm.Alike.refl U.vm
  exact ⟨nz_same (u := U) rfl h0, h1.moved hvm, h2.moved hvm, h3.moved hvm, h4.moved hvm, h5.moved hvm, h6.same rfl hvm⟩
/-- what a callee gets of it -/
theorem envp {adK adV : Nat → Nat} {A B : Nat → Prop} {s U : State} {H : Heap} {locs : List Loc} (h : env adK adV A s s.heap) (hS : va_S A s.heap H locs) (hF : ∀ q, B q → A q) (hU : U.heap = H) (hW : s.WarmedH U.vm) : env adK adV B U U.heap := by
  obtain ⟨h0, h1, h2, h3, h4, h5, h6⟩ := h
  have hvm := hW.alike
  have hq := hS.2.1
  rw [hU]
  exact ⟨nz_warm hW h0, ((h1.moved hvm).kept hq).narrow hF, ((h2.moved hvm).kept hq).narrow hF, ((h3.moved hvm).kept hq).narrow hF, ((h4.moved hvm).kept hq).narrow hF, ((h5.moved hvm).kept hq).narrow hF, ((h6.warm hW).kept hq).narrow hF⟩
theorem preSE {adK adV : Nat → Nat} {dC : Nat → ClassId} {dI : Nat → Nat → Nat} {ws : va_W} {ty : List (ClassId × FieldType)} {s : State} {H : Heap} {A B : Nat → Prop} {As : List Value} (hK : va_K (dC, dI) vwCl ty s) (hP : va_P (dC, dI) vwCl ws H) (hD : va_D A ws) (hE : ∀ U : State, U.heap = H → s.WarmedH U.vm → env adK adV B U U.heap) : PreS s H (va_Pc As (fun U => mPre dC dI ws ty H.size U ∧ env adK adV B U U.heap)) As :=
  ⟨fun a U g mk q => ⟨q.1, q.2.1.call, q.2.2.call⟩, fun U hU hW => ⟨rfl, mPre.of hK hP hD hU hW, hE U hU hW⟩⟩
theorem preVE {adK adV : Nat → Nat} {dC : Nat → ClassId} {dI : Nat → Nat → Nat} {ws : va_W} {ty : List (ClassId × FieldType)} {s : State} {H : Heap} {A B : Nat → Prop} {As : List Value} {b : Addr} {C : String} (hK : va_K (dC, dI) vwCl ty s) (hP : va_P (dC, dI) vwCl ws H) (hD : va_D A ws) (hr : ∃ cell : Cell, H[b]? = some cell ∧ cell.vm.isStatics = false ∧ s.vm.findClass C = some cell.cls) (hE : ∀ U : State, U.heap = H → s.WarmedH U.vm → env adK adV B U U.heap) : PreV s H C b (va_Pc (.ref b :: As) (fun U => mPre dC dI ws ty H.size U ∧ env adK adV B U U.heap)) As :=
  ⟨fun a U g mk q => ⟨q.1, q.2.1.call, q.2.2.call⟩, hr, fun U hU hW => ⟨rfl, mPre.of hK hP hD hU hW, hE U hU hW⟩⟩
