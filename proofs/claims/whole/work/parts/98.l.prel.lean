/-! PURE PART 40: class and reference together -/
section PRel
variable {xak : Nat → Int32} {xan : Nat → Int32} {xaz : Int32} {xac : Int32} {xah : Int32} {xap : Nat → Int64} {xas : Int32} {xav : Nat → Int64} {xg : Nat → Int64} {xlk : Nat → Int32} {xln : Nat → Int32} {xlz : Int32} {xle : Nat → Int32} {xll : Int32} {xlc : Int32} {xlh : Int32} {xlp : Nat → Int64} {xls : Int32} {xlt : Nat → Int64} {xlv : Nat → Int64} {xtk : Nat → Int32} {xtn : Nat → Int32} {xtz : Int32} {xtl : Int32} {xts : Nat → Int32} {xtt : Int32} {mac : Int32} {mki : Nat → Int32} {mnu : Nat → Int32} {mte : Int32} {mso : Nat → Int32} {mwh : Nat → Int32} {mpa : Nat → Int32} {mhi : Int32} {mpi : Nat → Int32} {mli : Int32} {mls : Nat → Int32} {mlo : Nat → Int32} {mlt : Nat → Int32} {mtm : Int32} {mfi : Nat → Int64} {mhr : Nat → Int32} {mvr : Nat → Int64} {mlm : Nat → Int32} {mlv : Nat → Int64} {mca : Nat → Int32} {mop : Nat → Int32} {mtp : Nat → Int64} {xat : Nat → Int64} {xsf : Int32} {xss : Nat → Int32} {xsw : Nat → Int32} {xsz : Int32} {mth : Int32} {mpg : Nat → Int32} {mpm : Int32} {mta : Nat → Int32} {mtn : Int32} {mno : Nat → Int64} {mva : Nat → Int64} {mvm : Int32} {mopn : Nat → Int32} {mst : Nat → Int32} {mdo : Int32} {mfa : Int32}
theorem tell_len {S : Sp} {κ : Nat} {a : Int32} (hκ : κ ≤ 10) (htk : tak κ a ≤ S.2.1.length) : (tellS S κ a).2.1.length = S.2.1.length - tak κ a + pts κ := by
  unfold tellS
  by_cases h1 : κ = 2 ∨ κ = 3 ∨ κ = 6
  · rw [if_pos h1]
    show (one1 _).length = _
    rw [one1_len, po_len _ _ _ _ (by omega)]
    have hp : pts κ = 0 := by rcases h1 with rfl | rfl | rfl <;> rfl
    rw [hp]
    rfl
  · rw [if_neg h1]
    by_cases h2 : κ = 7 ∨ κ = 8 ∨ κ = 9
    · rw [if_pos h2]
      show (one1 _).length = _
      have ht0 : tak κ a = tak κ 0 := by rcases h2 with rfl | rfl | rfl <;> rfl
      have hpl := po_all_len S.1 S.2.2 S.2.1
      rw [one1_len, turnQ_len h2 (by rw [hpl, ← ht0]; exact htk), hpl, ht0]
    · rw [if_neg h2]
      by_cases h3 : κ = 10
      · rw [if_pos h3]
        show (one1 _ ++ [_]).length = _
        have hp : pts κ = 1 := by rw [h3]; rfl
        rw [List.length_append, one1_len, po_len _ _ _ _ (by omega), hp]
        rfl
      · rw [if_neg h3]
        show (List.take _ _ ++ [_]).length = _
        have hp : pts κ = 1 := by
          have : κ = 0 ∨ κ = 1 ∨ κ = 4 ∨ κ = 5 := by omega
          rcases this with rfl | rfl | rfl | rfl <;> rfl
        rw [List.length_append, List.length_take, hp]
        show min _ _ + 1 = _
        omega
theorem tk_eq {κ : Nat} {a : Int32} (hκ : κ ≤ 10) : tkC (nI κ, a) = tak κ a ∧ ptC (nI κ, a) = pts κ := by
  match κ, hκ with
  | 0, _ => exact ⟨rfl, rfl⟩
  | 1, _ => exact ⟨rfl, rfl⟩
  | 2, _ => exact ⟨rfl, rfl⟩
  | 3, _ => exact ⟨rfl, rfl⟩
  | 4, _ => exact ⟨rfl, rfl⟩
  | 5, _ => exact ⟨rfl, rfl⟩
  | 6, _ => exact ⟨rfl, rfl⟩
  | 7, _ => exact ⟨rfl, rfl⟩
  | 8, _ => exact ⟨rfl, rfl⟩
  | 9, _ => exact ⟨rfl, rfl⟩
  | 10, _ => exact ⟨rfl, rfl⟩
/-- what class and reference hold between two calls -/
def Rel (xak : Nat → Int32) (xan : Nat → Int32) (xaz : Int32) (xac : Int32) (xah : Int32) (xap : Nat → Int64) (xas : Int32) (xav : Nat → Int64) (xg : Nat → Int64) (xlk : Nat → Int32) (xln : Nat → Int32) (xlz : Int32) (xle : Nat → Int32) (xll : Int32) (xlc : Int32) (xlh : Int32) (xlp : Nat → Int64) (xls : Int32) (xlt : Nat → Int64) (xlv : Nat → Int64) (xtk : Nat → Int32) (xtn : Nat → Int32) (xtz : Int32) (xtl : Int32) (xts : Nat → Int32) (xtt : Int32) (mac : Int32) (mki : Nat → Int32) (mnu : Nat → Int32) (mte : Int32) (mso : Nat → Int32) (mwh : Nat → Int32) (mpa : Nat → Int32) (mhi : Int32) (mpi : Nat → Int32) (mli : Int32) (mls : Nat → Int32) (mlo : Nat → Int32) (mlt : Nat → Int32) (mtm : Int32) (mfi : Nat → Int64) (mhr : Nat → Int32) (mvr : Nat → Int64) (mlm : Nat → Int32) (mlv : Nat → Int64) (mca : Nat → Int32) (mop : Nat → Int32) (mtp : Nat → Int64) : Prop := ∃ (A : List Cl) (S : Sp) (T : Nat), acR xak xan xaz mac mki mnu A ∧ csR xtk xtn xtz xlk xln xlz xle xll xtl xts xtt S ∧ mdR mso mwh mpa mte mhi mpi mli mls mlo mlt mtm T S ∧ invS S A.length ∧ T ≤ 21 * A.length ∧ okS S A.length ∧ hAL A 0 = some S.2.1.length ∧ (∀ v : Nat, v < 10 → xg v = mfi v) ∧ mR xac xah xas xav xap xlc xlh xls xlv xlp xlt mca mhr mlm mvr mlv mtp ∧ opsR mop
theorem R_act (k n : Int32) (h : Rel xak xan xaz xac xah xap xas xav xg xlk xln xlz xle xll xlc xlh xlp xls xlt xlv xtk xtn xtz xtl xts xtt mac mki mnu mte mso mwh mpa mhi mpi mli mls mlo mlt mtm mfi mhr mvr mlm mlv mca mop mtp) : (∃ th : Nat, (th = 1 ∨ th = 2) ∧ f_X5_act xak xan xaz xlk xln xlz xle xll xtk xtn xtz xtl xts xtt k n = some (.inl th) ∧ f_X6_act mac mhi mki mlo mls mlt mli mnu mpa mpi mso mtm mte mth mwh k n = some (0, (mac, mhi, mki, mlo, mls, mlt, mli, mnu, mpa, mpi, mso, mtm, mte, nI th, mwh))) ∨ (∃ xak' xan' xaz' xlk' xln' xlz' xle' xll' xtk' xtn' xtz' xtl' xts' xtt' mac' mhi' mki' mlo' mls' mlt' mli' mnu' mpa' mpi' mso' mtm' mte' mwh', f_X5_act xak xan xaz xlk xln xlz xle xll xtk xtn xtz xtl xts xtt k n = some (.inr (mac', (xak', xan', xaz', xlk', xln', xlz', xle', xll', xtk', xtn', xtz', xtl', xts', xtt'))) ∧ f_X6_act mac mhi mki mlo mls mlt mli mnu mpa mpi mso mtm mte mth mwh k n = some (mac', (mac', mhi', mki', mlo', mls', mlt', mli', mnu', mpa', mpi', mso', mtm', mte', 0, mwh')) ∧ Rel xak' xan' xaz' xac xah xap xas xav xg xlk' xln' xlz' xle' xll' xlc xlh xlp xls xlt xlv xtk' xtn' xtz' xtl' xts' xtt' mac' mki' mnu' mte' mso' mwh' mpa' mhi' mpi' mli' mls' mlo' mlt' mtm' mfi mhr mvr mlm mlv mca mop mtp) := by
  obtain ⟨A, S, T, hAc, hC, hD, hI, hT, hO, hH, hG, hM, hP⟩ := h
  rcases act_both (thrown := mth) k n hAc hC hD hI hT with ⟨th, h1, h2, h3⟩ | ⟨κ, ak', an', az', lck', lcn', lcs', ends', lsz', tck', tcn', tcs', tsz', starts', temps', acts', kind', number', sort', what', part', pile', lineSort', lineOf', lineTerm', terms', high', lines', mtemps', T', k1, rfl, k3, k4, k5, k6, k7, k8, k9, k10, k11, k12, k13⟩
  · exact .inl ⟨th, h1, h2, h3⟩
  · refine .inr ⟨ak', an', az', lck', lcn', lcs', ends', lsz', tck', tcn', tcs', tsz', starts', temps', acts', high', kind', lineOf', lineSort', lineTerm', lines', number', part', pile', sort', mtemps', terms', what', k7, k8, A ++ [(nI κ, n)], tellS S κ n, T', k9, k10, k11, ?_, ?_, ?_, ?_, hG, hM, hP⟩
    · rw [List.length_append]; exact k12
    · rw [List.length_append]; exact k13
    · rw [List.length_append]
      refine ok_tell hI hO k1 k3 k5 k6 ?_
      have g1 := k12.2.2.2.1
      have g2 := k12.1
      omega
    · have hlen := tell_len (S := S) (a := n) k1 k5
      obtain ⟨e1, e2⟩ := tk_eq (a := n) k1
      rw [hAL_app, hH, Option.bind_some, hlen]
      show (hA (nI κ, n) S.2.1.length).bind (hAL []) = _
      rw [hA_of (c := (nI κ, n)) (by rw [e1]; exact k5) (by rw [e1, e2]; exact k6), e1, e2]
      rfl
theorem R_run (a : Int32) (h : Rel xak xan xaz xac xah xap xas xav xg xlk xln xlz xle xll xlc xlh xlp xls xlt xlv xtk xtn xtz xtl xts xtt mac mki mnu mte mso mwh mpa mhi mpi mli mls mlo mlt mtm mfi mhr mvr mlm mlv mca mop mtp) : (f_X5_run xak xan xaz xac xah xap xas xat xav xg xlk xln xlz xlc xlh xlp xls xlt xlv xtk xtn xtz a = some (.inl 1) ∧ f_X6_run mac mca mdo mfa mfi mhr mhi mki mlm mlv mlo mls mlt mli mno mnu mopn mpa mpi mso mst mtp mth mvm mva mvr mwh a = some (0, (mca, mdo, mfa, mhr, mlm, mlv, mno, mopn, mst, mtp, 1, mvm, mva, mvr))) ∨ (∃ ans xac' xah' xap' xas' xat' xav' xlc' xlh' xlp' xls' xlt' xlv' mca' mdo' mfa' mhr' mlm' mlv' mno' mopn' mst' mtp' mvm' mva' mvr', f_X5_run xak xan xaz xac xah xap xas xat xav xg xlk xln xlz xlc xlh xlp xls xlt xlv xtk xtn xtz a = some (.inr (ans, (xac', xah', xap', xas', xat', xav', xlc', xlh', xlp', xls', xlt', xlv'))) ∧ f_X6_run mac mca mdo mfa mfi mhr mhi mki mlm mlv mlo mls mlt mli mno mnu mopn mpa mpi mso mst mtp mth mvm mva mvr mwh a = some (ans, (mca', mdo', mfa', mhr', mlm', mlv', mno', mopn', mst', mtp', 0, mvm', mva', mvr')) ∧ Rel xak xan xaz xac' xah' xap' xas' xav' xg xlk xln xlz xle xll xlc' xlh' xlp' xls' xlt' xlv' xtk xtn xtz xtl xts xtt mac mki mnu mte mso mwh mpa mhi mpi mli mls mlo mlt mtm mfi mhr' mvr' mlm' mlv' mca' mop mtp') := by
  obtain ⟨A, S, T, hAc, hC, hD, hI, hT, hO, hH, hG, hM, hP⟩ := h
  have hn : A.length ≤ 100 := hAc.2.2.1
  rcases isS_cases a with ⟨rfl, -⟩ | ⟨rfl, -⟩ | ⟨-, n0, n1, -⟩
  · obtain ⟨ans, ac', as', ap', at', av', calls', done', fails', hasRun', leftMany', leftValue', now', vm', values', vrb', e1, e2, e3⟩ := run0 (at_ := xat) (Lk := xlk) (Lnn := xln) (Lz := xlz) (Tk := xtk) (Tn := xtn) (Tz := xtz) (done := mdo) (fails := mfa) (high := mhi) (lineOf := mlo) (lineSort := mls) (lineTerm := mlt) (lines := mli) (now := mno) (opn := mopn) (part := mpa) (pile := mpi) (sort := mso) (stage := mst) (thrown := mth) (vm := mvm) (values := mva) (what := mwh) hAc hH hD.2.2.2.1 hG hM
    exact .inr ⟨ans, ac', 1, ap', as', at', av', xlc, xlh, xlp, xls, xlt, xlv, calls', done', fails', hasRun', leftMany', leftValue', now', mopn, mst, mtp, vm', values', vrb', e1, e2, A, S, T, hAc, hC, hD, hI, hT, hO, hH, hG, e3, hP⟩
  · obtain ⟨ans, lc', ls', lp', lt', lv', calls', done', fails', hasRun', leftMany', leftValue', now', opn', stage', temporary', vm', values', vrb', e1, e2, e3⟩ := run1 (ak := xak) (an := xan) (az := xaz) (at_ := xat) (acts := mac) (done := mdo) (fails := mfa) (kind := mki) (now := mno) (number := mnu) (opn := mopn) (stage := mst) (thrown := mth) (vm := mvm) (values := mva) (by omega) hD hC hI hn hO hG hM
    exact .inr ⟨ans, xac, xah, xap, xas, xat, xav, lc', 1, lp', ls', lt', lv', calls', done', fails', hasRun', leftMany', leftValue', now', opn', stage', temporary', vm', values', vrb', e1, e2, A, S, T, hAc, hC, hD, hI, hT, hO, hH, hG, e3, hP⟩
  · exact .inl (run_bad ⟨n0, n1⟩)
theorem R_give (a : Int32) (x : Int64) (h : Rel xak xan xaz xac xah xap xas xav xg xlk xln xlz xle xll xlc xlh xlp xls xlt xlv xtk xtn xtz xtl xts xtt mac mki mnu mte mso mwh mpa mhi mpi mli mls mlo mlt mtm mfi mhr mvr mlm mlv mca mop mtp) : ∃ r xg' mfi', f_X5_give xg a x = some (r, xg') ∧ f_X6_give mfi mth a x = some (r, (mfi', 0)) ∧ Rel xak xan xaz xac xah xap xas xav xg' xlk xln xlz xle xll xlc xlh xlp xls xlt xlv xtk xtn xtz xtl xts xtt mac mki mnu mte mso mwh mpa mhi mpi mli mls mlo mlt mtm mfi' mhr mvr mlm mlv mca mop mtp := by
  obtain ⟨A, S, T, hAc, hC, hD, hI, hT, hO, hH, hG, hM, hP⟩ := h
  obtain ⟨r, g', f', e1, e2, e3⟩ := give_both (thrown := mth) a x hG
  exact ⟨r, g', f', e1, e2, A, S, T, hAc, hC, hD, hI, hT, hO, hH, e3, hM, hP⟩
theorem R_value (a b : Int32) (h : Rel xak xan xaz xac xah xap xas xav xg xlk xln xlz xle xll xlc xlh xlp xls xlt xlv xtk xtn xtz xtl xts xtt mac mki mnu mte mso mwh mpa mhi mpi mli mls mlo mlt mtm mfi mhr mvr mlm mlv mca mop mtp) : (f_X5_value xah xav xg xlh xlv a b = some (.inl 1) ∧ f_X6_value mfi mhr mth mvr a b = some (0, 1)) ∨ ∃ x, f_X5_value xah xav xg xlh xlv a b = some (.inr (x, ())) ∧ f_X6_value mfi mhr mth mvr a b = some (x, 0) := by
  obtain ⟨A, S, T, hAc, hC, hD, hI, hT, hO, hH, hG, hM, hP⟩ := h
  exact value_both a b hG hM
theorem R_left (a b : Int32) (h : Rel xak xan xaz xac xah xap xas xav xg xlk xln xlz xle xll xlc xlh xlp xls xlt xlv xtk xtn xtz xtl xts xtt mac mki mnu mte mso mwh mpa mhi mpi mli mls mlo mlt mtm mfi mhr mvr mlm mlv mca mop mtp) : (f_X5_left xap xas xlp xls a b = some (.inl 1) ∧ f_X6_left mlm mlv mth a b = some (0, 1)) ∨ ∃ x, f_X5_left xap xas xlp xls a b = some (.inr (x, ())) ∧ f_X6_left mlm mlv mth a b = some (x, 0) := by
  obtain ⟨A, S, T, hAc, hC, hD, hI, hT, hO, hH, hG, hM, hP⟩ := h
  exact left_both a b hM
theorem R_count (a : Int32) (h : Rel xak xan xaz xac xah xap xas xav xg xlk xln xlz xle xll xlc xlh xlp xls xlt xlv xtk xtn xtz xtl xts xtt mac mki mnu mte mso mwh mpa mhi mpi mli mls mlo mlt mtm mfi mhr mvr mlm mlv mca mop mtp) : ∃ x, f_X5_count xaz xac xll xlc xtl xtt a = some (x, ()) ∧ f_X6_count mac mca mhi mli mtm mth a = some (x, 0) := by
  obtain ⟨A, S, T, hAc, hC, hD, hI, hT, hO, hH, hG, hM, hP⟩ := h
  exact count_both a (by rw [hAc.1.1, hAc.2.1]) (by rw [hC.2.1.2.1, hD.2.2.2.2.2.1]) (by rw [hC.2.2, hD.2.2.2.2.2.2.2]) (by rw [hC.1.2.1, hD.2.2.1]) hM
theorem R_line (a b : Int32) (h : Rel xak xan xaz xac xah xap xas xav xg xlk xln xlz xle xll xlc xlh xlp xls xlt xlv xtk xtn xtz xtl xts xtt mac mki mnu mte mso mwh mpa mhi mpi mli mls mlo mlt mtm mfi mhr mvr mlm mlv mca mop mtp) : ∃ x xsf' xss' xsw' xsz' mpg' mpm' mtn' mta', f_X5_line xlk xln xlz xle xll xsf xss xsw xsz a b = some (x, (xsf', xss', xsw', xsz')) ∧ f_X6_line mlo mls mlt mli mop mpg mpm mpa mso mtn mta mth mwh a b = some (x, (mpg', mpm', mtn', mta', 0)) := by
  obtain ⟨A, S, T, hAc, hC, hD, hI, hT, hO, hH, hG, hM, hP⟩ := h
  have hn : A.length ≤ 100 := hAc.2.2.1
  exact line_both hC hD hI hn hO (by omega) hP xsf xsz xss xsw mpg mta mpm mtn mth a b
theorem R_term (a b : Int32) (h : Rel xak xan xaz xac xah xap xas xav xg xlk xln xlz xle xll xlc xlh xlp xls xlt xlv xtk xtn xtz xtl xts xtt mac mki mnu mte mso mwh mpa mhi mpi mli mls mlo mlt mtm mfi mhr mvr mlm mlv mca mop mtp) : ∃ x xsf' xss' xsw' xsz' mpg' mpm' mtn' mta', f_X5_term xsf xss xsw xsz xtk xtn xtz xtl xts a b = some (x, (xsf', xss', xsw', xsz')) ∧ f_X6_term mhi mop mpg mpm mpa mpi mso mtn mta mth mwh a b = some (x, (mpg', mpm', mtn', mta', 0)) := by
  obtain ⟨A, S, T, hAc, hC, hD, hI, hT, hO, hH, hG, hM, hP⟩ := h
  have hn : A.length ≤ 100 := hAc.2.2.1
  exact term_both hC hD hI hn hO (by omega) hP xsf xsz xss xsw mpg mta mpm mtn mth a b
theorem R_act2 (k n : Int32) (h : Rel xak xan xaz xac xah xap xas xav xg xlk xln xlz xle xll xlc xlh xlp xls xlt xlv xtk xtn xtz xtl xts xtt mac mki mnu mte mso mwh mpa mhi mpi mli mls mlo mlt mtm mfi mhr mvr mlm mlv mca mop mtp) : ∃ (res : Nat ⊕ (Int32 × ((Nat → Int32) × (Nat → Int32) × Int32 × (Nat → Int32) × (Nat → Int32) × Int32 × (Nat → Int32) × Int32 × (Nat → Int32) × (Nat → Int32) × Int32 × Int32 × (Nat → Int32) × Int32))) (ans : Int32) (mac' : Int32) (mhi' : Int32) (mki' : Nat → Int32) (mlo' : Nat → Int32) (mls' : Nat → Int32) (mlt' : Nat → Int32) (mli' : Int32) (mnu' : Nat → Int32) (mpa' : Nat → Int32) (mpi' : Nat → Int32) (mso' : Nat → Int32) (mtm' : Int32) (mte' : Int32) (mth' : Int32) (mwh' : Nat → Int32), f_X5_act xak xan xaz xlk xln xlz xle xll xtk xtn xtz xtl xts xtt k n = some res ∧ f_X6_act mac mhi mki mlo mls mlt mli mnu mpa mpi mso mtm mte mth mwh k n = some (ans, (mac', mhi', mki', mlo', mls', mlt', mli', mnu', mpa', mpi', mso', mtm', mte', mth', mwh')) ∧ ((∃ th : Nat, (th = 1 ∨ th = 2) ∧ res = .inl th ∧ mth' = nI th ∧ Rel xak xan xaz xac xah xap xas xav xg xlk xln xlz xle xll xlc xlh xlp xls xlt xlv xtk xtn xtz xtl xts xtt mac' mki' mnu' mte' mso' mwh' mpa' mhi' mpi' mli' mls' mlo' mlt' mtm' mfi mhr mvr mlm mlv mca mop mtp) ∨ (∃ (xak' : Nat → Int32) (xan' : Nat → Int32) (xaz' : Int32) (xlk' : Nat → Int32) (xln' : Nat → Int32) (xlz' : Int32) (xle' : Nat → Int32) (xll' : Int32) (xtk' : Nat → Int32) (xtn' : Nat → Int32) (xtz' : Int32) (xtl' : Int32) (xts' : Nat → Int32) (xtt' : Int32), res = .inr (ans, (xak', xan', xaz', xlk', xln', xlz', xle', xll', xtk', xtn', xtz', xtl', xts', xtt')) ∧ mth' = 0 ∧ Rel xak' xan' xaz' xac xah xap xas xav xg xlk' xln' xlz' xle' xll' xlc xlh xlp xls xlt xlv xtk' xtn' xtz' xtl' xts' xtt' mac' mki' mnu' mte' mso' mwh' mpa' mhi' mpi' mli' mls' mlo' mlt' mtm' mfi mhr mvr mlm mlv mca mop mtp)) := by
  rcases R_act (mth := mth) k n h with ⟨th, h1, h2, h3⟩ | ⟨xak', xan', xaz', xlk', xln', xlz', xle', xll', xtk', xtn', xtz', xtl', xts', xtt', mac', mhi', mki', mlo', mls', mlt', mli', mnu', mpa', mpi', mso', mtm', mte', mwh', h2, h3, h4⟩
  · exact ⟨_, _, _, _, _, _, _, _, _, _, _, _, _, _, _, _, _, h2, h3, .inl ⟨th, h1, rfl, rfl, h⟩⟩
  · exact ⟨_, _, _, _, _, _, _, _, _, _, _, _, _, _, _, _, _, h2, h3, .inr ⟨xak', xan', xaz', xlk', xln', xlz', xle', xll', xtk', xtn', xtz', xtl', xts', xtt', rfl, rfl, h4⟩⟩
theorem R_run2 (a : Int32) (h : Rel xak xan xaz xac xah xap xas xav xg xlk xln xlz xle xll xlc xlh xlp xls xlt xlv xtk xtn xtz xtl xts xtt mac mki mnu mte mso mwh mpa mhi mpi mli mls mlo mlt mtm mfi mhr mvr mlm mlv mca mop mtp) : ∃ (res : Nat ⊕ (Int32 × (Int32 × Int32 × (Nat → Int64) × Int32 × (Nat → Int64) × (Nat → Int64) × Int32 × Int32 × (Nat → Int64) × Int32 × (Nat → Int64) × (Nat → Int64)))) (ans : Int32) (mca' : Nat → Int32) (mdo' : Int32) (mfa' : Int32) (mhr' : Nat → Int32) (mlm' : Nat → Int32) (mlv' : Nat → Int64) (mno' : Nat → Int64) (mopn' : Nat → Int32) (mst' : Nat → Int32) (mtp' : Nat → Int64) (mth' : Int32) (mvm' : Int32) (mva' : Nat → Int64) (mvr' : Nat → Int64), f_X5_run xak xan xaz xac xah xap xas xat xav xg xlk xln xlz xlc xlh xlp xls xlt xlv xtk xtn xtz a = some res ∧ f_X6_run mac mca mdo mfa mfi mhr mhi mki mlm mlv mlo mls mlt mli mno mnu mopn mpa mpi mso mst mtp mth mvm mva mvr mwh a = some (ans, (mca', mdo', mfa', mhr', mlm', mlv', mno', mopn', mst', mtp', mth', mvm', mva', mvr')) ∧ ((res = .inl 1 ∧ mth' = nI 1 ∧ Rel xak xan xaz xac xah xap xas xav xg xlk xln xlz xle xll xlc xlh xlp xls xlt xlv xtk xtn xtz xtl xts xtt mac mki mnu mte mso mwh mpa mhi mpi mli mls mlo mlt mtm mfi mhr' mvr' mlm' mlv' mca' mop mtp') ∨ (∃ (xac' : Int32) (xah' : Int32) (xap' : Nat → Int64) (xas' : Int32) (xat' : Nat → Int64) (xav' : Nat → Int64) (xlc' : Int32) (xlh' : Int32) (xlp' : Nat → Int64) (xls' : Int32) (xlt' : Nat → Int64) (xlv' : Nat → Int64), res = .inr (ans, (xac', xah', xap', xas', xat', xav', xlc', xlh', xlp', xls', xlt', xlv')) ∧ mth' = 0 ∧ Rel xak xan xaz xac' xah' xap' xas' xav' xg xlk xln xlz xle xll xlc' xlh' xlp' xls' xlt' xlv' xtk xtn xtz xtl xts xtt mac mki mnu mte mso mwh mpa mhi mpi mli mls mlo mlt mtm mfi mhr' mvr' mlm' mlv' mca' mop mtp')) := by
  rcases R_run (xat := xat) (mdo := mdo) (mfa := mfa) (mno := mno) (mopn := mopn) (mst := mst) (mth := mth) (mvm := mvm) (mva := mva) a h with ⟨h2, h3⟩ | ⟨ans, xac', xah', xap', xas', xat', xav', xlc', xlh', xlp', xls', xlt', xlv', mca', mdo', mfa', mhr', mlm', mlv', mno', mopn', mst', mtp', mvm', mva', mvr', h2, h3, h4⟩
  · exact ⟨_, _, _, _, _, _, _, _, _, _, _, _, _, _, _, _, h2, h3, .inl ⟨rfl, rfl, h⟩⟩
  · exact ⟨_, _, _, _, _, _, _, _, _, _, _, _, _, _, _, _, h2, h3, .inr ⟨xac', xah', xap', xas', xat', xav', xlc', xlh', xlp', xls', xlt', xlv', rfl, rfl, h4⟩⟩
theorem R_value2 (a b : Int32) (h : Rel xak xan xaz xac xah xap xas xav xg xlk xln xlz xle xll xlc xlh xlp xls xlt xlv xtk xtn xtz xtl xts xtt mac mki mnu mte mso mwh mpa mhi mpi mli mls mlo mlt mtm mfi mhr mvr mlm mlv mca mop mtp) : ∃ (res : Nat ⊕ (Int64 × Unit)) (ans : Int64) (mth' : Int32), f_X5_value xah xav xg xlh xlv a b = some res ∧ f_X6_value mfi mhr mth mvr a b = some (ans, mth') ∧ ((res = .inl 1 ∧ mth' = nI 1) ∨ (res = .inr (ans, ()) ∧ mth' = 0)) := by
  rcases R_value (mth := mth) a b h with ⟨h2, h3⟩ | ⟨x, h2, h3⟩
  · exact ⟨_, _, _, h2, h3, .inl ⟨rfl, rfl⟩⟩
  · exact ⟨_, _, _, h2, h3, .inr ⟨rfl, rfl⟩⟩
theorem R_left2 (a b : Int32) (h : Rel xak xan xaz xac xah xap xas xav xg xlk xln xlz xle xll xlc xlh xlp xls xlt xlv xtk xtn xtz xtl xts xtt mac mki mnu mte mso mwh mpa mhi mpi mli mls mlo mlt mtm mfi mhr mvr mlm mlv mca mop mtp) : ∃ (res : Nat ⊕ (Int64 × Unit)) (ans : Int64) (mth' : Int32), f_X5_left xap xas xlp xls a b = some res ∧ f_X6_left mlm mlv mth a b = some (ans, mth') ∧ ((res = .inl 1 ∧ mth' = nI 1) ∨ (res = .inr (ans, ()) ∧ mth' = 0)) := by
  rcases R_left (mth := mth) a b h with ⟨h2, h3⟩ | ⟨x, h2, h3⟩
  · exact ⟨_, _, _, h2, h3, .inl ⟨rfl, rfl⟩⟩
  · exact ⟨_, _, _, h2, h3, .inr ⟨rfl, rfl⟩⟩
theorem Rel_init : Rel (fun _ => 0) (fun _ => 0) 0 0 0 (fun _ => 0) 0 (fun _ => 0) (fun _ => 0) (fun _ => 0) (fun _ => 0) 0 (fun _ => 0) 0 0 0 (fun _ => 0) 0 (fun _ => 0) (fun _ => 0) (fun _ => 0) (fun _ => 0) 0 0 (fun _ => 0) 0 0 (fun _ => 0) (fun _ => 0) 0 (fun _ => 0) (fun _ => 0) (fun _ => 0) 0 (fun _ => 0) 0 (fun _ => 0) (fun _ => 0) (fun _ => 0) 0 (fun _ => 0) (fun _ => 0) (fun _ => 0) (fun _ => 0) (fun _ => 0) (fun _ => 0) (upd (upd (upd (upd (upd (upd (upd (upd (fun _ => 0) (0 : Int32).toNatClampNeg 43) (1 : Int32).toNatClampNeg 45) (2 : Int32).toNatClampNeg 42) (3 : Int32).toNatClampNeg 38) (4 : Int32).toNatClampNeg 124) (5 : Int32).toNatClampNeg 94) (6 : Int32).toNatClampNeg 47) (7 : Int32).toNatClampNeg 37) (fun _ => 0) := by
  refine ⟨[], ([], [], 0), 0, ⟨⟨rfl, by decide, fun i c h => by simp at h⟩, rfl, by decide, fun i c h => by simp at h, fun i c h => by simp at h⟩, ⟨⟨⟨rfl, by decide, fun i c h => by simp at h⟩, rfl, by decide, fun j h => absurd h (Nat.not_lt_zero j)⟩, ⟨⟨rfl, by decide, fun i c h => by simp [fl] at h⟩, rfl, by decide, fun j h => absurd h (Nat.not_lt_zero j)⟩, rfl⟩, ⟨rfl, fun t h => absurd h (Nat.not_lt_zero t), rfl, by decide, fun j P h => by simp at h, rfl, fun j q h => by simp at h, rfl⟩, ⟨by decide, by decide, by decide, by decide, fun P h => absurd h List.not_mem_nil, by decide⟩, by decide, ⟨fun P h => absurd h List.not_mem_nil, fun q h => absurd h List.not_mem_nil, fun k P h => by simp at h⟩, rfl, fun _ _ => rfl, ⟨⟨rfl, rfl, ⟨0, by decide, rfl, rfl, fun k h => absurd h (Nat.not_lt_zero k)⟩, .inl rfl, fun h => absurd h (by decide)⟩, ⟨rfl, rfl, ⟨0, by decide, rfl, rfl, fun k h => absurd h (Nat.not_lt_zero k)⟩, .inl rfl, fun h => absurd h (by decide)⟩, fun _ _ => rfl⟩, ?_⟩
  intro o ho
  match o, ho with
  | 0, _ => rfl
  | 1, _ => rfl
  | 2, _ => rfl
  | 3, _ => rfl
  | 4, _ => rfl
  | 5, _ => rfl
  | 6, _ => rfl
  | 7, _ => rfl
end PRel
