theorem d_Law_part_0 : decode b_Law_part 0 = .ok (.aload 5, 2) := by decide +kernel
theorem d_Law_part_2 : decode b_Law_part 2 = .ok (.iconst 0, 1) := by decide +kernel
theorem d_Law_part_3 : decode b_Law_part 3 = .ok (.aload_n 0, 1) := by decide +kernel
theorem d_Law_part_4 : decode b_Law_part 4 = .ok (.iload_n 1, 1) := by decide +kernel
theorem d_Law_part_5 : decode b_Law_part 5 = .ok (.iload_n 2, 1) := by decide +kernel
theorem d_Law_part_6 : decode b_Law_part 6 = .ok (.lload_n 3, 1) := by decide +kernel
theorem d_Law_part_7 : decode b_Law_part 7 = .ok (.invokevirtual 7, 3) := by decide +kernel
theorem d_Law_part_10 : decode b_Law_part 10 = .ok (.i2l, 1) := by decide +kernel
theorem d_Law_part_11 : decode b_Law_part 11 = .ok (.lastore, 1) := by decide +kernel
theorem d_Law_part_12 : decode b_Law_part 12 = .ok (.goto 11, 3) := by decide +kernel
theorem d_Law_part_15 : decode b_Law_part 15 = .ok (.astore 6, 2) := by decide +kernel
theorem d_Law_part_17 : decode b_Law_part 17 = .ok (.iconst 1, 1) := by decide +kernel
theorem d_Law_part_18 : decode b_Law_part 18 = .ok (.ireturn, 1) := by decide +kernel
theorem d_Law_part_19 : decode b_Law_part 19 = .ok (.astore 6, 2) := by decide +kernel
theorem d_Law_part_21 : decode b_Law_part 21 = .ok (.iconst 2, 1) := by decide +kernel
theorem d_Law_part_22 : decode b_Law_part 22 = .ok (.ireturn, 1) := by decide +kernel
theorem d_Law_part_23 : decode b_Law_part 23 = .ok (.iconst 0, 1) := by decide +kernel
theorem d_Law_part_24 : decode b_Law_part 24 = .ok (.ireturn, 1) := by decide +kernel
theorem d_Law_join_0 : decode b_Law_join 0 = .ok (.aload_n 3, 1) := by decide +kernel
theorem d_Law_join_1 : decode b_Law_join 1 = .ok (.iconst 0, 1) := by decide +kernel
theorem d_Law_join_2 : decode b_Law_join 2 = .ok (.aload_n 0, 1) := by decide +kernel
theorem d_Law_join_3 : decode b_Law_join 3 = .ok (.iload_n 1, 1) := by decide +kernel
theorem d_Law_join_4 : decode b_Law_join 4 = .ok (.iload_n 2, 1) := by decide +kernel
theorem d_Law_join_5 : decode b_Law_join 5 = .ok (.invokevirtual 17, 3) := by decide +kernel
theorem d_Law_join_8 : decode b_Law_join 8 = .ok (.i2l, 1) := by decide +kernel
theorem d_Law_join_9 : decode b_Law_join 9 = .ok (.lastore, 1) := by decide +kernel
theorem d_Law_join_10 : decode b_Law_join 10 = .ok (.goto 7, 3) := by decide +kernel
theorem d_Law_join_13 : decode b_Law_join 13 = .ok (.astore 4, 2) := by decide +kernel
theorem d_Law_join_15 : decode b_Law_join 15 = .ok (.iconst 1, 1) := by decide +kernel
theorem d_Law_join_16 : decode b_Law_join 16 = .ok (.ireturn, 1) := by decide +kernel
theorem d_Law_join_17 : decode b_Law_join 17 = .ok (.iconst 0, 1) := by decide +kernel
theorem d_Law_join_18 : decode b_Law_join 18 = .ok (.ireturn, 1) := by decide +kernel
theorem d_Law_verdict_0 : decode b_Law_verdict 0 = .ok (.aload 4, 2) := by decide +kernel
theorem d_Law_verdict_2 : decode b_Law_verdict 2 = .ok (.iconst 0, 1) := by decide +kernel
theorem d_Law_verdict_3 : decode b_Law_verdict 3 = .ok (.aload_n 0, 1) := by decide +kernel
theorem d_Law_verdict_4 : decode b_Law_verdict 4 = .ok (.iload_n 1, 1) := by decide +kernel
theorem d_Law_verdict_5 : decode b_Law_verdict 5 = .ok (.lload_n 2, 1) := by decide +kernel
theorem d_Law_verdict_6 : decode b_Law_verdict 6 = .ok (.invokevirtual 21, 3) := by decide +kernel
theorem d_Law_verdict_9 : decode b_Law_verdict 9 = .ok (.i2l, 1) := by decide +kernel
theorem d_Law_verdict_10 : decode b_Law_verdict 10 = .ok (.lastore, 1) := by decide +kernel
theorem d_Law_verdict_11 : decode b_Law_verdict 11 = .ok (.goto 7, 3) := by decide +kernel
theorem d_Law_verdict_14 : decode b_Law_verdict 14 = .ok (.astore 5, 2) := by decide +kernel
theorem d_Law_verdict_16 : decode b_Law_verdict 16 = .ok (.iconst 1, 1) := by decide +kernel
theorem d_Law_verdict_17 : decode b_Law_verdict 17 = .ok (.ireturn, 1) := by decide +kernel
theorem d_Law_verdict_18 : decode b_Law_verdict 18 = .ok (.iconst 0, 1) := by decide +kernel
theorem d_Law_verdict_19 : decode b_Law_verdict 19 = .ok (.ireturn, 1) := by decide +kernel
theorem d_Law_share_0 : decode b_Law_share 0 = .ok (.aload 4, 2) := by decide +kernel
theorem d_Law_share_2 : decode b_Law_share 2 = .ok (.iconst 0, 1) := by decide +kernel
theorem d_Law_share_3 : decode b_Law_share 3 = .ok (.aload_n 0, 1) := by decide +kernel
theorem d_Law_share_4 : decode b_Law_share 4 = .ok (.lload_n 1, 1) := by decide +kernel
theorem d_Law_share_5 : decode b_Law_share 5 = .ok (.iload_n 3, 1) := by decide +kernel
theorem d_Law_share_6 : decode b_Law_share 6 = .ok (.invokevirtual 25, 3) := by decide +kernel
theorem d_Law_share_9 : decode b_Law_share 9 = .ok (.lastore, 1) := by decide +kernel
theorem d_Law_share_10 : decode b_Law_share 10 = .ok (.goto 11, 3) := by decide +kernel
theorem d_Law_share_13 : decode b_Law_share 13 = .ok (.astore 5, 2) := by decide +kernel
theorem d_Law_share_15 : decode b_Law_share 15 = .ok (.iconst 1, 1) := by decide +kernel
theorem d_Law_share_16 : decode b_Law_share 16 = .ok (.ireturn, 1) := by decide +kernel
theorem d_Law_share_17 : decode b_Law_share 17 = .ok (.astore 5, 2) := by decide +kernel
theorem d_Law_share_19 : decode b_Law_share 19 = .ok (.iconst 2, 1) := by decide +kernel
theorem d_Law_share_20 : decode b_Law_share 20 = .ok (.ireturn, 1) := by decide +kernel
theorem d_Law_share_21 : decode b_Law_share 21 = .ok (.iconst 0, 1) := by decide +kernel
theorem d_Law_share_22 : decode b_Law_share 22 = .ok (.ireturn, 1) := by decide +kernel
theorem d_Law_proof_0 : decode b_Law_proof 0 = .ok (.aload 4, 2) := by decide +kernel
theorem d_Law_proof_2 : decode b_Law_proof 2 = .ok (.iconst 0, 1) := by decide +kernel
theorem d_Law_proof_3 : decode b_Law_proof 3 = .ok (.aload_n 0, 1) := by decide +kernel
theorem d_Law_proof_4 : decode b_Law_proof 4 = .ok (.iload_n 1, 1) := by decide +kernel
theorem d_Law_proof_5 : decode b_Law_proof 5 = .ok (.iload_n 2, 1) := by decide +kernel
theorem d_Law_proof_6 : decode b_Law_proof 6 = .ok (.iload_n 3, 1) := by decide +kernel
theorem d_Law_proof_7 : decode b_Law_proof 7 = .ok (.invokevirtual 31, 3) := by decide +kernel
theorem d_Law_proof_10 : decode b_Law_proof 10 = .ok (.i2l, 1) := by decide +kernel
theorem d_Law_proof_11 : decode b_Law_proof 11 = .ok (.lastore, 1) := by decide +kernel
theorem d_Law_proof_12 : decode b_Law_proof 12 = .ok (.goto 11, 3) := by decide +kernel
theorem d_Law_proof_15 : decode b_Law_proof 15 = .ok (.astore 5, 2) := by decide +kernel
theorem d_Law_proof_17 : decode b_Law_proof 17 = .ok (.iconst 1, 1) := by decide +kernel
theorem d_Law_proof_18 : decode b_Law_proof 18 = .ok (.ireturn, 1) := by decide +kernel
theorem d_Law_proof_19 : decode b_Law_proof 19 = .ok (.astore 5, 2) := by decide +kernel
theorem d_Law_proof_21 : decode b_Law_proof 21 = .ok (.iconst 2, 1) := by decide +kernel
theorem d_Law_proof_22 : decode b_Law_proof 22 = .ok (.ireturn, 1) := by decide +kernel
theorem d_Law_proof_23 : decode b_Law_proof 23 = .ok (.iconst 0, 1) := by decide +kernel
theorem d_Law_proof_24 : decode b_Law_proof 24 = .ok (.ireturn, 1) := by decide +kernel
theorem d_Law_good_0 : decode b_Law_good 0 = .ok (.aload 5, 2) := by decide +kernel
theorem d_Law_good_2 : decode b_Law_good 2 = .ok (.iconst 0, 1) := by decide +kernel
theorem d_Law_good_3 : decode b_Law_good 3 = .ok (.aload_n 0, 1) := by decide +kernel
theorem d_Law_good_4 : decode b_Law_good 4 = .ok (.iload_n 1, 1) := by decide +kernel
theorem d_Law_good_5 : decode b_Law_good 5 = .ok (.lload_n 2, 1) := by decide +kernel
theorem d_Law_good_6 : decode b_Law_good 6 = .ok (.iload 4, 2) := by decide +kernel
theorem d_Law_good_8 : decode b_Law_good 8 = .ok (.invokevirtual 35, 3) := by decide +kernel
theorem d_Law_good_11 : decode b_Law_good 11 = .ok (.ifCond .eq 7, 3) := by decide +kernel
theorem d_Law_good_14 : decode b_Law_good 14 = .ok (.lconst 1, 1) := by decide +kernel
theorem d_Law_good_15 : decode b_Law_good 15 = .ok (.goto 4, 3) := by decide +kernel
theorem d_Law_good_18 : decode b_Law_good 18 = .ok (.lconst 0, 1) := by decide +kernel
theorem d_Law_good_19 : decode b_Law_good 19 = .ok (.lastore, 1) := by decide +kernel
theorem d_Law_good_20 : decode b_Law_good 20 = .ok (.goto 7, 3) := by decide +kernel
theorem d_Law_good_23 : decode b_Law_good 23 = .ok (.astore 6, 2) := by decide +kernel
theorem d_Law_good_25 : decode b_Law_good 25 = .ok (.iconst 1, 1) := by decide +kernel
theorem d_Law_good_26 : decode b_Law_good 26 = .ok (.ireturn, 1) := by decide +kernel
theorem d_Law_good_27 : decode b_Law_good 27 = .ok (.iconst 0, 1) := by decide +kernel
theorem d_Law_good_28 : decode b_Law_good 28 = .ok (.ireturn, 1) := by decide +kernel
theorem d_Law_own_0 : decode b_Law_own 0 = .ok (.aload_n 2, 1) := by decide +kernel
theorem d_Law_own_1 : decode b_Law_own 1 = .ok (.iconst 0, 1) := by decide +kernel
theorem d_Law_own_2 : decode b_Law_own 2 = .ok (.aload_n 0, 1) := by decide +kernel
theorem d_Law_own_3 : decode b_Law_own 3 = .ok (.iload_n 1, 1) := by decide +kernel
theorem d_Law_own_4 : decode b_Law_own 4 = .ok (.invokevirtual 39, 3) := by decide +kernel
theorem d_Law_own_7 : decode b_Law_own 7 = .ok (.ifCond .eq 7, 3) := by decide +kernel
theorem d_Law_own_10 : decode b_Law_own 10 = .ok (.lconst 1, 1) := by decide +kernel
theorem d_Law_own_11 : decode b_Law_own 11 = .ok (.goto 4, 3) := by decide +kernel
theorem d_Law_own_14 : decode b_Law_own 14 = .ok (.lconst 0, 1) := by decide +kernel
theorem d_Law_own_15 : decode b_Law_own 15 = .ok (.lastore, 1) := by decide +kernel
theorem d_Law_own_16 : decode b_Law_own 16 = .ok (.goto 6, 3) := by decide +kernel
theorem d_Law_own_19 : decode b_Law_own 19 = .ok (.astore_n 3, 1) := by decide +kernel
theorem d_Law_own_20 : decode b_Law_own 20 = .ok (.iconst 1, 1) := by decide +kernel
theorem d_Law_own_21 : decode b_Law_own 21 = .ok (.ireturn, 1) := by decide +kernel
theorem d_Law_own_22 : decode b_Law_own 22 = .ok (.iconst 0, 1) := by decide +kernel
theorem d_Law_own_23 : decode b_Law_own 23 = .ok (.ireturn, 1) := by decide +kernel
def m_Law_part (p2 : Int32) (p3 : Int32) (p4 : Int64) (psz : Int32) (pcd : Nat → Int32) (pld : Nat → Int32) (pct : Nat → Int64) (uout : Nat → Int64) : Option (Int32 × Int32 × (Nat → Int32) × (Nat → Int32) × (Nat → Int64) × (Nat → Int64)) :=
    bx5 (m_Or_part p2 p3 p4 psz pcd pld pct) (fun ee_7 =>
    if ee_7 = 0 then (
    some (1, psz, pcd, pld, pct, uout))
    else if ee_7 = 1 then (
    some (2, psz, pcd, pld, pct, uout))
    else none) (fun r_7 psz_7 pcd_7 pld_7 pct_7 =>
    ixg 0 1 (
    some (0, psz_7, pcd_7, pld_7, pct_7, vp_updL uout (0 : Int32).toNatClampNeg ((r_7).toInt64))))
def rm_Law_part : Room := { frames := 7, cells := 1, slots := 6, locals := 124 }
set_option maxHeartbeats 4000000 in
set_option maxRecDepth 100000 in
theorem c_Law_part (l : Launch) (hl0 : l.stackTraces = false) (D : va_G) (cT : Nat → ClassId) (qO : Nat) (qOa : Nat) (qT : Nat) (qTs : Nat) (qR : Nat) (qRs : Nat) (qP : Nat) (qPc : Nat) (qPl : Nat) (qPv : Nat) (qL : Nat) (qLj : Nat) (qF : Nat) (qFk : Nat) (qFf : Nat) (qFl : Nat) (qU : Nat) (done : Int32) (brd : Int32) (tup : Int32) (tdn : Int32) (askd : Int32) (answ : Nat → Int32) (tlen : Int32) (tpl : Int32) (tsg : Nat → Int32) (rlen : Int32) (rsz : Int32) (rsg : Nat → Int32) (psz : Int32) (pcd : Nat → Int32) (pld : Nat → Int32) (pct : Nat → Int64) (lpr : Int32) (lful : Bool) (ljn : Nat → Int32) (fsz : Int32) (fkd : Nat → Int32) (ffr : Nat → Int32) (fto : Nat → Int32) (uout : Nat → Int64) (p2 : Int32) (p3 : Int32) (p4 : Int64) {rr : Int32} {o_psz : Int32} {o_pcd : Nat → Int32} {o_pld : Nat → Int32} {o_pct : Nat → Int64} {o_uout : Nat → Int64} (hM : m_Law_part p2 p3 p4 psz pcd pld pct uout = some (rr, o_psz, o_pcd, o_pld, o_pct, o_uout)) : CtH l y_Law_part (WH y_Law_part b_Law_part 7 (some .int) [(0, 12, 15, 13), (0, 12, 19, 15)]) rm_Law_part D cT [.ref qO, .int p2, .int p3, .long p4, .ref qU] [(qO, .inr (0, [.ref qT, .ref qR, .ref qP, .ref qL, .ref qF, .int done, .int brd, .int tup, .int tdn, .ref qOa, .int askd])), (qOa, .inl (cT 0, 149, .inl answ)), (qT, .inr (1, [.ref qTs, .int tlen, .int tpl])), (qTs, .inl (cT 2, 300, .inl tsg)), (qR, .inr (2, [.ref qRs, .int rlen, .int rsz])), (qRs, .inl (cT 2, 300, .inl rsg)), (qP, .inr (3, [.ref qPc, .ref qPl, .ref qPv, .int psz])), (qPc, .inl (cT 0, 12, .inl pcd)), (qPl, .inl (cT 0, 12, .inl pld)), (qPv, .inl (cT 1, 12, .inr (.inl pct))), (qL, .inr (4, [.ref qLj, .int lpr, .int (bI lful)])), (qLj, .inl (cT 0, 10, .inl ljn)), (qF, .inr (5, [.ref qFk, .ref qFf, .ref qFl, .int fsz])), (qFk, .inl (cT 0, 20, .inl fkd)), (qFf, .inl (cT 0, 20, .inl ffr)), (qFl, .inl (cT 0, 20, .inl fto)), (qU, .inl (cT 1, 1, .inr (.inl uout)))] (some (.int rr)) [(qO, .inr (0, [.ref qT, .ref qR, .ref qP, .ref qL, .ref qF, .int done, .int brd, .int tup, .int tdn, .ref qOa, .int askd])), (qOa, .inl (cT 0, 149, .inl answ)), (qT, .inr (1, [.ref qTs, .int tlen, .int tpl])), (qTs, .inl (cT 2, 300, .inl tsg)), (qR, .inr (2, [.ref qRs, .int rlen, .int rsz])), (qRs, .inl (cT 2, 300, .inl rsg)), (qP, .inr (3, [.ref qPc, .ref qPl, .ref qPv, .int o_psz])), (qPc, .inl (cT 0, 12, .inl o_pcd)), (qPl, .inl (cT 0, 12, .inl o_pld)), (qPv, .inl (cT 1, 12, .inr (.inl o_pct))), (qL, .inr (4, [.ref qLj, .int lpr, .int (bI lful)])), (qLj, .inl (cT 0, 10, .inl ljn)), (qF, .inr (5, [.ref qFk, .ref qFf, .ref qFl, .int fsz])), (qFk, .inl (cT 0, 20, .inl fkd)), (qFf, .inl (cT 0, 20, .inl ffr)), (qFl, .inl (cT 0, 20, .inl fto)), (qU, .inl (cT 1, 1, .inr (.inl o_uout)))] 1 6 := by
  intro sz
  refine va_MetW (cc := b_Law_part) (maxL := 7) (ret := (some .int)) (hh := [(0, 12, 15, 13), (0, 12, 19, 15)]) (by decide) rfl ?_
  intro p e s m args below meth c s₁ B hml hv
  obtain ⟨rfl, hsz, hP, hE, hD0, hTE, hNc⟩ := hv
  have hx := B.exec
  have hb := B.bytes
  have hr := B.returns
  have hTab := tab_of B (atoms_spec (ws := WH y_Law_part b_Law_part 7 (some .int) [(0, 12, 15, 13), (0, 12, 19, 15)]) B.pre _ List.mem_cons_self)
  have hts : ∀ w ∈ TB, w.before _ s = true := fun w h => atoms_spec (ws := WH y_Law_part b_Law_part 7 (some .int) [(0, 12, 15, 13), (0, 12, 19, 15)]) B.pre w (List.mem_cons_of_mem _ h)
  have hown : s.vm.findClass R_Law = some m.cls := findClass_of_methodNamed B.named
  have hlocks := B.notSynchronized
  have hK := hE.1
  have hN := hE.2
  subst hsz
  have hD := hD0.self (sz := s.heap.size)
  generalize hAe : va_A [(qO, .inr (0, [.ref qT, .ref qR, .ref qP, .ref qL, .ref qF, .int done, .int brd, .int tup, .int tdn, .ref qOa, .int askd])), (qOa, .inl (cT 0, 149, .inl answ)), (qT, .inr (1, [.ref qTs, .int tlen, .int tpl])), (qTs, .inl (cT 2, 300, .inl tsg)), (qR, .inr (2, [.ref qRs, .int rlen, .int rsz])), (qRs, .inl (cT 2, 300, .inl rsg)), (qP, .inr (3, [.ref qPc, .ref qPl, .ref qPv, .int psz])), (qPc, .inl (cT 0, 12, .inl pcd)), (qPl, .inl (cT 0, 12, .inl pld)), (qPv, .inl (cT 1, 12, .inr (.inl pct))), (qL, .inr (4, [.ref qLj, .int lpr, .int (bI lful)])), (qLj, .inl (cT 0, 10, .inl ljn)), (qF, .inr (5, [.ref qFk, .ref qFf, .ref qFl, .int fsz])), (qFk, .inl (cT 0, 20, .inl fkd)), (qFf, .inl (cT 0, 20, .inl ffr)), (qFl, .inl (cT 0, 20, .inl fto)), (qU, .inl (cT 1, 1, .inr (.inl uout)))] s.heap.size = A at hD hTE ⊢
  have hA : ∀ q : Nat, s.heap.size ≤ q → A q := fun q h => by rw [← hAe]; exact Or.inr h
  have hS : va_S A s.heap s.heap [] := va_S.rf
  have hl := lv_entry ([.ref qO, .int p2, .int p3, .long p4, .ref qU]) (n := 7) (Nat.le_of_ble_eq_true rfl)
  rw [lg_entry_eq]
  generalize (lg_sl ([.ref qO, .int p2, .int p3, .long p4, .ref qU]) ++ List.replicate (7 - (lg_sl ([.ref qO, .int p2, .int p3, .long p4, .ref qU])).length) Slot.unset).toArray = ls at hl ⊢
  have hl : lv_has ls 7 [(0, .ref qO), (1, .int p2), (2, .int p3), (3, .long p4), (5, .ref qU)] := hl
  have S : CallFix p m c b_Law_part 7 s _ TB R_Law := ⟨hx, hb, hml, hown, hts⟩
  unfold m_Law_part at hM
  refine lv_aload hx hb d_Law_part_0 (lv_at hl 4 rfl) ?_
  refine lv_iconst (v := 0) hx hb d_Law_part_2 (by decide) ?_
  refine lv_aload_n hx hb d_Law_part_3 rfl (lv_at hl 0 rfl) ?_
  refine lv_iload_n hx hb d_Law_part_4 rfl (lv_at hl 1 rfl) ?_
  refine lv_iload_n hx hb d_Law_part_5 rfl (lv_at hl 2 rfl) ?_
  refine lv_lload_n hx hb d_Law_part_6 rfl (lv_at hl 3 rfl) ?_
  rcases bx5T hM with ⟨r_7, psz_7, pcd_7, pld_7, pct_7, hc_7, hM⟩ | ⟨ee_7, hc_7, hM⟩
  · refine W.widen (k := 1) (n := 6) (Nat.le_of_ble_eq_true rfl) (Nat.le_of_ble_eq_true rfl) ?_
    refine ca_V (As := [.int p2, .int p3, .long p4]) (rest := [.int 0, .ref qU]) (wr := [(qU, .inl (cT 1, 1, .inr (.inl uout)))]) (w2 := [(qO, .inr (0, [.ref qT, .ref qR, .ref qP, .ref qL, .ref qF, .int done, .int brd, .int tup, .int tdn, .ref qOa, .int askd])), (qOa, .inl (cT 0, 149, .inl answ)), (qT, .inr (1, [.ref qTs, .int tlen, .int tpl])), (qTs, .inl (cT 2, 300, .inl tsg)), (qR, .inr (2, [.ref qRs, .int rlen, .int rsz])), (qRs, .inl (cT 2, 300, .inl rsg)), (qP, .inr (3, [.ref qPc, .ref qPl, .ref qPv, .int psz_7])), (qPc, .inl (cT 0, 12, .inl pcd_7)), (qPl, .inl (cT 0, 12, .inl pld_7)), (qPv, .inl (cT 1, 12, .inr (.inl pct_7))), (qL, .inr (4, [.ref qLj, .int lpr, .int (bI lful)])), (qLj, .inl (cT 0, 10, .inl ljn)), (qF, .inr (5, [.ref qFk, .ref qFf, .ref qFl, .int fsz])), (qFk, .inl (cT 0, 20, .inl fkd)), (qFf, .inl (cT 0, 20, .inl ffr)), (qFl, .inl (cT 0, 20, .inl fto)), (qU, .inl (cT 1, 1, .inr (.inl uout)))]) S hE (c_Or_part l D cT qO qOa qT qTs qR qRs qP qPc qPl qPv qL qLj qF qFk qFf qFl done brd tup tdn askd answ tlen tpl tsg rlen rsz rsg psz pcd pld pct lpr lful ljn fsz fkd ffr fto p2 p3 p4 hc_7) gw_7a5c62b4 rfl rfl ⟨Nat.le_of_ble_eq_true rfl, Nat.le_of_ble_eq_true rfl⟩ (ci := 0) rfl rfl (k0 := 0) rfl rfl hl.1 rfl (Nat.le_of_ble_eq_true rfl) d_Law_part_7 ⟨Nat.le_of_ble_eq_true rfl, Nat.le_of_ble_eq_true rfl⟩ hP hD hS hA [0, 1, 2, 3, 4, 5, 6, 7, 8, 9, 10, 11, 12, 13, 14, 15] [16] [1, 2, 3, 4, 5, 6, 7, 8, 9, 10, 11, 12, 13, 14, 15, 16, 0] rfl rfl (by decide) (by decide) rfl (by decide) (by decide) (fun H locs hP hD hS => ?_)
    refine lv_i2l hx hb d_Law_part_10 rfl ?_
    obtain ⟨hin_11, hM⟩ := ixT hM
    refine va_last hx hb hK hP hD hS 16 1 rfl rfl hin_11 d_Law_part_11 (fun H locs hP hD hS => ?_)
    have hP : va_P D classes [(qO, .inr (0, [.ref qT, .ref qR, .ref qP, .ref qL, .ref qF, .int done, .int brd, .int tup, .int tdn, .ref qOa, .int askd])), (qOa, .inl (cT 0, 149, .inl answ)), (qT, .inr (1, [.ref qTs, .int tlen, .int tpl])), (qTs, .inl (cT 2, 300, .inl tsg)), (qR, .inr (2, [.ref qRs, .int rlen, .int rsz])), (qRs, .inl (cT 2, 300, .inl rsg)), (qP, .inr (3, [.ref qPc, .ref qPl, .ref qPv, .int psz_7])), (qPc, .inl (cT 0, 12, .inl pcd_7)), (qPl, .inl (cT 0, 12, .inl pld_7)), (qPv, .inl (cT 1, 12, .inr (.inl pct_7))), (qL, .inr (4, [.ref qLj, .int lpr, .int (bI lful)])), (qLj, .inl (cT 0, 10, .inl ljn)), (qF, .inr (5, [.ref qFk, .ref qFf, .ref qFl, .int fsz])), (qFk, .inl (cT 0, 20, .inl fkd)), (qFf, .inl (cT 0, 20, .inl ffr)), (qFl, .inl (cT 0, 20, .inl fto)), (qU, .inl (cT 1, 1, .inr (.inl (vp_updL uout (0 : Int32).toNatClampNeg ((r_7).toInt64)))))] H := hP
    have hD : va_D A [(qO, .inr (0, [.ref qT, .ref qR, .ref qP, .ref qL, .ref qF, .int done, .int brd, .int tup, .int tdn, .ref qOa, .int askd])), (qOa, .inl (cT 0, 149, .inl answ)), (qT, .inr (1, [.ref qTs, .int tlen, .int tpl])), (qTs, .inl (cT 2, 300, .inl tsg)), (qR, .inr (2, [.ref qRs, .int rlen, .int rsz])), (qRs, .inl (cT 2, 300, .inl rsg)), (qP, .inr (3, [.ref qPc, .ref qPl, .ref qPv, .int psz_7])), (qPc, .inl (cT 0, 12, .inl pcd_7)), (qPl, .inl (cT 0, 12, .inl pld_7)), (qPv, .inl (cT 1, 12, .inr (.inl pct_7))), (qL, .inr (4, [.ref qLj, .int lpr, .int (bI lful)])), (qLj, .inl (cT 0, 10, .inl ljn)), (qF, .inr (5, [.ref qFk, .ref qFf, .ref qFl, .int fsz])), (qFk, .inl (cT 0, 20, .inl fkd)), (qFf, .inl (cT 0, 20, .inl ffr)), (qFl, .inl (cT 0, 20, .inl fto)), (qU, .inl (cT 1, 1, .inr (.inl (vp_updL uout (0 : Int32).toNatClampNeg ((r_7).toInt64)))))] := hD
    refine lv_goto (tgt := 23) hx hb d_Law_part_12 (by decide) ?_
    refine lv_iconst (v := 0) hx hb d_Law_part_23 (by decide) ?_
    obtain ⟨eo0, eo1, eo2, eo3, eo4, eo5⟩ := so6T hM
    subst eo0
    subst eo1
    subst eo2
    subst eo3
    subst eo4
    subst eo5
    exact rt_i S hr hlocks hP hD hS d_Law_part_24
  · by_cases he_7_0 : ee_7 = 0
    · have hM := itT hM he_7_0
      subst he_7_0
      refine ex_tryV (As := [.int p2, .int p3, .long p4]) (rest := [.int 0, .ref qU]) S hE hTE (x_Or_part l hl0 D cT qO qOa qT qTs qR qRs qP qPc qPl qPv qL qLj qF qFk qFf qFl done brd tup tdn askd answ tlen tpl tsg rlen rsz rsg psz pcd pld pct lpr lful ljn fsz fkd ffr fto p2 p3 p4 hc_7) gw_7a5c62b4 rfl rfl ⟨Nat.le_of_ble_eq_true rfl, Nat.le_of_ble_eq_true rfl⟩ (ci := 0) rfl rfl (k0 := 0) rfl rfl hl.1 rfl (Nat.le_of_ble_eq_true rfl) d_Law_part_7 ⟨Nat.le_of_ble_eq_true rfl, Nat.le_of_ble_eq_true rfl⟩ hP hD hS hA [0, 1, 2, 3, 4, 5, 6, 7, 8, 9, 10, 11, 12, 13, 14, 15] rfl (by decide) (fun H q9 ce hP hS hce hcv hcl => ?_)
      refine ex_catch1 (own := R_Law) (name := "java/lang/IllegalArgumentException") (E := "java/lang/IllegalArgumentException") hown ⟨0, 12, 15, 13⟩ [⟨0, 12, 19, 15⟩] (by rw [hTab]; rfl) (by decide) (by decide) (hts _ iw_c2c9bcb9) (va_Nw.use rfl (hTE.1 _ xl_0)) hce hcv hcl ?_
      refine lv_astore (lv' := [(6, .ref q9), (0, .ref qO), (1, .int p2), (2, .int p3), (3, .long p4), (5, .ref qU)]) hx hb d_Law_part_15 hl (by decide) rfl (fun ls hl => ?_)
      refine lv_iconst (v := 1) hx hb d_Law_part_17 (by decide) ?_
      obtain ⟨eo0, eo1, eo2, eo3, eo4, eo5⟩ := so6T hM
      subst eo0
      subst eo1
      subst eo2
      subst eo3
      subst eo4
      subst eo5
      exact rt_i S hr hlocks hP hD hS d_Law_part_18
    · have hM := itF hM he_7_0
      by_cases he_7_1 : ee_7 = 1
      · have hM := itT hM he_7_1
        subst he_7_1
        refine ex_tryV (As := [.int p2, .int p3, .long p4]) (rest := [.int 0, .ref qU]) S hE hTE (x_Or_part l hl0 D cT qO qOa qT qTs qR qRs qP qPc qPl qPv qL qLj qF qFk qFf qFl done brd tup tdn askd answ tlen tpl tsg rlen rsz rsg psz pcd pld pct lpr lful ljn fsz fkd ffr fto p2 p3 p4 hc_7) gw_7a5c62b4 rfl rfl ⟨Nat.le_of_ble_eq_true rfl, Nat.le_of_ble_eq_true rfl⟩ (ci := 0) rfl rfl (k0 := 0) rfl rfl hl.1 rfl (Nat.le_of_ble_eq_true rfl) d_Law_part_7 ⟨Nat.le_of_ble_eq_true rfl, Nat.le_of_ble_eq_true rfl⟩ hP hD hS hA [0, 1, 2, 3, 4, 5, 6, 7, 8, 9, 10, 11, 12, 13, 14, 15] rfl (by decide) (fun H q9 ce hP hS hce hcv hcl => ?_)
        refine ex_catch2 (own := R_Law) (name := "java/lang/IllegalStateException") (other := "java/lang/IllegalArgumentException") (E := "java/lang/IllegalStateException") hown ⟨0, 12, 15, 13⟩ ⟨0, 12, 19, 15⟩ [] (by rw [hTab]; rfl) (by decide) (by decide) (by decide) (by decide) (hts _ iw_c2c9bcb9) (hNc "java/lang/IllegalStateException" "java/lang/IllegalArgumentException" nc_0) (hts _ iw_cd8e4cac) (va_Nw.use rfl (hTE.1 _ xl_1)) hce hcv hcl ?_
        refine lv_astore (lv' := [(6, .ref q9), (0, .ref qO), (1, .int p2), (2, .int p3), (3, .long p4), (5, .ref qU)]) hx hb d_Law_part_19 hl (by decide) rfl (fun ls hl => ?_)
        refine lv_iconst (v := 2) hx hb d_Law_part_21 (by decide) ?_
        obtain ⟨eo0, eo1, eo2, eo3, eo4, eo5⟩ := so6T hM
        subst eo0
        subst eo1
        subst eo2
        subst eo3
        subst eo4
        subst eo5
        exact rt_i S hr hlocks hP hD hS d_Law_part_22
      · have hM := itF hM he_7_1
        cases hM
def m_Law_join (p2 : Int32) (p3 : Int32) (lpr : Int32) (ljn : Nat → Int32) (uout : Nat → Int64) : Option (Int32 × Int32 × (Nat → Int32) × (Nat → Int64)) :=
    bx3 (m_Or_join p2 p3 lpr ljn) (fun ee_5 =>
    if ee_5 = 0 then (
    some (1, lpr, ljn, uout))
    else none) (fun r_5 lpr_5 ljn_5 =>
    ixg 0 1 (
    some (0, lpr_5, ljn_5, vp_updL uout (0 : Int32).toNatClampNeg ((r_5).toInt64))))
def rm_Law_join : Room := { frames := 7, cells := 1, slots := 6, locals := 122 }
set_option maxHeartbeats 4000000 in
set_option maxRecDepth 100000 in
theorem c_Law_join (l : Launch) (hl0 : l.stackTraces = false) (D : va_G) (cT : Nat → ClassId) (qO : Nat) (qOa : Nat) (qT : Nat) (qTs : Nat) (qR : Nat) (qRs : Nat) (qP : Nat) (qPc : Nat) (qPl : Nat) (qPv : Nat) (qL : Nat) (qLj : Nat) (qF : Nat) (qFk : Nat) (qFf : Nat) (qFl : Nat) (qU : Nat) (done : Int32) (brd : Int32) (tup : Int32) (tdn : Int32) (askd : Int32) (answ : Nat → Int32) (tlen : Int32) (tpl : Int32) (tsg : Nat → Int32) (rlen : Int32) (rsz : Int32) (rsg : Nat → Int32) (psz : Int32) (pcd : Nat → Int32) (pld : Nat → Int32) (pct : Nat → Int64) (lpr : Int32) (lful : Bool) (ljn : Nat → Int32) (fsz : Int32) (fkd : Nat → Int32) (ffr : Nat → Int32) (fto : Nat → Int32) (uout : Nat → Int64) (p2 : Int32) (p3 : Int32) {rr : Int32} {o_lpr : Int32} {o_ljn : Nat → Int32} {o_uout : Nat → Int64} (hM : m_Law_join p2 p3 lpr ljn uout = some (rr, o_lpr, o_ljn, o_uout)) : CtH l y_Law_join (WH y_Law_join b_Law_join 5 (some .int) [(0, 10, 13, 13)]) rm_Law_join D cT [.ref qO, .int p2, .int p3, .ref qU] [(qO, .inr (0, [.ref qT, .ref qR, .ref qP, .ref qL, .ref qF, .int done, .int brd, .int tup, .int tdn, .ref qOa, .int askd])), (qOa, .inl (cT 0, 149, .inl answ)), (qT, .inr (1, [.ref qTs, .int tlen, .int tpl])), (qTs, .inl (cT 2, 300, .inl tsg)), (qR, .inr (2, [.ref qRs, .int rlen, .int rsz])), (qRs, .inl (cT 2, 300, .inl rsg)), (qP, .inr (3, [.ref qPc, .ref qPl, .ref qPv, .int psz])), (qPc, .inl (cT 0, 12, .inl pcd)), (qPl, .inl (cT 0, 12, .inl pld)), (qPv, .inl (cT 1, 12, .inr (.inl pct))), (qL, .inr (4, [.ref qLj, .int lpr, .int (bI lful)])), (qLj, .inl (cT 0, 10, .inl ljn)), (qF, .inr (5, [.ref qFk, .ref qFf, .ref qFl, .int fsz])), (qFk, .inl (cT 0, 20, .inl fkd)), (qFf, .inl (cT 0, 20, .inl ffr)), (qFl, .inl (cT 0, 20, .inl fto)), (qU, .inl (cT 1, 1, .inr (.inl uout)))] (some (.int rr)) [(qO, .inr (0, [.ref qT, .ref qR, .ref qP, .ref qL, .ref qF, .int done, .int brd, .int tup, .int tdn, .ref qOa, .int askd])), (qOa, .inl (cT 0, 149, .inl answ)), (qT, .inr (1, [.ref qTs, .int tlen, .int tpl])), (qTs, .inl (cT 2, 300, .inl tsg)), (qR, .inr (2, [.ref qRs, .int rlen, .int rsz])), (qRs, .inl (cT 2, 300, .inl rsg)), (qP, .inr (3, [.ref qPc, .ref qPl, .ref qPv, .int psz])), (qPc, .inl (cT 0, 12, .inl pcd)), (qPl, .inl (cT 0, 12, .inl pld)), (qPv, .inl (cT 1, 12, .inr (.inl pct))), (qL, .inr (4, [.ref qLj, .int o_lpr, .int (bI lful)])), (qLj, .inl (cT 0, 10, .inl o_ljn)), (qF, .inr (5, [.ref qFk, .ref qFf, .ref qFl, .int fsz])), (qFk, .inl (cT 0, 20, .inl fkd)), (qFf, .inl (cT 0, 20, .inl ffr)), (qFl, .inl (cT 0, 20, .inl fto)), (qU, .inl (cT 1, 1, .inr (.inl o_uout)))] 1 6 := by
  intro sz
  refine va_MetW (cc := b_Law_join) (maxL := 5) (ret := (some .int)) (hh := [(0, 10, 13, 13)]) (by decide) rfl ?_
  intro p e s m args below meth c s₁ B hml hv
  obtain ⟨rfl, hsz, hP, hE, hD0, hTE, hNc⟩ := hv
  have hx := B.exec
  have hb := B.bytes
  have hr := B.returns
  have hTab := tab_of B (atoms_spec (ws := WH y_Law_join b_Law_join 5 (some .int) [(0, 10, 13, 13)]) B.pre _ List.mem_cons_self)
  have hts : ∀ w ∈ TB, w.before _ s = true := fun w h => atoms_spec (ws := WH y_Law_join b_Law_join 5 (some .int) [(0, 10, 13, 13)]) B.pre w (List.mem_cons_of_mem _ h)
  have hown : s.vm.findClass R_Law = some m.cls := findClass_of_methodNamed B.named
  have hlocks := B.notSynchronized
  have hK := hE.1
  have hN := hE.2
  subst hsz
  have hD := hD0.self (sz := s.heap.size)
  generalize hAe : va_A [(qO, .inr (0, [.ref qT, .ref qR, .ref qP, .ref qL, .ref qF, .int done, .int brd, .int tup, .int tdn, .ref qOa, .int askd])), (qOa, .inl (cT 0, 149, .inl answ)), (qT, .inr (1, [.ref qTs, .int tlen, .int tpl])), (qTs, .inl (cT 2, 300, .inl tsg)), (qR, .inr (2, [.ref qRs, .int rlen, .int rsz])), (qRs, .inl (cT 2, 300, .inl rsg)), (qP, .inr (3, [.ref qPc, .ref qPl, .ref qPv, .int psz])), (qPc, .inl (cT 0, 12, .inl pcd)), (qPl, .inl (cT 0, 12, .inl pld)), (qPv, .inl (cT 1, 12, .inr (.inl pct))), (qL, .inr (4, [.ref qLj, .int lpr, .int (bI lful)])), (qLj, .inl (cT 0, 10, .inl ljn)), (qF, .inr (5, [.ref qFk, .ref qFf, .ref qFl, .int fsz])), (qFk, .inl (cT 0, 20, .inl fkd)), (qFf, .inl (cT 0, 20, .inl ffr)), (qFl, .inl (cT 0, 20, .inl fto)), (qU, .inl (cT 1, 1, .inr (.inl uout)))] s.heap.size = A at hD hTE ⊢
  have hA : ∀ q : Nat, s.heap.size ≤ q → A q := fun q h => by rw [← hAe]; exact Or.inr h
  have hS : va_S A s.heap s.heap [] := va_S.rf
  have hl := lv_entry ([.ref qO, .int p2, .int p3, .ref qU]) (n := 5) (Nat.le_of_ble_eq_true rfl)
  rw [lg_entry_eq]
  generalize (lg_sl ([.ref qO, .int p2, .int p3, .ref qU]) ++ List.replicate (5 - (lg_sl ([.ref qO, .int p2, .int p3, .ref qU])).length) Slot.unset).toArray = ls at hl ⊢
  have hl : lv_has ls 5 [(0, .ref qO), (1, .int p2), (2, .int p3), (3, .ref qU)] := hl
  have S : CallFix p m c b_Law_join 5 s _ TB R_Law := ⟨hx, hb, hml, hown, hts⟩
  unfold m_Law_join at hM
  refine lv_aload_n hx hb d_Law_join_0 rfl (lv_at hl 3 rfl) ?_
  refine lv_iconst (v := 0) hx hb d_Law_join_1 (by decide) ?_
  refine lv_aload_n hx hb d_Law_join_2 rfl (lv_at hl 0 rfl) ?_
  refine lv_iload_n hx hb d_Law_join_3 rfl (lv_at hl 1 rfl) ?_
  refine lv_iload_n hx hb d_Law_join_4 rfl (lv_at hl 2 rfl) ?_
  rcases bx3T hM with ⟨r_5, lpr_5, ljn_5, hc_5, hM⟩ | ⟨ee_5, hc_5, hM⟩
  · refine W.widen (k := 1) (n := 6) (Nat.le_of_ble_eq_true rfl) (Nat.le_of_ble_eq_true rfl) ?_
    refine ca_V (As := [.int p2, .int p3]) (rest := [.int 0, .ref qU]) (wr := [(qU, .inl (cT 1, 1, .inr (.inl uout)))]) (w2 := [(qO, .inr (0, [.ref qT, .ref qR, .ref qP, .ref qL, .ref qF, .int done, .int brd, .int tup, .int tdn, .ref qOa, .int askd])), (qOa, .inl (cT 0, 149, .inl answ)), (qT, .inr (1, [.ref qTs, .int tlen, .int tpl])), (qTs, .inl (cT 2, 300, .inl tsg)), (qR, .inr (2, [.ref qRs, .int rlen, .int rsz])), (qRs, .inl (cT 2, 300, .inl rsg)), (qP, .inr (3, [.ref qPc, .ref qPl, .ref qPv, .int psz])), (qPc, .inl (cT 0, 12, .inl pcd)), (qPl, .inl (cT 0, 12, .inl pld)), (qPv, .inl (cT 1, 12, .inr (.inl pct))), (qL, .inr (4, [.ref qLj, .int lpr_5, .int (bI lful)])), (qLj, .inl (cT 0, 10, .inl ljn_5)), (qF, .inr (5, [.ref qFk, .ref qFf, .ref qFl, .int fsz])), (qFk, .inl (cT 0, 20, .inl fkd)), (qFf, .inl (cT 0, 20, .inl ffr)), (qFl, .inl (cT 0, 20, .inl fto)), (qU, .inl (cT 1, 1, .inr (.inl uout)))]) S hE (c_Or_join l D cT qO qOa qT qTs qR qRs qP qPc qPl qPv qL qLj qF qFk qFf qFl done brd tup tdn askd answ tlen tpl tsg rlen rsz rsg psz pcd pld pct lpr lful ljn fsz fkd ffr fto p2 p3 hc_5) gw_10fa32bb rfl rfl ⟨Nat.le_of_ble_eq_true rfl, Nat.le_of_ble_eq_true rfl⟩ (ci := 0) rfl rfl (k0 := 0) rfl rfl hl.1 rfl (Nat.le_of_ble_eq_true rfl) d_Law_join_5 ⟨Nat.le_of_ble_eq_true rfl, Nat.le_of_ble_eq_true rfl⟩ hP hD hS hA [0, 1, 2, 3, 4, 5, 6, 7, 8, 9, 10, 11, 12, 13, 14, 15] [16] [1, 2, 3, 4, 5, 6, 7, 8, 9, 10, 11, 12, 13, 14, 15, 16, 0] rfl rfl (by decide) (by decide) rfl (by decide) (by decide) (fun H locs hP hD hS => ?_)
    refine lv_i2l hx hb d_Law_join_8 rfl ?_
    obtain ⟨hin_9, hM⟩ := ixT hM
    refine va_last hx hb hK hP hD hS 16 1 rfl rfl hin_9 d_Law_join_9 (fun H locs hP hD hS => ?_)
    have hP : va_P D classes [(qO, .inr (0, [.ref qT, .ref qR, .ref qP, .ref qL, .ref qF, .int done, .int brd, .int tup, .int tdn, .ref qOa, .int askd])), (qOa, .inl (cT 0, 149, .inl answ)), (qT, .inr (1, [.ref qTs, .int tlen, .int tpl])), (qTs, .inl (cT 2, 300, .inl tsg)), (qR, .inr (2, [.ref qRs, .int rlen, .int rsz])), (qRs, .inl (cT 2, 300, .inl rsg)), (qP, .inr (3, [.ref qPc, .ref qPl, .ref qPv, .int psz])), (qPc, .inl (cT 0, 12, .inl pcd)), (qPl, .inl (cT 0, 12, .inl pld)), (qPv, .inl (cT 1, 12, .inr (.inl pct))), (qL, .inr (4, [.ref qLj, .int lpr_5, .int (bI lful)])), (qLj, .inl (cT 0, 10, .inl ljn_5)), (qF, .inr (5, [.ref qFk, .ref qFf, .ref qFl, .int fsz])), (qFk, .inl (cT 0, 20, .inl fkd)), (qFf, .inl (cT 0, 20, .inl ffr)), (qFl, .inl (cT 0, 20, .inl fto)), (qU, .inl (cT 1, 1, .inr (.inl (vp_updL uout (0 : Int32).toNatClampNeg ((r_5).toInt64)))))] H := hP
    have hD : va_D A [(qO, .inr (0, [.ref qT, .ref qR, .ref qP, .ref qL, .ref qF, .int done, .int brd, .int tup, .int tdn, .ref qOa, .int askd])), (qOa, .inl (cT 0, 149, .inl answ)), (qT, .inr (1, [.ref qTs, .int tlen, .int tpl])), (qTs, .inl (cT 2, 300, .inl tsg)), (qR, .inr (2, [.ref qRs, .int rlen, .int rsz])), (qRs, .inl (cT 2, 300, .inl rsg)), (qP, .inr (3, [.ref qPc, .ref qPl, .ref qPv, .int psz])), (qPc, .inl (cT 0, 12, .inl pcd)), (qPl, .inl (cT 0, 12, .inl pld)), (qPv, .inl (cT 1, 12, .inr (.inl pct))), (qL, .inr (4, [.ref qLj, .int lpr_5, .int (bI lful)])), (qLj, .inl (cT 0, 10, .inl ljn_5)), (qF, .inr (5, [.ref qFk, .ref qFf, .ref qFl, .int fsz])), (qFk, .inl (cT 0, 20, .inl fkd)), (qFf, .inl (cT 0, 20, .inl ffr)), (qFl, .inl (cT 0, 20, .inl fto)), (qU, .inl (cT 1, 1, .inr (.inl (vp_updL uout (0 : Int32).toNatClampNeg ((r_5).toInt64)))))] := hD
    refine lv_goto (tgt := 17) hx hb d_Law_join_10 (by decide) ?_
    refine lv_iconst (v := 0) hx hb d_Law_join_17 (by decide) ?_
    obtain ⟨eo0, eo1, eo2, eo3⟩ := so4T hM
    subst eo0
    subst eo1
    subst eo2
    subst eo3
    exact rt_i S hr hlocks hP hD hS d_Law_join_18
  · by_cases he_5_0 : ee_5 = 0
    · have hM := itT hM he_5_0
      subst he_5_0
      refine ex_tryV (As := [.int p2, .int p3]) (rest := [.int 0, .ref qU]) S hE hTE (x_Or_join l hl0 D cT qO qOa qT qTs qR qRs qP qPc qPl qPv qL qLj qF qFk qFf qFl done brd tup tdn askd answ tlen tpl tsg rlen rsz rsg psz pcd pld pct lpr lful ljn fsz fkd ffr fto p2 p3 hc_5) gw_10fa32bb rfl rfl ⟨Nat.le_of_ble_eq_true rfl, Nat.le_of_ble_eq_true rfl⟩ (ci := 0) rfl rfl (k0 := 0) rfl rfl hl.1 rfl (Nat.le_of_ble_eq_true rfl) d_Law_join_5 ⟨Nat.le_of_ble_eq_true rfl, Nat.le_of_ble_eq_true rfl⟩ hP hD hS hA [0, 1, 2, 3, 4, 5, 6, 7, 8, 9, 10, 11, 12, 13, 14, 15] rfl (by decide) (fun H q9 ce hP hS hce hcv hcl => ?_)
      refine ex_catch1 (own := R_Law) (name := "java/lang/IllegalArgumentException") (E := "java/lang/IllegalArgumentException") hown ⟨0, 10, 13, 13⟩ [] (by rw [hTab]; rfl) (by decide) (by decide) (hts _ iw_c2c9bcb9) (va_Nw.use rfl (hTE.1 _ xl_0)) hce hcv hcl ?_
      refine lv_astore (lv' := [(4, .ref q9), (0, .ref qO), (1, .int p2), (2, .int p3), (3, .ref qU)]) hx hb d_Law_join_13 hl (by decide) rfl (fun ls hl => ?_)
      refine lv_iconst (v := 1) hx hb d_Law_join_15 (by decide) ?_
      obtain ⟨eo0, eo1, eo2, eo3⟩ := so4T hM
      subst eo0
      subst eo1
      subst eo2
      subst eo3
      exact rt_i S hr hlocks hP hD hS d_Law_join_16
    · have hM := itF hM he_5_0
      cases hM
def m_Law_verdict (p2 : Int32) (p3 : Int64) (done : Int32) (brd : Int32) (tup : Int32) (tdn : Int32) (rlen : Int32) (rsg : Nat → Int32) (psz : Int32) (pcd : Nat → Int32) (pld : Nat → Int32) (pct : Nat → Int64) (lful : Bool) (ljn : Nat → Int32) (askd : Int32) (answ : Nat → Int32) (uout : Nat → Int64) : Option (Int32 × Int32 × (Nat → Int32) × (Nat → Int64)) :=
    bx3 (m_Or_verdict p2 p3 done brd tup tdn rlen rsg psz pcd pld pct lful ljn askd answ) (fun ee_6 =>
    if ee_6 = 0 then (
    some (1, askd, answ, uout))
    else none) (fun r_6 askd_6 answ_6 =>
    ixg 0 1 (
    some (0, askd_6, answ_6, vp_updL uout (0 : Int32).toNatClampNeg ((r_6).toInt64))))
def rm_Law_verdict : Room := { frames := 7, cells := 1, slots := 6, locals := 155 }
set_option maxHeartbeats 4000000 in
set_option maxRecDepth 100000 in
theorem c_Law_verdict (l : Launch) (hl0 : l.stackTraces = false) (D : va_G) (cT : Nat → ClassId) (qO : Nat) (qOa : Nat) (qT : Nat) (qTs : Nat) (qR : Nat) (qRs : Nat) (qP : Nat) (qPc : Nat) (qPl : Nat) (qPv : Nat) (qL : Nat) (qLj : Nat) (qF : Nat) (qFk : Nat) (qFf : Nat) (qFl : Nat) (qU : Nat) (done : Int32) (brd : Int32) (tup : Int32) (tdn : Int32) (askd : Int32) (answ : Nat → Int32) (tlen : Int32) (tpl : Int32) (tsg : Nat → Int32) (rlen : Int32) (rsz : Int32) (rsg : Nat → Int32) (psz : Int32) (pcd : Nat → Int32) (pld : Nat → Int32) (pct : Nat → Int64) (lpr : Int32) (lful : Bool) (ljn : Nat → Int32) (fsz : Int32) (fkd : Nat → Int32) (ffr : Nat → Int32) (fto : Nat → Int32) (uout : Nat → Int64) (p2 : Int32) (p3 : Int64) {rr : Int32} {o_askd : Int32} {o_answ : Nat → Int32} {o_uout : Nat → Int64} (hM : m_Law_verdict p2 p3 done brd tup tdn rlen rsg psz pcd pld pct lful ljn askd answ uout = some (rr, o_askd, o_answ, o_uout)) : CtH l y_Law_verdict (WH y_Law_verdict b_Law_verdict 6 (some .int) [(0, 11, 14, 13)]) rm_Law_verdict D cT [.ref qO, .int p2, .long p3, .ref qU] [(qO, .inr (0, [.ref qT, .ref qR, .ref qP, .ref qL, .ref qF, .int done, .int brd, .int tup, .int tdn, .ref qOa, .int askd])), (qOa, .inl (cT 0, 149, .inl answ)), (qT, .inr (1, [.ref qTs, .int tlen, .int tpl])), (qTs, .inl (cT 2, 300, .inl tsg)), (qR, .inr (2, [.ref qRs, .int rlen, .int rsz])), (qRs, .inl (cT 2, 300, .inl rsg)), (qP, .inr (3, [.ref qPc, .ref qPl, .ref qPv, .int psz])), (qPc, .inl (cT 0, 12, .inl pcd)), (qPl, .inl (cT 0, 12, .inl pld)), (qPv, .inl (cT 1, 12, .inr (.inl pct))), (qL, .inr (4, [.ref qLj, .int lpr, .int (bI lful)])), (qLj, .inl (cT 0, 10, .inl ljn)), (qF, .inr (5, [.ref qFk, .ref qFf, .ref qFl, .int fsz])), (qFk, .inl (cT 0, 20, .inl fkd)), (qFf, .inl (cT 0, 20, .inl ffr)), (qFl, .inl (cT 0, 20, .inl fto)), (qU, .inl (cT 1, 1, .inr (.inl uout)))] (some (.int rr)) [(qO, .inr (0, [.ref qT, .ref qR, .ref qP, .ref qL, .ref qF, .int done, .int brd, .int tup, .int tdn, .ref qOa, .int o_askd])), (qOa, .inl (cT 0, 149, .inl o_answ)), (qT, .inr (1, [.ref qTs, .int tlen, .int tpl])), (qTs, .inl (cT 2, 300, .inl tsg)), (qR, .inr (2, [.ref qRs, .int rlen, .int rsz])), (qRs, .inl (cT 2, 300, .inl rsg)), (qP, .inr (3, [.ref qPc, .ref qPl, .ref qPv, .int psz])), (qPc, .inl (cT 0, 12, .inl pcd)), (qPl, .inl (cT 0, 12, .inl pld)), (qPv, .inl (cT 1, 12, .inr (.inl pct))), (qL, .inr (4, [.ref qLj, .int lpr, .int (bI lful)])), (qLj, .inl (cT 0, 10, .inl ljn)), (qF, .inr (5, [.ref qFk, .ref qFf, .ref qFl, .int fsz])), (qFk, .inl (cT 0, 20, .inl fkd)), (qFf, .inl (cT 0, 20, .inl ffr)), (qFl, .inl (cT 0, 20, .inl fto)), (qU, .inl (cT 1, 1, .inr (.inl o_uout)))] 1 6 := by
  intro sz
  refine va_MetW (cc := b_Law_verdict) (maxL := 6) (ret := (some .int)) (hh := [(0, 11, 14, 13)]) (by decide) rfl ?_
  intro p e s m args below meth c s₁ B hml hv
  obtain ⟨rfl, hsz, hP, hE, hD0, hTE, hNc⟩ := hv
  have hx := B.exec
  have hb := B.bytes
  have hr := B.returns
  have hTab := tab_of B (atoms_spec (ws := WH y_Law_verdict b_Law_verdict 6 (some .int) [(0, 11, 14, 13)]) B.pre _ List.mem_cons_self)
  have hts : ∀ w ∈ TB, w.before _ s = true := fun w h => atoms_spec (ws := WH y_Law_verdict b_Law_verdict 6 (some .int) [(0, 11, 14, 13)]) B.pre w (List.mem_cons_of_mem _ h)
  have hown : s.vm.findClass R_Law = some m.cls := findClass_of_methodNamed B.named
  have hlocks := B.notSynchronized
  have hK := hE.1
  have hN := hE.2
  subst hsz
  have hD := hD0.self (sz := s.heap.size)
  generalize hAe : va_A [(qO, .inr (0, [.ref qT, .ref qR, .ref qP, .ref qL, .ref qF, .int done, .int brd, .int tup, .int tdn, .ref qOa, .int askd])), (qOa, .inl (cT 0, 149, .inl answ)), (qT, .inr (1, [.ref qTs, .int tlen, .int tpl])), (qTs, .inl (cT 2, 300, .inl tsg)), (qR, .inr (2, [.ref qRs, .int rlen, .int rsz])), (qRs, .inl (cT 2, 300, .inl rsg)), (qP, .inr (3, [.ref qPc, .ref qPl, .ref qPv, .int psz])), (qPc, .inl (cT 0, 12, .inl pcd)), (qPl, .inl (cT 0, 12, .inl pld)), (qPv, .inl (cT 1, 12, .inr (.inl pct))), (qL, .inr (4, [.ref qLj, .int lpr, .int (bI lful)])), (qLj, .inl (cT 0, 10, .inl ljn)), (qF, .inr (5, [.ref qFk, .ref qFf, .ref qFl, .int fsz])), (qFk, .inl (cT 0, 20, .inl fkd)), (qFf, .inl (cT 0, 20, .inl ffr)), (qFl, .inl (cT 0, 20, .inl fto)), (qU, .inl (cT 1, 1, .inr (.inl uout)))] s.heap.size = A at hD hTE ⊢
  have hA : ∀ q : Nat, s.heap.size ≤ q → A q := fun q h => by rw [← hAe]; exact Or.inr h
  have hS : va_S A s.heap s.heap [] := va_S.rf
  have hl := lv_entry ([.ref qO, .int p2, .long p3, .ref qU]) (n := 6) (Nat.le_of_ble_eq_true rfl)
  rw [lg_entry_eq]
  generalize (lg_sl ([.ref qO, .int p2, .long p3, .ref qU]) ++ List.replicate (6 - (lg_sl ([.ref qO, .int p2, .long p3, .ref qU])).length) Slot.unset).toArray = ls at hl ⊢
  have hl : lv_has ls 6 [(0, .ref qO), (1, .int p2), (2, .long p3), (4, .ref qU)] := hl
  have S : CallFix p m c b_Law_verdict 6 s _ TB R_Law := ⟨hx, hb, hml, hown, hts⟩
  unfold m_Law_verdict at hM
  refine lv_aload hx hb d_Law_verdict_0 (lv_at hl 3 rfl) ?_
  refine lv_iconst (v := 0) hx hb d_Law_verdict_2 (by decide) ?_
  refine lv_aload_n hx hb d_Law_verdict_3 rfl (lv_at hl 0 rfl) ?_
  refine lv_iload_n hx hb d_Law_verdict_4 rfl (lv_at hl 1 rfl) ?_
  refine lv_lload_n hx hb d_Law_verdict_5 rfl (lv_at hl 2 rfl) ?_
  rcases bx3T hM with ⟨r_6, askd_6, answ_6, hc_6, hM⟩ | ⟨ee_6, hc_6, hM⟩
  · refine W.widen (k := 1) (n := 6) (Nat.le_of_ble_eq_true rfl) (Nat.le_of_ble_eq_true rfl) ?_
    refine ca_V (As := [.int p2, .long p3]) (rest := [.int 0, .ref qU]) (wr := [(qU, .inl (cT 1, 1, .inr (.inl uout)))]) (w2 := [(qO, .inr (0, [.ref qT, .ref qR, .ref qP, .ref qL, .ref qF, .int done, .int brd, .int tup, .int tdn, .ref qOa, .int askd_6])), (qOa, .inl (cT 0, 149, .inl answ_6)), (qT, .inr (1, [.ref qTs, .int tlen, .int tpl])), (qTs, .inl (cT 2, 300, .inl tsg)), (qR, .inr (2, [.ref qRs, .int rlen, .int rsz])), (qRs, .inl (cT 2, 300, .inl rsg)), (qP, .inr (3, [.ref qPc, .ref qPl, .ref qPv, .int psz])), (qPc, .inl (cT 0, 12, .inl pcd)), (qPl, .inl (cT 0, 12, .inl pld)), (qPv, .inl (cT 1, 12, .inr (.inl pct))), (qL, .inr (4, [.ref qLj, .int lpr, .int (bI lful)])), (qLj, .inl (cT 0, 10, .inl ljn)), (qF, .inr (5, [.ref qFk, .ref qFf, .ref qFl, .int fsz])), (qFk, .inl (cT 0, 20, .inl fkd)), (qFf, .inl (cT 0, 20, .inl ffr)), (qFl, .inl (cT 0, 20, .inl fto)), (qU, .inl (cT 1, 1, .inr (.inl uout)))]) S hE (c_Or_verdict l D cT qO qOa qT qTs qR qRs qP qPc qPl qPv qL qLj qF qFk qFf qFl done brd tup tdn askd answ tlen tpl tsg rlen rsz rsg psz pcd pld pct lpr lful ljn fsz fkd ffr fto p2 p3 hc_6) gw_11937614 rfl rfl ⟨Nat.le_of_ble_eq_true rfl, Nat.le_of_ble_eq_true rfl⟩ (ci := 0) rfl rfl (k0 := 0) rfl rfl hl.1 rfl (Nat.le_of_ble_eq_true rfl) d_Law_verdict_6 ⟨Nat.le_of_ble_eq_true rfl, Nat.le_of_ble_eq_true rfl⟩ hP hD hS hA [0, 1, 2, 3, 4, 5, 6, 7, 8, 9, 10, 11, 12, 13, 14, 15] [16] [1, 2, 3, 4, 5, 6, 7, 8, 9, 10, 11, 12, 13, 14, 15, 16, 0] rfl rfl (by decide) (by decide) rfl (by decide) (by decide) (fun H locs hP hD hS => ?_)
    refine lv_i2l hx hb d_Law_verdict_9 rfl ?_
    obtain ⟨hin_10, hM⟩ := ixT hM
    refine va_last hx hb hK hP hD hS 16 1 rfl rfl hin_10 d_Law_verdict_10 (fun H locs hP hD hS => ?_)
    have hP : va_P D classes [(qO, .inr (0, [.ref qT, .ref qR, .ref qP, .ref qL, .ref qF, .int done, .int brd, .int tup, .int tdn, .ref qOa, .int askd_6])), (qOa, .inl (cT 0, 149, .inl answ_6)), (qT, .inr (1, [.ref qTs, .int tlen, .int tpl])), (qTs, .inl (cT 2, 300, .inl tsg)), (qR, .inr (2, [.ref qRs, .int rlen, .int rsz])), (qRs, .inl (cT 2, 300, .inl rsg)), (qP, .inr (3, [.ref qPc, .ref qPl, .ref qPv, .int psz])), (qPc, .inl (cT 0, 12, .inl pcd)), (qPl, .inl (cT 0, 12, .inl pld)), (qPv, .inl (cT 1, 12, .inr (.inl pct))), (qL, .inr (4, [.ref qLj, .int lpr, .int (bI lful)])), (qLj, .inl (cT 0, 10, .inl ljn)), (qF, .inr (5, [.ref qFk, .ref qFf, .ref qFl, .int fsz])), (qFk, .inl (cT 0, 20, .inl fkd)), (qFf, .inl (cT 0, 20, .inl ffr)), (qFl, .inl (cT 0, 20, .inl fto)), (qU, .inl (cT 1, 1, .inr (.inl (vp_updL uout (0 : Int32).toNatClampNeg ((r_6).toInt64)))))] H := hP
    have hD : va_D A [(qO, .inr (0, [.ref qT, .ref qR, .ref qP, .ref qL, .ref qF, .int done, .int brd, .int tup, .int tdn, .ref qOa, .int askd_6])), (qOa, .inl (cT 0, 149, .inl answ_6)), (qT, .inr (1, [.ref qTs, .int tlen, .int tpl])), (qTs, .inl (cT 2, 300, .inl tsg)), (qR, .inr (2, [.ref qRs, .int rlen, .int rsz])), (qRs, .inl (cT 2, 300, .inl rsg)), (qP, .inr (3, [.ref qPc, .ref qPl, .ref qPv, .int psz])), (qPc, .inl (cT 0, 12, .inl pcd)), (qPl, .inl (cT 0, 12, .inl pld)), (qPv, .inl (cT 1, 12, .inr (.inl pct))), (qL, .inr (4, [.ref qLj, .int lpr, .int (bI lful)])), (qLj, .inl (cT 0, 10, .inl ljn)), (qF, .inr (5, [.ref qFk, .ref qFf, .ref qFl, .int fsz])), (qFk, .inl (cT 0, 20, .inl fkd)), (qFf, .inl (cT 0, 20, .inl ffr)), (qFl, .inl (cT 0, 20, .inl fto)), (qU, .inl (cT 1, 1, .inr (.inl (vp_updL uout (0 : Int32).toNatClampNeg ((r_6).toInt64)))))] := hD
    refine lv_goto (tgt := 18) hx hb d_Law_verdict_11 (by decide) ?_
    refine lv_iconst (v := 0) hx hb d_Law_verdict_18 (by decide) ?_
    obtain ⟨eo0, eo1, eo2, eo3⟩ := so4T hM
    subst eo0
    subst eo1
    subst eo2
    subst eo3
    exact rt_i S hr hlocks hP hD hS d_Law_verdict_19
  · by_cases he_6_0 : ee_6 = 0
    · have hM := itT hM he_6_0
      subst he_6_0
      refine ex_tryV (As := [.int p2, .long p3]) (rest := [.int 0, .ref qU]) S hE hTE (x_Or_verdict l hl0 D cT qO qOa qT qTs qR qRs qP qPc qPl qPv qL qLj qF qFk qFf qFl done brd tup tdn askd answ tlen tpl tsg rlen rsz rsg psz pcd pld pct lpr lful ljn fsz fkd ffr fto p2 p3 hc_6) gw_11937614 rfl rfl ⟨Nat.le_of_ble_eq_true rfl, Nat.le_of_ble_eq_true rfl⟩ (ci := 0) rfl rfl (k0 := 0) rfl rfl hl.1 rfl (Nat.le_of_ble_eq_true rfl) d_Law_verdict_6 ⟨Nat.le_of_ble_eq_true rfl, Nat.le_of_ble_eq_true rfl⟩ hP hD hS hA [0, 1, 2, 3, 4, 5, 6, 7, 8, 9, 10, 11, 12, 13, 14, 15] rfl (by decide) (fun H q9 ce hP hS hce hcv hcl => ?_)
      refine ex_catch1 (own := R_Law) (name := "java/lang/IllegalArgumentException") (E := "java/lang/IllegalArgumentException") hown ⟨0, 11, 14, 13⟩ [] (by rw [hTab]; rfl) (by decide) (by decide) (hts _ iw_c2c9bcb9) (va_Nw.use rfl (hTE.1 _ xl_0)) hce hcv hcl ?_
      refine lv_astore (lv' := [(5, .ref q9), (0, .ref qO), (1, .int p2), (2, .long p3), (4, .ref qU)]) hx hb d_Law_verdict_14 hl (by decide) rfl (fun ls hl => ?_)
      refine lv_iconst (v := 1) hx hb d_Law_verdict_16 (by decide) ?_
      obtain ⟨eo0, eo1, eo2, eo3⟩ := so4T hM
      subst eo0
      subst eo1
      subst eo2
      subst eo3
      exact rt_i S hr hlocks hP hD hS d_Law_verdict_17
    · have hM := itF hM he_6_0
      cases hM
def m_Law_share (p2 : Int64) (p3 : Int32) (psz : Int32) (pld : Nat → Int32) (pct : Nat → Int64) (lful : Bool) (ljn : Nat → Int32) (uout : Nat → Int64) : Option (Int32 × (Nat → Int64)) :=
    bx1 (m_Or_share p2 p3 psz pld pct lful ljn) (fun ee_6 =>
    if ee_6 = 0 then (
    some (1, uout))
    else if ee_6 = 2 then (
    some (2, uout))
    else none) (fun r_6 =>
    ixg 0 1 (
    some (0, vp_updL uout (0 : Int32).toNatClampNeg r_6)))
def rm_Law_share : Room := { frames := 7, cells := 1, slots := 6, locals := 127 }
set_option maxHeartbeats 4000000 in
set_option maxRecDepth 100000 in
theorem c_Law_share (l : Launch) (hl0 : l.stackTraces = false) (D : va_G) (cT : Nat → ClassId) (qO : Nat) (qOa : Nat) (qT : Nat) (qTs : Nat) (qR : Nat) (qRs : Nat) (qP : Nat) (qPc : Nat) (qPl : Nat) (qPv : Nat) (qL : Nat) (qLj : Nat) (qF : Nat) (qFk : Nat) (qFf : Nat) (qFl : Nat) (qU : Nat) (done : Int32) (brd : Int32) (tup : Int32) (tdn : Int32) (askd : Int32) (answ : Nat → Int32) (tlen : Int32) (tpl : Int32) (tsg : Nat → Int32) (rlen : Int32) (rsz : Int32) (rsg : Nat → Int32) (psz : Int32) (pcd : Nat → Int32) (pld : Nat → Int32) (pct : Nat → Int64) (lpr : Int32) (lful : Bool) (ljn : Nat → Int32) (fsz : Int32) (fkd : Nat → Int32) (ffr : Nat → Int32) (fto : Nat → Int32) (uout : Nat → Int64) (p2 : Int64) (p3 : Int32) {rr : Int32} {o_uout : Nat → Int64} (hM : m_Law_share p2 p3 psz pld pct lful ljn uout = some (rr, o_uout)) : CtH l y_Law_share (WH y_Law_share b_Law_share 6 (some .int) [(0, 10, 13, 13), (0, 10, 17, 29)]) rm_Law_share D cT [.ref qO, .long p2, .int p3, .ref qU] [(qO, .inr (0, [.ref qT, .ref qR, .ref qP, .ref qL, .ref qF, .int done, .int brd, .int tup, .int tdn, .ref qOa, .int askd])), (qOa, .inl (cT 0, 149, .inl answ)), (qT, .inr (1, [.ref qTs, .int tlen, .int tpl])), (qTs, .inl (cT 2, 300, .inl tsg)), (qR, .inr (2, [.ref qRs, .int rlen, .int rsz])), (qRs, .inl (cT 2, 300, .inl rsg)), (qP, .inr (3, [.ref qPc, .ref qPl, .ref qPv, .int psz])), (qPc, .inl (cT 0, 12, .inl pcd)), (qPl, .inl (cT 0, 12, .inl pld)), (qPv, .inl (cT 1, 12, .inr (.inl pct))), (qL, .inr (4, [.ref qLj, .int lpr, .int (bI lful)])), (qLj, .inl (cT 0, 10, .inl ljn)), (qF, .inr (5, [.ref qFk, .ref qFf, .ref qFl, .int fsz])), (qFk, .inl (cT 0, 20, .inl fkd)), (qFf, .inl (cT 0, 20, .inl ffr)), (qFl, .inl (cT 0, 20, .inl fto)), (qU, .inl (cT 1, 1, .inr (.inl uout)))] (some (.int rr)) [(qO, .inr (0, [.ref qT, .ref qR, .ref qP, .ref qL, .ref qF, .int done, .int brd, .int tup, .int tdn, .ref qOa, .int askd])), (qOa, .inl (cT 0, 149, .inl answ)), (qT, .inr (1, [.ref qTs, .int tlen, .int tpl])), (qTs, .inl (cT 2, 300, .inl tsg)), (qR, .inr (2, [.ref qRs, .int rlen, .int rsz])), (qRs, .inl (cT 2, 300, .inl rsg)), (qP, .inr (3, [.ref qPc, .ref qPl, .ref qPv, .int psz])), (qPc, .inl (cT 0, 12, .inl pcd)), (qPl, .inl (cT 0, 12, .inl pld)), (qPv, .inl (cT 1, 12, .inr (.inl pct))), (qL, .inr (4, [.ref qLj, .int lpr, .int (bI lful)])), (qLj, .inl (cT 0, 10, .inl ljn)), (qF, .inr (5, [.ref qFk, .ref qFf, .ref qFl, .int fsz])), (qFk, .inl (cT 0, 20, .inl fkd)), (qFf, .inl (cT 0, 20, .inl ffr)), (qFl, .inl (cT 0, 20, .inl fto)), (qU, .inl (cT 1, 1, .inr (.inl o_uout)))] 1 6 := by
  intro sz
  refine va_MetW (cc := b_Law_share) (maxL := 6) (ret := (some .int)) (hh := [(0, 10, 13, 13), (0, 10, 17, 29)]) (by decide) rfl ?_
  intro p e s m args below meth c s₁ B hml hv
  obtain ⟨rfl, hsz, hP, hE, hD0, hTE, hNc⟩ := hv
  have hx := B.exec
  have hb := B.bytes
  have hr := B.returns
  have hTab := tab_of B (atoms_spec (ws := WH y_Law_share b_Law_share 6 (some .int) [(0, 10, 13, 13), (0, 10, 17, 29)]) B.pre _ List.mem_cons_self)
  have hts : ∀ w ∈ TB, w.before _ s = true := fun w h => atoms_spec (ws := WH y_Law_share b_Law_share 6 (some .int) [(0, 10, 13, 13), (0, 10, 17, 29)]) B.pre w (List.mem_cons_of_mem _ h)
  have hown : s.vm.findClass R_Law = some m.cls := findClass_of_methodNamed B.named
  have hlocks := B.notSynchronized
  have hK := hE.1
  have hN := hE.2
  subst hsz
  have hD := hD0.self (sz := s.heap.size)
  generalize hAe : va_A [(qO, .inr (0, [.ref qT, .ref qR, .ref qP, .ref qL, .ref qF, .int done, .int brd, .int tup, .int tdn, .ref qOa, .int askd])), (qOa, .inl (cT 0, 149, .inl answ)), (qT, .inr (1, [.ref qTs, .int tlen, .int tpl])), (qTs, .inl (cT 2, 300, .inl tsg)), (qR, .inr (2, [.ref qRs, .int rlen, .int rsz])), (qRs, .inl (cT 2, 300, .inl rsg)), (qP, .inr (3, [.ref qPc, .ref qPl, .ref qPv, .int psz])), (qPc, .inl (cT 0, 12, .inl pcd)), (qPl, .inl (cT 0, 12, .inl pld)), (qPv, .inl (cT 1, 12, .inr (.inl pct))), (qL, .inr (4, [.ref qLj, .int lpr, .int (bI lful)])), (qLj, .inl (cT 0, 10, .inl ljn)), (qF, .inr (5, [.ref qFk, .ref qFf, .ref qFl, .int fsz])), (qFk, .inl (cT 0, 20, .inl fkd)), (qFf, .inl (cT 0, 20, .inl ffr)), (qFl, .inl (cT 0, 20, .inl fto)), (qU, .inl (cT 1, 1, .inr (.inl uout)))] s.heap.size = A at hD hTE ⊢
  have hA : ∀ q : Nat, s.heap.size ≤ q → A q := fun q h => by rw [← hAe]; exact Or.inr h
  have hS : va_S A s.heap s.heap [] := va_S.rf
  have hl := lv_entry ([.ref qO, .long p2, .int p3, .ref qU]) (n := 6) (Nat.le_of_ble_eq_true rfl)
  rw [lg_entry_eq]
  generalize (lg_sl ([.ref qO, .long p2, .int p3, .ref qU]) ++ List.replicate (6 - (lg_sl ([.ref qO, .long p2, .int p3, .ref qU])).length) Slot.unset).toArray = ls at hl ⊢
  have hl : lv_has ls 6 [(0, .ref qO), (1, .long p2), (3, .int p3), (4, .ref qU)] := hl
  have S : CallFix p m c b_Law_share 6 s _ TB R_Law := ⟨hx, hb, hml, hown, hts⟩
  unfold m_Law_share at hM
  refine lv_aload hx hb d_Law_share_0 (lv_at hl 3 rfl) ?_
  refine lv_iconst (v := 0) hx hb d_Law_share_2 (by decide) ?_
  refine lv_aload_n hx hb d_Law_share_3 rfl (lv_at hl 0 rfl) ?_
  refine lv_lload_n hx hb d_Law_share_4 rfl (lv_at hl 1 rfl) ?_
  refine lv_iload_n hx hb d_Law_share_5 rfl (lv_at hl 2 rfl) ?_
  rcases bx1T hM with ⟨r_6, hc_6, hM⟩ | ⟨ee_6, hc_6, hM⟩
  · refine W.widen (k := 1) (n := 6) (Nat.le_of_ble_eq_true rfl) (Nat.le_of_ble_eq_true rfl) ?_
    refine ca_V (As := [.long p2, .int p3]) (rest := [.int 0, .ref qU]) (wr := [(qU, .inl (cT 1, 1, .inr (.inl uout)))]) (w2 := [(qO, .inr (0, [.ref qT, .ref qR, .ref qP, .ref qL, .ref qF, .int done, .int brd, .int tup, .int tdn, .ref qOa, .int askd])), (qOa, .inl (cT 0, 149, .inl answ)), (qT, .inr (1, [.ref qTs, .int tlen, .int tpl])), (qTs, .inl (cT 2, 300, .inl tsg)), (qR, .inr (2, [.ref qRs, .int rlen, .int rsz])), (qRs, .inl (cT 2, 300, .inl rsg)), (qP, .inr (3, [.ref qPc, .ref qPl, .ref qPv, .int psz])), (qPc, .inl (cT 0, 12, .inl pcd)), (qPl, .inl (cT 0, 12, .inl pld)), (qPv, .inl (cT 1, 12, .inr (.inl pct))), (qL, .inr (4, [.ref qLj, .int lpr, .int (bI lful)])), (qLj, .inl (cT 0, 10, .inl ljn)), (qF, .inr (5, [.ref qFk, .ref qFf, .ref qFl, .int fsz])), (qFk, .inl (cT 0, 20, .inl fkd)), (qFf, .inl (cT 0, 20, .inl ffr)), (qFl, .inl (cT 0, 20, .inl fto)), (qU, .inl (cT 1, 1, .inr (.inl uout)))]) S hE (c_Or_share l D cT qO qOa qT qTs qR qRs qP qPc qPl qPv qL qLj qF qFk qFf qFl done brd tup tdn askd answ tlen tpl tsg rlen rsz rsg psz pcd pld pct lpr lful ljn fsz fkd ffr fto p2 p3 hc_6) gw_ad42f523 rfl rfl ⟨Nat.le_of_ble_eq_true rfl, Nat.le_of_ble_eq_true rfl⟩ (ci := 0) rfl rfl (k0 := 0) rfl rfl hl.1 rfl (Nat.le_of_ble_eq_true rfl) d_Law_share_6 ⟨Nat.le_of_ble_eq_true rfl, Nat.le_of_ble_eq_true rfl⟩ hP hD hS hA [0, 1, 2, 3, 4, 5, 6, 7, 8, 9, 10, 11, 12, 13, 14, 15] [16] [1, 2, 3, 4, 5, 6, 7, 8, 9, 10, 11, 12, 13, 14, 15, 16, 0] rfl rfl (by decide) (by decide) rfl (by decide) (by decide) (fun H locs hP hD hS => ?_)
    obtain ⟨hin_9, hM⟩ := ixT hM
    refine va_last hx hb hK hP hD hS 16 1 rfl rfl hin_9 d_Law_share_9 (fun H locs hP hD hS => ?_)
    have hP : va_P D classes [(qO, .inr (0, [.ref qT, .ref qR, .ref qP, .ref qL, .ref qF, .int done, .int brd, .int tup, .int tdn, .ref qOa, .int askd])), (qOa, .inl (cT 0, 149, .inl answ)), (qT, .inr (1, [.ref qTs, .int tlen, .int tpl])), (qTs, .inl (cT 2, 300, .inl tsg)), (qR, .inr (2, [.ref qRs, .int rlen, .int rsz])), (qRs, .inl (cT 2, 300, .inl rsg)), (qP, .inr (3, [.ref qPc, .ref qPl, .ref qPv, .int psz])), (qPc, .inl (cT 0, 12, .inl pcd)), (qPl, .inl (cT 0, 12, .inl pld)), (qPv, .inl (cT 1, 12, .inr (.inl pct))), (qL, .inr (4, [.ref qLj, .int lpr, .int (bI lful)])), (qLj, .inl (cT 0, 10, .inl ljn)), (qF, .inr (5, [.ref qFk, .ref qFf, .ref qFl, .int fsz])), (qFk, .inl (cT 0, 20, .inl fkd)), (qFf, .inl (cT 0, 20, .inl ffr)), (qFl, .inl (cT 0, 20, .inl fto)), (qU, .inl (cT 1, 1, .inr (.inl (vp_updL uout (0 : Int32).toNatClampNeg r_6))))] H := hP
    have hD : va_D A [(qO, .inr (0, [.ref qT, .ref qR, .ref qP, .ref qL, .ref qF, .int done, .int brd, .int tup, .int tdn, .ref qOa, .int askd])), (qOa, .inl (cT 0, 149, .inl answ)), (qT, .inr (1, [.ref qTs, .int tlen, .int tpl])), (qTs, .inl (cT 2, 300, .inl tsg)), (qR, .inr (2, [.ref qRs, .int rlen, .int rsz])), (qRs, .inl (cT 2, 300, .inl rsg)), (qP, .inr (3, [.ref qPc, .ref qPl, .ref qPv, .int psz])), (qPc, .inl (cT 0, 12, .inl pcd)), (qPl, .inl (cT 0, 12, .inl pld)), (qPv, .inl (cT 1, 12, .inr (.inl pct))), (qL, .inr (4, [.ref qLj, .int lpr, .int (bI lful)])), (qLj, .inl (cT 0, 10, .inl ljn)), (qF, .inr (5, [.ref qFk, .ref qFf, .ref qFl, .int fsz])), (qFk, .inl (cT 0, 20, .inl fkd)), (qFf, .inl (cT 0, 20, .inl ffr)), (qFl, .inl (cT 0, 20, .inl fto)), (qU, .inl (cT 1, 1, .inr (.inl (vp_updL uout (0 : Int32).toNatClampNeg r_6))))] := hD
    refine lv_goto (tgt := 21) hx hb d_Law_share_10 (by decide) ?_
    refine lv_iconst (v := 0) hx hb d_Law_share_21 (by decide) ?_
    obtain ⟨eo0, eo1⟩ := so2T hM
    subst eo0
    subst eo1
    exact rt_i S hr hlocks hP hD hS d_Law_share_22
  · by_cases he_6_0 : ee_6 = 0
    · have hM := itT hM he_6_0
      subst he_6_0
      refine ex_tryV (As := [.long p2, .int p3]) (rest := [.int 0, .ref qU]) S hE hTE (x_Or_share l hl0 D cT qO qOa qT qTs qR qRs qP qPc qPl qPv qL qLj qF qFk qFf qFl done brd tup tdn askd answ tlen tpl tsg rlen rsz rsg psz pcd pld pct lpr lful ljn fsz fkd ffr fto p2 p3 hc_6) gw_ad42f523 rfl rfl ⟨Nat.le_of_ble_eq_true rfl, Nat.le_of_ble_eq_true rfl⟩ (ci := 0) rfl rfl (k0 := 0) rfl rfl hl.1 rfl (Nat.le_of_ble_eq_true rfl) d_Law_share_6 ⟨Nat.le_of_ble_eq_true rfl, Nat.le_of_ble_eq_true rfl⟩ hP hD hS hA [0, 1, 2, 3, 4, 5, 6, 7, 8, 9, 10, 11, 12, 13, 14, 15] rfl (by decide) (fun H q9 ce hP hS hce hcv hcl => ?_)
      refine ex_catch1 (own := R_Law) (name := "java/lang/IllegalArgumentException") (E := "java/lang/IllegalArgumentException") hown ⟨0, 10, 13, 13⟩ [⟨0, 10, 17, 29⟩] (by rw [hTab]; rfl) (by decide) (by decide) (hts _ iw_c2c9bcb9) (va_Nw.use rfl (hTE.1 _ xl_0)) hce hcv hcl ?_
      refine lv_astore (lv' := [(5, .ref q9), (0, .ref qO), (1, .long p2), (3, .int p3), (4, .ref qU)]) hx hb d_Law_share_13 hl (by decide) rfl (fun ls hl => ?_)
      refine lv_iconst (v := 1) hx hb d_Law_share_15 (by decide) ?_
      obtain ⟨eo0, eo1⟩ := so2T hM
      subst eo0
      subst eo1
      exact rt_i S hr hlocks hP hD hS d_Law_share_16
    · have hM := itF hM he_6_0
      by_cases he_6_2 : ee_6 = 2
      · have hM := itT hM he_6_2
        subst he_6_2
        refine ex_tryV (As := [.long p2, .int p3]) (rest := [.int 0, .ref qU]) S hE hTE (x_Or_share l hl0 D cT qO qOa qT qTs qR qRs qP qPc qPl qPv qL qLj qF qFk qFf qFl done brd tup tdn askd answ tlen tpl tsg rlen rsz rsg psz pcd pld pct lpr lful ljn fsz fkd ffr fto p2 p3 hc_6) gw_ad42f523 rfl rfl ⟨Nat.le_of_ble_eq_true rfl, Nat.le_of_ble_eq_true rfl⟩ (ci := 0) rfl rfl (k0 := 0) rfl rfl hl.1 rfl (Nat.le_of_ble_eq_true rfl) d_Law_share_6 ⟨Nat.le_of_ble_eq_true rfl, Nat.le_of_ble_eq_true rfl⟩ hP hD hS hA [0, 1, 2, 3, 4, 5, 6, 7, 8, 9, 10, 11, 12, 13, 14, 15] rfl (by decide) (fun H q9 ce hP hS hce hcv hcl => ?_)
        refine ex_catch2 (own := R_Law) (name := "java/lang/ArithmeticException") (other := "java/lang/IllegalArgumentException") (E := "java/lang/ArithmeticException") hown ⟨0, 10, 13, 13⟩ ⟨0, 10, 17, 29⟩ [] (by rw [hTab]; rfl) (by decide) (by decide) (by decide) (by decide) (hts _ iw_c2c9bcb9) (hNc "java/lang/ArithmeticException" "java/lang/IllegalArgumentException" nc_1) (hts _ iw_1406e3bb) (va_Nw.use rfl (hTE.1 _ xl_2)) hce hcv hcl ?_
        refine lv_astore (lv' := [(5, .ref q9), (0, .ref qO), (1, .long p2), (3, .int p3), (4, .ref qU)]) hx hb d_Law_share_17 hl (by decide) rfl (fun ls hl => ?_)
        refine lv_iconst (v := 2) hx hb d_Law_share_19 (by decide) ?_
        obtain ⟨eo0, eo1⟩ := so2T hM
        subst eo0
        subst eo1
        exact rt_i S hr hlocks hP hD hS d_Law_share_20
      · have hM := itF hM he_6_2
        cases hM
def m_Law_proof (p2 : Int32) (p3 : Int32) (p4 : Int32) (fsz : Int32) (fkd : Nat → Int32) (ffr : Nat → Int32) (fto : Nat → Int32) (uout : Nat → Int64) : Option (Int32 × Int32 × (Nat → Int32) × (Nat → Int32) × (Nat → Int32) × (Nat → Int64)) :=
    bx5 (m_Or_proof p2 p3 p4 fsz fkd ffr fto) (fun ee_7 =>
    if ee_7 = 0 then (
    some (1, fsz, fkd, ffr, fto, uout))
    else if ee_7 = 1 then (
    some (2, fsz, fkd, ffr, fto, uout))
    else none) (fun r_7 fsz_7 fkd_7 ffr_7 fto_7 =>
    ixg 0 1 (
    some (0, fsz_7, fkd_7, ffr_7, fto_7, vp_updL uout (0 : Int32).toNatClampNeg ((r_7).toInt64))))
def rm_Law_proof : Room := { frames := 7, cells := 1, slots := 6, locals := 123 }
set_option maxHeartbeats 4000000 in
set_option maxRecDepth 100000 in
theorem c_Law_proof (l : Launch) (hl0 : l.stackTraces = false) (D : va_G) (cT : Nat → ClassId) (qO : Nat) (qOa : Nat) (qT : Nat) (qTs : Nat) (qR : Nat) (qRs : Nat) (qP : Nat) (qPc : Nat) (qPl : Nat) (qPv : Nat) (qL : Nat) (qLj : Nat) (qF : Nat) (qFk : Nat) (qFf : Nat) (qFl : Nat) (qU : Nat) (done : Int32) (brd : Int32) (tup : Int32) (tdn : Int32) (askd : Int32) (answ : Nat → Int32) (tlen : Int32) (tpl : Int32) (tsg : Nat → Int32) (rlen : Int32) (rsz : Int32) (rsg : Nat → Int32) (psz : Int32) (pcd : Nat → Int32) (pld : Nat → Int32) (pct : Nat → Int64) (lpr : Int32) (lful : Bool) (ljn : Nat → Int32) (fsz : Int32) (fkd : Nat → Int32) (ffr : Nat → Int32) (fto : Nat → Int32) (uout : Nat → Int64) (p2 : Int32) (p3 : Int32) (p4 : Int32) {rr : Int32} {o_fsz : Int32} {o_fkd : Nat → Int32} {o_ffr : Nat → Int32} {o_fto : Nat → Int32} {o_uout : Nat → Int64} (hM : m_Law_proof p2 p3 p4 fsz fkd ffr fto uout = some (rr, o_fsz, o_fkd, o_ffr, o_fto, o_uout)) : CtH l y_Law_proof (WH y_Law_proof b_Law_proof 6 (some .int) [(0, 12, 15, 13), (0, 12, 19, 15)]) rm_Law_proof D cT [.ref qO, .int p2, .int p3, .int p4, .ref qU] [(qO, .inr (0, [.ref qT, .ref qR, .ref qP, .ref qL, .ref qF, .int done, .int brd, .int tup, .int tdn, .ref qOa, .int askd])), (qOa, .inl (cT 0, 149, .inl answ)), (qT, .inr (1, [.ref qTs, .int tlen, .int tpl])), (qTs, .inl (cT 2, 300, .inl tsg)), (qR, .inr (2, [.ref qRs, .int rlen, .int rsz])), (qRs, .inl (cT 2, 300, .inl rsg)), (qP, .inr (3, [.ref qPc, .ref qPl, .ref qPv, .int psz])), (qPc, .inl (cT 0, 12, .inl pcd)), (qPl, .inl (cT 0, 12, .inl pld)), (qPv, .inl (cT 1, 12, .inr (.inl pct))), (qL, .inr (4, [.ref qLj, .int lpr, .int (bI lful)])), (qLj, .inl (cT 0, 10, .inl ljn)), (qF, .inr (5, [.ref qFk, .ref qFf, .ref qFl, .int fsz])), (qFk, .inl (cT 0, 20, .inl fkd)), (qFf, .inl (cT 0, 20, .inl ffr)), (qFl, .inl (cT 0, 20, .inl fto)), (qU, .inl (cT 1, 1, .inr (.inl uout)))] (some (.int rr)) [(qO, .inr (0, [.ref qT, .ref qR, .ref qP, .ref qL, .ref qF, .int done, .int brd, .int tup, .int tdn, .ref qOa, .int askd])), (qOa, .inl (cT 0, 149, .inl answ)), (qT, .inr (1, [.ref qTs, .int tlen, .int tpl])), (qTs, .inl (cT 2, 300, .inl tsg)), (qR, .inr (2, [.ref qRs, .int rlen, .int rsz])), (qRs, .inl (cT 2, 300, .inl rsg)), (qP, .inr (3, [.ref qPc, .ref qPl, .ref qPv, .int psz])), (qPc, .inl (cT 0, 12, .inl pcd)), (qPl, .inl (cT 0, 12, .inl pld)), (qPv, .inl (cT 1, 12, .inr (.inl pct))), (qL, .inr (4, [.ref qLj, .int lpr, .int (bI lful)])), (qLj, .inl (cT 0, 10, .inl ljn)), (qF, .inr (5, [.ref qFk, .ref qFf, .ref qFl, .int o_fsz])), (qFk, .inl (cT 0, 20, .inl o_fkd)), (qFf, .inl (cT 0, 20, .inl o_ffr)), (qFl, .inl (cT 0, 20, .inl o_fto)), (qU, .inl (cT 1, 1, .inr (.inl o_uout)))] 1 6 := by
  intro sz
  refine va_MetW (cc := b_Law_proof) (maxL := 6) (ret := (some .int)) (hh := [(0, 12, 15, 13), (0, 12, 19, 15)]) (by decide) rfl ?_
  intro p e s m args below meth c s₁ B hml hv
  obtain ⟨rfl, hsz, hP, hE, hD0, hTE, hNc⟩ := hv
  have hx := B.exec
  have hb := B.bytes
  have hr := B.returns
  have hTab := tab_of B (atoms_spec (ws := WH y_Law_proof b_Law_proof 6 (some .int) [(0, 12, 15, 13), (0, 12, 19, 15)]) B.pre _ List.mem_cons_self)
  have hts : ∀ w ∈ TB, w.before _ s = true := fun w h => atoms_spec (ws := WH y_Law_proof b_Law_proof 6 (some .int) [(0, 12, 15, 13), (0, 12, 19, 15)]) B.pre w (List.mem_cons_of_mem _ h)
  have hown : s.vm.findClass R_Law = some m.cls := findClass_of_methodNamed B.named
  have hlocks := B.notSynchronized
  have hK := hE.1
  have hN := hE.2
  subst hsz
  have hD := hD0.self (sz := s.heap.size)
  generalize hAe : va_A [(qO, .inr (0, [.ref qT, .ref qR, .ref qP, .ref qL, .ref qF, .int done, .int brd, .int tup, .int tdn, .ref qOa, .int askd])), (qOa, .inl (cT 0, 149, .inl answ)), (qT, .inr (1, [.ref qTs, .int tlen, .int tpl])), (qTs, .inl (cT 2, 300, .inl tsg)), (qR, .inr (2, [.ref qRs, .int rlen, .int rsz])), (qRs, .inl (cT 2, 300, .inl rsg)), (qP, .inr (3, [.ref qPc, .ref qPl, .ref qPv, .int psz])), (qPc, .inl (cT 0, 12, .inl pcd)), (qPl, .inl (cT 0, 12, .inl pld)), (qPv, .inl (cT 1, 12, .inr (.inl pct))), (qL, .inr (4, [.ref qLj, .int lpr, .int (bI lful)])), (qLj, .inl (cT 0, 10, .inl ljn)), (qF, .inr (5, [.ref qFk, .ref qFf, .ref qFl, .int fsz])), (qFk, .inl (cT 0, 20, .inl fkd)), (qFf, .inl (cT 0, 20, .inl ffr)), (qFl, .inl (cT 0, 20, .inl fto)), (qU, .inl (cT 1, 1, .inr (.inl uout)))] s.heap.size = A at hD hTE ⊢
  have hA : ∀ q : Nat, s.heap.size ≤ q → A q := fun q h => by rw [← hAe]; exact Or.inr h
  have hS : va_S A s.heap s.heap [] := va_S.rf
  have hl := lv_entry ([.ref qO, .int p2, .int p3, .int p4, .ref qU]) (n := 6) (Nat.le_of_ble_eq_true rfl)
  rw [lg_entry_eq]
  generalize (lg_sl ([.ref qO, .int p2, .int p3, .int p4, .ref qU]) ++ List.replicate (6 - (lg_sl ([.ref qO, .int p2, .int p3, .int p4, .ref qU])).length) Slot.unset).toArray = ls at hl ⊢
  have hl : lv_has ls 6 [(0, .ref qO), (1, .int p2), (2, .int p3), (3, .int p4), (4, .ref qU)] := hl
  have S : CallFix p m c b_Law_proof 6 s _ TB R_Law := ⟨hx, hb, hml, hown, hts⟩
  unfold m_Law_proof at hM
  refine lv_aload hx hb d_Law_proof_0 (lv_at hl 4 rfl) ?_
  refine lv_iconst (v := 0) hx hb d_Law_proof_2 (by decide) ?_
  refine lv_aload_n hx hb d_Law_proof_3 rfl (lv_at hl 0 rfl) ?_
  refine lv_iload_n hx hb d_Law_proof_4 rfl (lv_at hl 1 rfl) ?_
  refine lv_iload_n hx hb d_Law_proof_5 rfl (lv_at hl 2 rfl) ?_
  refine lv_iload_n hx hb d_Law_proof_6 rfl (lv_at hl 3 rfl) ?_
  rcases bx5T hM with ⟨r_7, fsz_7, fkd_7, ffr_7, fto_7, hc_7, hM⟩ | ⟨ee_7, hc_7, hM⟩
  · refine W.widen (k := 1) (n := 6) (Nat.le_of_ble_eq_true rfl) (Nat.le_of_ble_eq_true rfl) ?_
    refine ca_V (As := [.int p2, .int p3, .int p4]) (rest := [.int 0, .ref qU]) (wr := [(qU, .inl (cT 1, 1, .inr (.inl uout)))]) (w2 := [(qO, .inr (0, [.ref qT, .ref qR, .ref qP, .ref qL, .ref qF, .int done, .int brd, .int tup, .int tdn, .ref qOa, .int askd])), (qOa, .inl (cT 0, 149, .inl answ)), (qT, .inr (1, [.ref qTs, .int tlen, .int tpl])), (qTs, .inl (cT 2, 300, .inl tsg)), (qR, .inr (2, [.ref qRs, .int rlen, .int rsz])), (qRs, .inl (cT 2, 300, .inl rsg)), (qP, .inr (3, [.ref qPc, .ref qPl, .ref qPv, .int psz])), (qPc, .inl (cT 0, 12, .inl pcd)), (qPl, .inl (cT 0, 12, .inl pld)), (qPv, .inl (cT 1, 12, .inr (.inl pct))), (qL, .inr (4, [.ref qLj, .int lpr, .int (bI lful)])), (qLj, .inl (cT 0, 10, .inl ljn)), (qF, .inr (5, [.ref qFk, .ref qFf, .ref qFl, .int fsz_7])), (qFk, .inl (cT 0, 20, .inl fkd_7)), (qFf, .inl (cT 0, 20, .inl ffr_7)), (qFl, .inl (cT 0, 20, .inl fto_7)), (qU, .inl (cT 1, 1, .inr (.inl uout)))]) S hE (c_Or_proof l D cT qO qOa qT qTs qR qRs qP qPc qPl qPv qL qLj qF qFk qFf qFl done brd tup tdn askd answ tlen tpl tsg rlen rsz rsg psz pcd pld pct lpr lful ljn fsz fkd ffr fto p2 p3 p4 hc_7) gw_0f9906c0 rfl rfl ⟨Nat.le_of_ble_eq_true rfl, Nat.le_of_ble_eq_true rfl⟩ (ci := 0) rfl rfl (k0 := 0) rfl rfl hl.1 rfl (Nat.le_of_ble_eq_true rfl) d_Law_proof_7 ⟨Nat.le_of_ble_eq_true rfl, Nat.le_of_ble_eq_true rfl⟩ hP hD hS hA [0, 1, 2, 3, 4, 5, 6, 7, 8, 9, 10, 11, 12, 13, 14, 15] [16] [1, 2, 3, 4, 5, 6, 7, 8, 9, 10, 11, 12, 13, 14, 15, 16, 0] rfl rfl (by decide) (by decide) rfl (by decide) (by decide) (fun H locs hP hD hS => ?_)
    refine lv_i2l hx hb d_Law_proof_10 rfl ?_
    obtain ⟨hin_11, hM⟩ := ixT hM
    refine va_last hx hb hK hP hD hS 16 1 rfl rfl hin_11 d_Law_proof_11 (fun H locs hP hD hS => ?_)
    have hP : va_P D classes [(qO, .inr (0, [.ref qT, .ref qR, .ref qP, .ref qL, .ref qF, .int done, .int brd, .int tup, .int tdn, .ref qOa, .int askd])), (qOa, .inl (cT 0, 149, .inl answ)), (qT, .inr (1, [.ref qTs, .int tlen, .int tpl])), (qTs, .inl (cT 2, 300, .inl tsg)), (qR, .inr (2, [.ref qRs, .int rlen, .int rsz])), (qRs, .inl (cT 2, 300, .inl rsg)), (qP, .inr (3, [.ref qPc, .ref qPl, .ref qPv, .int psz])), (qPc, .inl (cT 0, 12, .inl pcd)), (qPl, .inl (cT 0, 12, .inl pld)), (qPv, .inl (cT 1, 12, .inr (.inl pct))), (qL, .inr (4, [.ref qLj, .int lpr, .int (bI lful)])), (qLj, .inl (cT 0, 10, .inl ljn)), (qF, .inr (5, [.ref qFk, .ref qFf, .ref qFl, .int fsz_7])), (qFk, .inl (cT 0, 20, .inl fkd_7)), (qFf, .inl (cT 0, 20, .inl ffr_7)), (qFl, .inl (cT 0, 20, .inl fto_7)), (qU, .inl (cT 1, 1, .inr (.inl (vp_updL uout (0 : Int32).toNatClampNeg ((r_7).toInt64)))))] H := hP
    have hD : va_D A [(qO, .inr (0, [.ref qT, .ref qR, .ref qP, .ref qL, .ref qF, .int done, .int brd, .int tup, .int tdn, .ref qOa, .int askd])), (qOa, .inl (cT 0, 149, .inl answ)), (qT, .inr (1, [.ref qTs, .int tlen, .int tpl])), (qTs, .inl (cT 2, 300, .inl tsg)), (qR, .inr (2, [.ref qRs, .int rlen, .int rsz])), (qRs, .inl (cT 2, 300, .inl rsg)), (qP, .inr (3, [.ref qPc, .ref qPl, .ref qPv, .int psz])), (qPc, .inl (cT 0, 12, .inl pcd)), (qPl, .inl (cT 0, 12, .inl pld)), (qPv, .inl (cT 1, 12, .inr (.inl pct))), (qL, .inr (4, [.ref qLj, .int lpr, .int (bI lful)])), (qLj, .inl (cT 0, 10, .inl ljn)), (qF, .inr (5, [.ref qFk, .ref qFf, .ref qFl, .int fsz_7])), (qFk, .inl (cT 0, 20, .inl fkd_7)), (qFf, .inl (cT 0, 20, .inl ffr_7)), (qFl, .inl (cT 0, 20, .inl fto_7)), (qU, .inl (cT 1, 1, .inr (.inl (vp_updL uout (0 : Int32).toNatClampNeg ((r_7).toInt64)))))] := hD
    refine lv_goto (tgt := 23) hx hb d_Law_proof_12 (by decide) ?_
    refine lv_iconst (v := 0) hx hb d_Law_proof_23 (by decide) ?_
    obtain ⟨eo0, eo1, eo2, eo3, eo4, eo5⟩ := so6T hM
    subst eo0
    subst eo1
    subst eo2
    subst eo3
    subst eo4
    subst eo5
    exact rt_i S hr hlocks hP hD hS d_Law_proof_24
  · by_cases he_7_0 : ee_7 = 0
    · have hM := itT hM he_7_0
      subst he_7_0
      refine ex_tryV (As := [.int p2, .int p3, .int p4]) (rest := [.int 0, .ref qU]) S hE hTE (x_Or_proof l hl0 D cT qO qOa qT qTs qR qRs qP qPc qPl qPv qL qLj qF qFk qFf qFl done brd tup tdn askd answ tlen tpl tsg rlen rsz rsg psz pcd pld pct lpr lful ljn fsz fkd ffr fto p2 p3 p4 hc_7) gw_0f9906c0 rfl rfl ⟨Nat.le_of_ble_eq_true rfl, Nat.le_of_ble_eq_true rfl⟩ (ci := 0) rfl rfl (k0 := 0) rfl rfl hl.1 rfl (Nat.le_of_ble_eq_true rfl) d_Law_proof_7 ⟨Nat.le_of_ble_eq_true rfl, Nat.le_of_ble_eq_true rfl⟩ hP hD hS hA [0, 1, 2, 3, 4, 5, 6, 7, 8, 9, 10, 11, 12, 13, 14, 15] rfl (by decide) (fun H q9 ce hP hS hce hcv hcl => ?_)
      refine ex_catch1 (own := R_Law) (name := "java/lang/IllegalArgumentException") (E := "java/lang/IllegalArgumentException") hown ⟨0, 12, 15, 13⟩ [⟨0, 12, 19, 15⟩] (by rw [hTab]; rfl) (by decide) (by decide) (hts _ iw_c2c9bcb9) (va_Nw.use rfl (hTE.1 _ xl_0)) hce hcv hcl ?_
      refine lv_astore (lv' := [(5, .ref q9), (0, .ref qO), (1, .int p2), (2, .int p3), (3, .int p4), (4, .ref qU)]) hx hb d_Law_proof_15 hl (by decide) rfl (fun ls hl => ?_)
      refine lv_iconst (v := 1) hx hb d_Law_proof_17 (by decide) ?_
      obtain ⟨eo0, eo1, eo2, eo3, eo4, eo5⟩ := so6T hM
      subst eo0
      subst eo1
      subst eo2
      subst eo3
      subst eo4
      subst eo5
      exact rt_i S hr hlocks hP hD hS d_Law_proof_18
    · have hM := itF hM he_7_0
      by_cases he_7_1 : ee_7 = 1
      · have hM := itT hM he_7_1
        subst he_7_1
        refine ex_tryV (As := [.int p2, .int p3, .int p4]) (rest := [.int 0, .ref qU]) S hE hTE (x_Or_proof l hl0 D cT qO qOa qT qTs qR qRs qP qPc qPl qPv qL qLj qF qFk qFf qFl done brd tup tdn askd answ tlen tpl tsg rlen rsz rsg psz pcd pld pct lpr lful ljn fsz fkd ffr fto p2 p3 p4 hc_7) gw_0f9906c0 rfl rfl ⟨Nat.le_of_ble_eq_true rfl, Nat.le_of_ble_eq_true rfl⟩ (ci := 0) rfl rfl (k0 := 0) rfl rfl hl.1 rfl (Nat.le_of_ble_eq_true rfl) d_Law_proof_7 ⟨Nat.le_of_ble_eq_true rfl, Nat.le_of_ble_eq_true rfl⟩ hP hD hS hA [0, 1, 2, 3, 4, 5, 6, 7, 8, 9, 10, 11, 12, 13, 14, 15] rfl (by decide) (fun H q9 ce hP hS hce hcv hcl => ?_)
        refine ex_catch2 (own := R_Law) (name := "java/lang/IllegalStateException") (other := "java/lang/IllegalArgumentException") (E := "java/lang/IllegalStateException") hown ⟨0, 12, 15, 13⟩ ⟨0, 12, 19, 15⟩ [] (by rw [hTab]; rfl) (by decide) (by decide) (by decide) (by decide) (hts _ iw_c2c9bcb9) (hNc "java/lang/IllegalStateException" "java/lang/IllegalArgumentException" nc_0) (hts _ iw_cd8e4cac) (va_Nw.use rfl (hTE.1 _ xl_1)) hce hcv hcl ?_
        refine lv_astore (lv' := [(5, .ref q9), (0, .ref qO), (1, .int p2), (2, .int p3), (3, .int p4), (4, .ref qU)]) hx hb d_Law_proof_19 hl (by decide) rfl (fun ls hl => ?_)
        refine lv_iconst (v := 2) hx hb d_Law_proof_21 (by decide) ?_
        obtain ⟨eo0, eo1, eo2, eo3, eo4, eo5⟩ := so6T hM
        subst eo0
        subst eo1
        subst eo2
        subst eo3
        subst eo4
        subst eo5
        exact rt_i S hr hlocks hP hD hS d_Law_proof_22
      · have hM := itF hM he_7_1
        cases hM
def m_Law_good (p2 : Int32) (p3 : Int64) (p4 : Int32) (fsz : Int32) (fkd : Nat → Int32) (ffr : Nat → Int32) (fto : Nat → Int32) (uout : Nat → Int64) : Option (Int32 × (Nat → Int64)) :=
    bx1 (m_Or_good p2 p3 p4 fsz fkd ffr fto) (fun ee_8 =>
    if ee_8 = 0 then (
    some (1, uout))
    else none) (fun r_8 =>
    if (bI r_8) = 0 then (
    ixg 0 1 (
    some (0, vp_updL uout (0 : Int32).toNatClampNeg 0)))
    else (
    ixg 0 1 (
    some (0, vp_updL uout (0 : Int32).toNatClampNeg 1))))
def rm_Law_good : Room := { frames := 7, cells := 1, slots := 6, locals := 124 }
set_option maxHeartbeats 4000000 in
set_option maxRecDepth 100000 in
theorem c_Law_good (l : Launch) (hl0 : l.stackTraces = false) (D : va_G) (cT : Nat → ClassId) (qO : Nat) (qOa : Nat) (qT : Nat) (qTs : Nat) (qR : Nat) (qRs : Nat) (qP : Nat) (qPc : Nat) (qPl : Nat) (qPv : Nat) (qL : Nat) (qLj : Nat) (qF : Nat) (qFk : Nat) (qFf : Nat) (qFl : Nat) (qU : Nat) (done : Int32) (brd : Int32) (tup : Int32) (tdn : Int32) (askd : Int32) (answ : Nat → Int32) (tlen : Int32) (tpl : Int32) (tsg : Nat → Int32) (rlen : Int32) (rsz : Int32) (rsg : Nat → Int32) (psz : Int32) (pcd : Nat → Int32) (pld : Nat → Int32) (pct : Nat → Int64) (lpr : Int32) (lful : Bool) (ljn : Nat → Int32) (fsz : Int32) (fkd : Nat → Int32) (ffr : Nat → Int32) (fto : Nat → Int32) (uout : Nat → Int64) (p2 : Int32) (p3 : Int64) (p4 : Int32) {rr : Int32} {o_uout : Nat → Int64} (hM : m_Law_good p2 p3 p4 fsz fkd ffr fto uout = some (rr, o_uout)) : CtH l y_Law_good (WH y_Law_good b_Law_good 7 (some .int) [(0, 20, 23, 13)]) rm_Law_good D cT [.ref qO, .int p2, .long p3, .int p4, .ref qU] [(qO, .inr (0, [.ref qT, .ref qR, .ref qP, .ref qL, .ref qF, .int done, .int brd, .int tup, .int tdn, .ref qOa, .int askd])), (qOa, .inl (cT 0, 149, .inl answ)), (qT, .inr (1, [.ref qTs, .int tlen, .int tpl])), (qTs, .inl (cT 2, 300, .inl tsg)), (qR, .inr (2, [.ref qRs, .int rlen, .int rsz])), (qRs, .inl (cT 2, 300, .inl rsg)), (qP, .inr (3, [.ref qPc, .ref qPl, .ref qPv, .int psz])), (qPc, .inl (cT 0, 12, .inl pcd)), (qPl, .inl (cT 0, 12, .inl pld)), (qPv, .inl (cT 1, 12, .inr (.inl pct))), (qL, .inr (4, [.ref qLj, .int lpr, .int (bI lful)])), (qLj, .inl (cT 0, 10, .inl ljn)), (qF, .inr (5, [.ref qFk, .ref qFf, .ref qFl, .int fsz])), (qFk, .inl (cT 0, 20, .inl fkd)), (qFf, .inl (cT 0, 20, .inl ffr)), (qFl, .inl (cT 0, 20, .inl fto)), (qU, .inl (cT 1, 1, .inr (.inl uout)))] (some (.int rr)) [(qO, .inr (0, [.ref qT, .ref qR, .ref qP, .ref qL, .ref qF, .int done, .int brd, .int tup, .int tdn, .ref qOa, .int askd])), (qOa, .inl (cT 0, 149, .inl answ)), (qT, .inr (1, [.ref qTs, .int tlen, .int tpl])), (qTs, .inl (cT 2, 300, .inl tsg)), (qR, .inr (2, [.ref qRs, .int rlen, .int rsz])), (qRs, .inl (cT 2, 300, .inl rsg)), (qP, .inr (3, [.ref qPc, .ref qPl, .ref qPv, .int psz])), (qPc, .inl (cT 0, 12, .inl pcd)), (qPl, .inl (cT 0, 12, .inl pld)), (qPv, .inl (cT 1, 12, .inr (.inl pct))), (qL, .inr (4, [.ref qLj, .int lpr, .int (bI lful)])), (qLj, .inl (cT 0, 10, .inl ljn)), (qF, .inr (5, [.ref qFk, .ref qFf, .ref qFl, .int fsz])), (qFk, .inl (cT 0, 20, .inl fkd)), (qFf, .inl (cT 0, 20, .inl ffr)), (qFl, .inl (cT 0, 20, .inl fto)), (qU, .inl (cT 1, 1, .inr (.inl o_uout)))] 1 6 := by
  intro sz
  refine va_MetW (cc := b_Law_good) (maxL := 7) (ret := (some .int)) (hh := [(0, 20, 23, 13)]) (by decide) rfl ?_
  intro p e s m args below meth c s₁ B hml hv
  obtain ⟨rfl, hsz, hP, hE, hD0, hTE, hNc⟩ := hv
  have hx := B.exec
  have hb := B.bytes
  have hr := B.returns
  have hTab := tab_of B (atoms_spec (ws := WH y_Law_good b_Law_good 7 (some .int) [(0, 20, 23, 13)]) B.pre _ List.mem_cons_self)
  have hts : ∀ w ∈ TB, w.before _ s = true := fun w h => atoms_spec (ws := WH y_Law_good b_Law_good 7 (some .int) [(0, 20, 23, 13)]) B.pre w (List.mem_cons_of_mem _ h)
  have hown : s.vm.findClass R_Law = some m.cls := findClass_of_methodNamed B.named
  have hlocks := B.notSynchronized
  have hK := hE.1
  have hN := hE.2
  subst hsz
  have hD := hD0.self (sz := s.heap.size)
  generalize hAe : va_A [(qO, .inr (0, [.ref qT, .ref qR, .ref qP, .ref qL, .ref qF, .int done, .int brd, .int tup, .int tdn, .ref qOa, .int askd])), (qOa, .inl (cT 0, 149, .inl answ)), (qT, .inr (1, [.ref qTs, .int tlen, .int tpl])), (qTs, .inl (cT 2, 300, .inl tsg)), (qR, .inr (2, [.ref qRs, .int rlen, .int rsz])), (qRs, .inl (cT 2, 300, .inl rsg)), (qP, .inr (3, [.ref qPc, .ref qPl, .ref qPv, .int psz])), (qPc, .inl (cT 0, 12, .inl pcd)), (qPl, .inl (cT 0, 12, .inl pld)), (qPv, .inl (cT 1, 12, .inr (.inl pct))), (qL, .inr (4, [.ref qLj, .int lpr, .int (bI lful)])), (qLj, .inl (cT 0, 10, .inl ljn)), (qF, .inr (5, [.ref qFk, .ref qFf, .ref qFl, .int fsz])), (qFk, .inl (cT 0, 20, .inl fkd)), (qFf, .inl (cT 0, 20, .inl ffr)), (qFl, .inl (cT 0, 20, .inl fto)), (qU, .inl (cT 1, 1, .inr (.inl uout)))] s.heap.size = A at hD hTE ⊢
  have hA : ∀ q : Nat, s.heap.size ≤ q → A q := fun q h => by rw [← hAe]; exact Or.inr h
  have hS : va_S A s.heap s.heap [] := va_S.rf
  have hl := lv_entry ([.ref qO, .int p2, .long p3, .int p4, .ref qU]) (n := 7) (Nat.le_of_ble_eq_true rfl)
  rw [lg_entry_eq]
  generalize (lg_sl ([.ref qO, .int p2, .long p3, .int p4, .ref qU]) ++ List.replicate (7 - (lg_sl ([.ref qO, .int p2, .long p3, .int p4, .ref qU])).length) Slot.unset).toArray = ls at hl ⊢
  have hl : lv_has ls 7 [(0, .ref qO), (1, .int p2), (2, .long p3), (4, .int p4), (5, .ref qU)] := hl
  have S : CallFix p m c b_Law_good 7 s _ TB R_Law := ⟨hx, hb, hml, hown, hts⟩
  unfold m_Law_good at hM
  refine lv_aload hx hb d_Law_good_0 (lv_at hl 4 rfl) ?_
  refine lv_iconst (v := 0) hx hb d_Law_good_2 (by decide) ?_
  refine lv_aload_n hx hb d_Law_good_3 rfl (lv_at hl 0 rfl) ?_
  refine lv_iload_n hx hb d_Law_good_4 rfl (lv_at hl 1 rfl) ?_
  refine lv_lload_n hx hb d_Law_good_5 rfl (lv_at hl 2 rfl) ?_
  refine lv_iload hx hb d_Law_good_6 (lv_at hl 3 rfl) ?_
  rcases bx1T hM with ⟨r_8, hc_8, hM⟩ | ⟨ee_8, hc_8, hM⟩
  · refine W.widen (k := 1) (n := 6) (Nat.le_of_ble_eq_true rfl) (Nat.le_of_ble_eq_true rfl) ?_
    refine ca_V (As := [.int p2, .long p3, .int p4]) (rest := [.int 0, .ref qU]) (wr := [(qU, .inl (cT 1, 1, .inr (.inl uout)))]) (w2 := [(qO, .inr (0, [.ref qT, .ref qR, .ref qP, .ref qL, .ref qF, .int done, .int brd, .int tup, .int tdn, .ref qOa, .int askd])), (qOa, .inl (cT 0, 149, .inl answ)), (qT, .inr (1, [.ref qTs, .int tlen, .int tpl])), (qTs, .inl (cT 2, 300, .inl tsg)), (qR, .inr (2, [.ref qRs, .int rlen, .int rsz])), (qRs, .inl (cT 2, 300, .inl rsg)), (qP, .inr (3, [.ref qPc, .ref qPl, .ref qPv, .int psz])), (qPc, .inl (cT 0, 12, .inl pcd)), (qPl, .inl (cT 0, 12, .inl pld)), (qPv, .inl (cT 1, 12, .inr (.inl pct))), (qL, .inr (4, [.ref qLj, .int lpr, .int (bI lful)])), (qLj, .inl (cT 0, 10, .inl ljn)), (qF, .inr (5, [.ref qFk, .ref qFf, .ref qFl, .int fsz])), (qFk, .inl (cT 0, 20, .inl fkd)), (qFf, .inl (cT 0, 20, .inl ffr)), (qFl, .inl (cT 0, 20, .inl fto)), (qU, .inl (cT 1, 1, .inr (.inl uout)))]) S hE (c_Or_good l D cT qO qOa qT qTs qR qRs qP qPc qPl qPv qL qLj qF qFk qFf qFl done brd tup tdn askd answ tlen tpl tsg rlen rsz rsg psz pcd pld pct lpr lful ljn fsz fkd ffr fto p2 p3 p4 hc_8) gw_b91df546 rfl rfl ⟨Nat.le_of_ble_eq_true rfl, Nat.le_of_ble_eq_true rfl⟩ (ci := 0) rfl rfl (k0 := 0) rfl rfl hl.1 rfl (Nat.le_of_ble_eq_true rfl) d_Law_good_8 ⟨Nat.le_of_ble_eq_true rfl, Nat.le_of_ble_eq_true rfl⟩ hP hD hS hA [0, 1, 2, 3, 4, 5, 6, 7, 8, 9, 10, 11, 12, 13, 14, 15] [16] [1, 2, 3, 4, 5, 6, 7, 8, 9, 10, 11, 12, 13, 14, 15, 16, 0] rfl rfl (by decide) (by decide) rfl (by decide) (by decide) (fun H locs hP hD hS => ?_)
    refine lv_if_eq (tgt := 18) hx hb d_Law_good_11 (by decide) (fun c_11 => ?_) (fun c_11 => ?_)
    · have hM := itT hM c_11
      refine lv_lconst (v := 0) hx hb d_Law_good_18 (by decide) ?_
      obtain ⟨hin_19, hM⟩ := ixT hM
      refine va_last hx hb hK hP hD hS 16 1 rfl rfl hin_19 d_Law_good_19 (fun H locs hP hD hS => ?_)
      have hP : va_P D classes [(qO, .inr (0, [.ref qT, .ref qR, .ref qP, .ref qL, .ref qF, .int done, .int brd, .int tup, .int tdn, .ref qOa, .int askd])), (qOa, .inl (cT 0, 149, .inl answ)), (qT, .inr (1, [.ref qTs, .int tlen, .int tpl])), (qTs, .inl (cT 2, 300, .inl tsg)), (qR, .inr (2, [.ref qRs, .int rlen, .int rsz])), (qRs, .inl (cT 2, 300, .inl rsg)), (qP, .inr (3, [.ref qPc, .ref qPl, .ref qPv, .int psz])), (qPc, .inl (cT 0, 12, .inl pcd)), (qPl, .inl (cT 0, 12, .inl pld)), (qPv, .inl (cT 1, 12, .inr (.inl pct))), (qL, .inr (4, [.ref qLj, .int lpr, .int (bI lful)])), (qLj, .inl (cT 0, 10, .inl ljn)), (qF, .inr (5, [.ref qFk, .ref qFf, .ref qFl, .int fsz])), (qFk, .inl (cT 0, 20, .inl fkd)), (qFf, .inl (cT 0, 20, .inl ffr)), (qFl, .inl (cT 0, 20, .inl fto)), (qU, .inl (cT 1, 1, .inr (.inl (vp_updL uout (0 : Int32).toNatClampNeg 0))))] H := hP
      have hD : va_D A [(qO, .inr (0, [.ref qT, .ref qR, .ref qP, .ref qL, .ref qF, .int done, .int brd, .int tup, .int tdn, .ref qOa, .int askd])), (qOa, .inl (cT 0, 149, .inl answ)), (qT, .inr (1, [.ref qTs, .int tlen, .int tpl])), (qTs, .inl (cT 2, 300, .inl tsg)), (qR, .inr (2, [.ref qRs, .int rlen, .int rsz])), (qRs, .inl (cT 2, 300, .inl rsg)), (qP, .inr (3, [.ref qPc, .ref qPl, .ref qPv, .int psz])), (qPc, .inl (cT 0, 12, .inl pcd)), (qPl, .inl (cT 0, 12, .inl pld)), (qPv, .inl (cT 1, 12, .inr (.inl pct))), (qL, .inr (4, [.ref qLj, .int lpr, .int (bI lful)])), (qLj, .inl (cT 0, 10, .inl ljn)), (qF, .inr (5, [.ref qFk, .ref qFf, .ref qFl, .int fsz])), (qFk, .inl (cT 0, 20, .inl fkd)), (qFf, .inl (cT 0, 20, .inl ffr)), (qFl, .inl (cT 0, 20, .inl fto)), (qU, .inl (cT 1, 1, .inr (.inl (vp_updL uout (0 : Int32).toNatClampNeg 0))))] := hD
      refine lv_goto (tgt := 27) hx hb d_Law_good_20 (by decide) ?_
      refine lv_iconst (v := 0) hx hb d_Law_good_27 (by decide) ?_
      obtain ⟨eo0, eo1⟩ := so2T hM
      subst eo0
      subst eo1
      exact rt_i S hr hlocks hP hD hS d_Law_good_28
    · have hM := itF hM c_11
      refine lv_lconst (v := 1) hx hb d_Law_good_14 (by decide) ?_
      refine lv_goto (tgt := 19) hx hb d_Law_good_15 (by decide) ?_
      obtain ⟨hin_19, hM⟩ := ixT hM
      refine va_last hx hb hK hP hD hS 16 1 rfl rfl hin_19 d_Law_good_19 (fun H locs hP hD hS => ?_)
      have hP : va_P D classes [(qO, .inr (0, [.ref qT, .ref qR, .ref qP, .ref qL, .ref qF, .int done, .int brd, .int tup, .int tdn, .ref qOa, .int askd])), (qOa, .inl (cT 0, 149, .inl answ)), (qT, .inr (1, [.ref qTs, .int tlen, .int tpl])), (qTs, .inl (cT 2, 300, .inl tsg)), (qR, .inr (2, [.ref qRs, .int rlen, .int rsz])), (qRs, .inl (cT 2, 300, .inl rsg)), (qP, .inr (3, [.ref qPc, .ref qPl, .ref qPv, .int psz])), (qPc, .inl (cT 0, 12, .inl pcd)), (qPl, .inl (cT 0, 12, .inl pld)), (qPv, .inl (cT 1, 12, .inr (.inl pct))), (qL, .inr (4, [.ref qLj, .int lpr, .int (bI lful)])), (qLj, .inl (cT 0, 10, .inl ljn)), (qF, .inr (5, [.ref qFk, .ref qFf, .ref qFl, .int fsz])), (qFk, .inl (cT 0, 20, .inl fkd)), (qFf, .inl (cT 0, 20, .inl ffr)), (qFl, .inl (cT 0, 20, .inl fto)), (qU, .inl (cT 1, 1, .inr (.inl (vp_updL uout (0 : Int32).toNatClampNeg 1))))] H := hP
      have hD : va_D A [(qO, .inr (0, [.ref qT, .ref qR, .ref qP, .ref qL, .ref qF, .int done, .int brd, .int tup, .int tdn, .ref qOa, .int askd])), (qOa, .inl (cT 0, 149, .inl answ)), (qT, .inr (1, [.ref qTs, .int tlen, .int tpl])), (qTs, .inl (cT 2, 300, .inl tsg)), (qR, .inr (2, [.ref qRs, .int rlen, .int rsz])), (qRs, .inl (cT 2, 300, .inl rsg)), (qP, .inr (3, [.ref qPc, .ref qPl, .ref qPv, .int psz])), (qPc, .inl (cT 0, 12, .inl pcd)), (qPl, .inl (cT 0, 12, .inl pld)), (qPv, .inl (cT 1, 12, .inr (.inl pct))), (qL, .inr (4, [.ref qLj, .int lpr, .int (bI lful)])), (qLj, .inl (cT 0, 10, .inl ljn)), (qF, .inr (5, [.ref qFk, .ref qFf, .ref qFl, .int fsz])), (qFk, .inl (cT 0, 20, .inl fkd)), (qFf, .inl (cT 0, 20, .inl ffr)), (qFl, .inl (cT 0, 20, .inl fto)), (qU, .inl (cT 1, 1, .inr (.inl (vp_updL uout (0 : Int32).toNatClampNeg 1))))] := hD
      refine lv_goto (tgt := 27) hx hb d_Law_good_20 (by decide) ?_
      refine lv_iconst (v := 0) hx hb d_Law_good_27 (by decide) ?_
      obtain ⟨eo0, eo1⟩ := so2T hM
      subst eo0
      subst eo1
      exact rt_i S hr hlocks hP hD hS d_Law_good_28
  · by_cases he_8_0 : ee_8 = 0
    · have hM := itT hM he_8_0
      subst he_8_0
      refine ex_tryV (As := [.int p2, .long p3, .int p4]) (rest := [.int 0, .ref qU]) S hE hTE (x_Or_good l hl0 D cT qO qOa qT qTs qR qRs qP qPc qPl qPv qL qLj qF qFk qFf qFl done brd tup tdn askd answ tlen tpl tsg rlen rsz rsg psz pcd pld pct lpr lful ljn fsz fkd ffr fto p2 p3 p4 hc_8) gw_b91df546 rfl rfl ⟨Nat.le_of_ble_eq_true rfl, Nat.le_of_ble_eq_true rfl⟩ (ci := 0) rfl rfl (k0 := 0) rfl rfl hl.1 rfl (Nat.le_of_ble_eq_true rfl) d_Law_good_8 ⟨Nat.le_of_ble_eq_true rfl, Nat.le_of_ble_eq_true rfl⟩ hP hD hS hA [0, 1, 2, 3, 4, 5, 6, 7, 8, 9, 10, 11, 12, 13, 14, 15] rfl (by decide) (fun H q9 ce hP hS hce hcv hcl => ?_)
      refine ex_catch1 (own := R_Law) (name := "java/lang/IllegalArgumentException") (E := "java/lang/IllegalArgumentException") hown ⟨0, 20, 23, 13⟩ [] (by rw [hTab]; rfl) (by decide) (by decide) (hts _ iw_c2c9bcb9) (va_Nw.use rfl (hTE.1 _ xl_0)) hce hcv hcl ?_
      refine lv_astore (lv' := [(6, .ref q9), (0, .ref qO), (1, .int p2), (2, .long p3), (4, .int p4), (5, .ref qU)]) hx hb d_Law_good_23 hl (by decide) rfl (fun ls hl => ?_)
      refine lv_iconst (v := 1) hx hb d_Law_good_25 (by decide) ?_
      obtain ⟨eo0, eo1⟩ := so2T hM
      subst eo0
      subst eo1
      exact rt_i S hr hlocks hP hD hS d_Law_good_26
    · have hM := itF hM he_8_0
      cases hM
def m_Law_own (p2 : Int32) (lful : Bool) (ljn : Nat → Int32) (uout : Nat → Int64) : Option (Int32 × (Nat → Int64)) :=
    bx1 (m_Or_own p2 lful ljn) (fun ee_4 =>
    if ee_4 = 0 then (
    some (1, uout))
    else none) (fun r_4 =>
    if (bI r_4) = 0 then (
    ixg 0 1 (
    some (0, vp_updL uout (0 : Int32).toNatClampNeg 0)))
    else (
    ixg 0 1 (
    some (0, vp_updL uout (0 : Int32).toNatClampNeg 1))))
def rm_Law_own : Room := { frames := 7, cells := 1, slots := 6, locals := 121 }
set_option maxHeartbeats 4000000 in
set_option maxRecDepth 100000 in
theorem c_Law_own (l : Launch) (hl0 : l.stackTraces = false) (D : va_G) (cT : Nat → ClassId) (qO : Nat) (qOa : Nat) (qT : Nat) (qTs : Nat) (qR : Nat) (qRs : Nat) (qP : Nat) (qPc : Nat) (qPl : Nat) (qPv : Nat) (qL : Nat) (qLj : Nat) (qF : Nat) (qFk : Nat) (qFf : Nat) (qFl : Nat) (qU : Nat) (done : Int32) (brd : Int32) (tup : Int32) (tdn : Int32) (askd : Int32) (answ : Nat → Int32) (tlen : Int32) (tpl : Int32) (tsg : Nat → Int32) (rlen : Int32) (rsz : Int32) (rsg : Nat → Int32) (psz : Int32) (pcd : Nat → Int32) (pld : Nat → Int32) (pct : Nat → Int64) (lpr : Int32) (lful : Bool) (ljn : Nat → Int32) (fsz : Int32) (fkd : Nat → Int32) (ffr : Nat → Int32) (fto : Nat → Int32) (uout : Nat → Int64) (p2 : Int32) {rr : Int32} {o_uout : Nat → Int64} (hM : m_Law_own p2 lful ljn uout = some (rr, o_uout)) : CtH l y_Law_own (WH y_Law_own b_Law_own 4 (some .int) [(0, 16, 19, 13)]) rm_Law_own D cT [.ref qO, .int p2, .ref qU] [(qO, .inr (0, [.ref qT, .ref qR, .ref qP, .ref qL, .ref qF, .int done, .int brd, .int tup, .int tdn, .ref qOa, .int askd])), (qOa, .inl (cT 0, 149, .inl answ)), (qT, .inr (1, [.ref qTs, .int tlen, .int tpl])), (qTs, .inl (cT 2, 300, .inl tsg)), (qR, .inr (2, [.ref qRs, .int rlen, .int rsz])), (qRs, .inl (cT 2, 300, .inl rsg)), (qP, .inr (3, [.ref qPc, .ref qPl, .ref qPv, .int psz])), (qPc, .inl (cT 0, 12, .inl pcd)), (qPl, .inl (cT 0, 12, .inl pld)), (qPv, .inl (cT 1, 12, .inr (.inl pct))), (qL, .inr (4, [.ref qLj, .int lpr, .int (bI lful)])), (qLj, .inl (cT 0, 10, .inl ljn)), (qF, .inr (5, [.ref qFk, .ref qFf, .ref qFl, .int fsz])), (qFk, .inl (cT 0, 20, .inl fkd)), (qFf, .inl (cT 0, 20, .inl ffr)), (qFl, .inl (cT 0, 20, .inl fto)), (qU, .inl (cT 1, 1, .inr (.inl uout)))] (some (.int rr)) [(qO, .inr (0, [.ref qT, .ref qR, .ref qP, .ref qL, .ref qF, .int done, .int brd, .int tup, .int tdn, .ref qOa, .int askd])), (qOa, .inl (cT 0, 149, .inl answ)), (qT, .inr (1, [.ref qTs, .int tlen, .int tpl])), (qTs, .inl (cT 2, 300, .inl tsg)), (qR, .inr (2, [.ref qRs, .int rlen, .int rsz])), (qRs, .inl (cT 2, 300, .inl rsg)), (qP, .inr (3, [.ref qPc, .ref qPl, .ref qPv, .int psz])), (qPc, .inl (cT 0, 12, .inl pcd)), (qPl, .inl (cT 0, 12, .inl pld)), (qPv, .inl (cT 1, 12, .inr (.inl pct))), (qL, .inr (4, [.ref qLj, .int lpr, .int (bI lful)])), (qLj, .inl (cT 0, 10, .inl ljn)), (qF, .inr (5, [.ref qFk, .ref qFf, .ref qFl, .int fsz])), (qFk, .inl (cT 0, 20, .inl fkd)), (qFf, .inl (cT 0, 20, .inl ffr)), (qFl, .inl (cT 0, 20, .inl fto)), (qU, .inl (cT 1, 1, .inr (.inl o_uout)))] 1 6 := by
  intro sz
  refine va_MetW (cc := b_Law_own) (maxL := 4) (ret := (some .int)) (hh := [(0, 16, 19, 13)]) (by decide) rfl ?_
  intro p e s m args below meth c s₁ B hml hv
  obtain ⟨rfl, hsz, hP, hE, hD0, hTE, hNc⟩ := hv
  have hx := B.exec
  have hb := B.bytes
  have hr := B.returns
  have hTab := tab_of B (atoms_spec (ws := WH y_Law_own b_Law_own 4 (some .int) [(0, 16, 19, 13)]) B.pre _ List.mem_cons_self)
  have hts : ∀ w ∈ TB, w.before _ s = true := fun w h => atoms_spec (ws := WH y_Law_own b_Law_own 4 (some .int) [(0, 16, 19, 13)]) B.pre w (List.mem_cons_of_mem _ h)
  have hown : s.vm.findClass R_Law = some m.cls := findClass_of_methodNamed B.named
  have hlocks := B.notSynchronized
  have hK := hE.1
  have hN := hE.2
  subst hsz
  have hD := hD0.self (sz := s.heap.size)
  generalize hAe : va_A [(qO, .inr (0, [.ref qT, .ref qR, .ref qP, .ref qL, .ref qF, .int done, .int brd, .int tup, .int tdn, .ref qOa, .int askd])), (qOa, .inl (cT 0, 149, .inl answ)), (qT, .inr (1, [.ref qTs, .int tlen, .int tpl])), (qTs, .inl (cT 2, 300, .inl tsg)), (qR, .inr (2, [.ref qRs, .int rlen, .int rsz])), (qRs, .inl (cT 2, 300, .inl rsg)), (qP, .inr (3, [.ref qPc, .ref qPl, .ref qPv, .int psz])), (qPc, .inl (cT 0, 12, .inl pcd)), (qPl, .inl (cT 0, 12, .inl pld)), (qPv, .inl (cT 1, 12, .inr (.inl pct))), (qL, .inr (4, [.ref qLj, .int lpr, .int (bI lful)])), (qLj, .inl (cT 0, 10, .inl ljn)), (qF, .inr (5, [.ref qFk, .ref qFf, .ref qFl, .int fsz])), (qFk, .inl (cT 0, 20, .inl fkd)), (qFf, .inl (cT 0, 20, .inl ffr)), (qFl, .inl (cT 0, 20, .inl fto)), (qU, .inl (cT 1, 1, .inr (.inl uout)))] s.heap.size = A at hD hTE ⊢
  have hA : ∀ q : Nat, s.heap.size ≤ q → A q := fun q h => by rw [← hAe]; exact Or.inr h
  have hS : va_S A s.heap s.heap [] := va_S.rf
  have hl := lv_entry ([.ref qO, .int p2, .ref qU]) (n := 4) (Nat.le_of_ble_eq_true rfl)
  rw [lg_entry_eq]
  generalize (lg_sl ([.ref qO, .int p2, .ref qU]) ++ List.replicate (4 - (lg_sl ([.ref qO, .int p2, .ref qU])).length) Slot.unset).toArray = ls at hl ⊢
  have hl : lv_has ls 4 [(0, .ref qO), (1, .int p2), (2, .ref qU)] := hl
  have S : CallFix p m c b_Law_own 4 s _ TB R_Law := ⟨hx, hb, hml, hown, hts⟩
  unfold m_Law_own at hM
  refine lv_aload_n hx hb d_Law_own_0 rfl (lv_at hl 2 rfl) ?_
  refine lv_iconst (v := 0) hx hb d_Law_own_1 (by decide) ?_
  refine lv_aload_n hx hb d_Law_own_2 rfl (lv_at hl 0 rfl) ?_
  refine lv_iload_n hx hb d_Law_own_3 rfl (lv_at hl 1 rfl) ?_
  rcases bx1T hM with ⟨r_4, hc_4, hM⟩ | ⟨ee_4, hc_4, hM⟩
  · refine W.widen (k := 1) (n := 6) (Nat.le_of_ble_eq_true rfl) (Nat.le_of_ble_eq_true rfl) ?_
    refine ca_V (As := [.int p2]) (rest := [.int 0, .ref qU]) (wr := [(qU, .inl (cT 1, 1, .inr (.inl uout)))]) (w2 := [(qO, .inr (0, [.ref qT, .ref qR, .ref qP, .ref qL, .ref qF, .int done, .int brd, .int tup, .int tdn, .ref qOa, .int askd])), (qOa, .inl (cT 0, 149, .inl answ)), (qT, .inr (1, [.ref qTs, .int tlen, .int tpl])), (qTs, .inl (cT 2, 300, .inl tsg)), (qR, .inr (2, [.ref qRs, .int rlen, .int rsz])), (qRs, .inl (cT 2, 300, .inl rsg)), (qP, .inr (3, [.ref qPc, .ref qPl, .ref qPv, .int psz])), (qPc, .inl (cT 0, 12, .inl pcd)), (qPl, .inl (cT 0, 12, .inl pld)), (qPv, .inl (cT 1, 12, .inr (.inl pct))), (qL, .inr (4, [.ref qLj, .int lpr, .int (bI lful)])), (qLj, .inl (cT 0, 10, .inl ljn)), (qF, .inr (5, [.ref qFk, .ref qFf, .ref qFl, .int fsz])), (qFk, .inl (cT 0, 20, .inl fkd)), (qFf, .inl (cT 0, 20, .inl ffr)), (qFl, .inl (cT 0, 20, .inl fto)), (qU, .inl (cT 1, 1, .inr (.inl uout)))]) S hE (c_Or_own l D cT qO qOa qT qTs qR qRs qP qPc qPl qPv qL qLj qF qFk qFf qFl done brd tup tdn askd answ tlen tpl tsg rlen rsz rsg psz pcd pld pct lpr lful ljn fsz fkd ffr fto p2 hc_4) gw_68a0c40f rfl rfl ⟨Nat.le_of_ble_eq_true rfl, Nat.le_of_ble_eq_true rfl⟩ (ci := 0) rfl rfl (k0 := 0) rfl rfl hl.1 rfl (Nat.le_of_ble_eq_true rfl) d_Law_own_4 ⟨Nat.le_of_ble_eq_true rfl, Nat.le_of_ble_eq_true rfl⟩ hP hD hS hA [0, 1, 2, 3, 4, 5, 6, 7, 8, 9, 10, 11, 12, 13, 14, 15] [16] [1, 2, 3, 4, 5, 6, 7, 8, 9, 10, 11, 12, 13, 14, 15, 16, 0] rfl rfl (by decide) (by decide) rfl (by decide) (by decide) (fun H locs hP hD hS => ?_)
    refine lv_if_eq (tgt := 14) hx hb d_Law_own_7 (by decide) (fun c_7 => ?_) (fun c_7 => ?_)
    · have hM := itT hM c_7
      refine lv_lconst (v := 0) hx hb d_Law_own_14 (by decide) ?_
      obtain ⟨hin_15, hM⟩ := ixT hM
      refine va_last hx hb hK hP hD hS 16 1 rfl rfl hin_15 d_Law_own_15 (fun H locs hP hD hS => ?_)
      have hP : va_P D classes [(qO, .inr (0, [.ref qT, .ref qR, .ref qP, .ref qL, .ref qF, .int done, .int brd, .int tup, .int tdn, .ref qOa, .int askd])), (qOa, .inl (cT 0, 149, .inl answ)), (qT, .inr (1, [.ref qTs, .int tlen, .int tpl])), (qTs, .inl (cT 2, 300, .inl tsg)), (qR, .inr (2, [.ref qRs, .int rlen, .int rsz])), (qRs, .inl (cT 2, 300, .inl rsg)), (qP, .inr (3, [.ref qPc, .ref qPl, .ref qPv, .int psz])), (qPc, .inl (cT 0, 12, .inl pcd)), (qPl, .inl (cT 0, 12, .inl pld)), (qPv, .inl (cT 1, 12, .inr (.inl pct))), (qL, .inr (4, [.ref qLj, .int lpr, .int (bI lful)])), (qLj, .inl (cT 0, 10, .inl ljn)), (qF, .inr (5, [.ref qFk, .ref qFf, .ref qFl, .int fsz])), (qFk, .inl (cT 0, 20, .inl fkd)), (qFf, .inl (cT 0, 20, .inl ffr)), (qFl, .inl (cT 0, 20, .inl fto)), (qU, .inl (cT 1, 1, .inr (.inl (vp_updL uout (0 : Int32).toNatClampNeg 0))))] H := hP
      have hD : va_D A [(qO, .inr (0, [.ref qT, .ref qR, .ref qP, .ref qL, .ref qF, .int done, .int brd, .int tup, .int tdn, .ref qOa, .int askd])), (qOa, .inl (cT 0, 149, .inl answ)), (qT, .inr (1, [.ref qTs, .int tlen, .int tpl])), (qTs, .inl (cT 2, 300, .inl tsg)), (qR, .inr (2, [.ref qRs, .int rlen, .int rsz])), (qRs, .inl (cT 2, 300, .inl rsg)), (qP, .inr (3, [.ref qPc, .ref qPl, .ref qPv, .int psz])), (qPc, .inl (cT 0, 12, .inl pcd)), (qPl, .inl (cT 0, 12, .inl pld)), (qPv, .inl (cT 1, 12, .inr (.inl pct))), (qL, .inr (4, [.ref qLj, .int lpr, .int (bI lful)])), (qLj, .inl (cT 0, 10, .inl ljn)), (qF, .inr (5, [.ref qFk, .ref qFf, .ref qFl, .int fsz])), (qFk, .inl (cT 0, 20, .inl fkd)), (qFf, .inl (cT 0, 20, .inl ffr)), (qFl, .inl (cT 0, 20, .inl fto)), (qU, .inl (cT 1, 1, .inr (.inl (vp_updL uout (0 : Int32).toNatClampNeg 0))))] := hD
      refine lv_goto (tgt := 22) hx hb d_Law_own_16 (by decide) ?_
      refine lv_iconst (v := 0) hx hb d_Law_own_22 (by decide) ?_
      obtain ⟨eo0, eo1⟩ := so2T hM
      subst eo0
      subst eo1
      exact rt_i S hr hlocks hP hD hS d_Law_own_23
    · have hM := itF hM c_7
      refine lv_lconst (v := 1) hx hb d_Law_own_10 (by decide) ?_
      refine lv_goto (tgt := 15) hx hb d_Law_own_11 (by decide) ?_
      obtain ⟨hin_15, hM⟩ := ixT hM
      refine va_last hx hb hK hP hD hS 16 1 rfl rfl hin_15 d_Law_own_15 (fun H locs hP hD hS => ?_)
      have hP : va_P D classes [(qO, .inr (0, [.ref qT, .ref qR, .ref qP, .ref qL, .ref qF, .int done, .int brd, .int tup, .int tdn, .ref qOa, .int askd])), (qOa, .inl (cT 0, 149, .inl answ)), (qT, .inr (1, [.ref qTs, .int tlen, .int tpl])), (qTs, .inl (cT 2, 300, .inl tsg)), (qR, .inr (2, [.ref qRs, .int rlen, .int rsz])), (qRs, .inl (cT 2, 300, .inl rsg)), (qP, .inr (3, [.ref qPc, .ref qPl, .ref qPv, .int psz])), (qPc, .inl (cT 0, 12, .inl pcd)), (qPl, .inl (cT 0, 12, .inl pld)), (qPv, .inl (cT 1, 12, .inr (.inl pct))), (qL, .inr (4, [.ref qLj, .int lpr, .int (bI lful)])), (qLj, .inl (cT 0, 10, .inl ljn)), (qF, .inr (5, [.ref qFk, .ref qFf, .ref qFl, .int fsz])), (qFk, .inl (cT 0, 20, .inl fkd)), (qFf, .inl (cT 0, 20, .inl ffr)), (qFl, .inl (cT 0, 20, .inl fto)), (qU, .inl (cT 1, 1, .inr (.inl (vp_updL uout (0 : Int32).toNatClampNeg 1))))] H := hP
      have hD : va_D A [(qO, .inr (0, [.ref qT, .ref qR, .ref qP, .ref qL, .ref qF, .int done, .int brd, .int tup, .int tdn, .ref qOa, .int askd])), (qOa, .inl (cT 0, 149, .inl answ)), (qT, .inr (1, [.ref qTs, .int tlen, .int tpl])), (qTs, .inl (cT 2, 300, .inl tsg)), (qR, .inr (2, [.ref qRs, .int rlen, .int rsz])), (qRs, .inl (cT 2, 300, .inl rsg)), (qP, .inr (3, [.ref qPc, .ref qPl, .ref qPv, .int psz])), (qPc, .inl (cT 0, 12, .inl pcd)), (qPl, .inl (cT 0, 12, .inl pld)), (qPv, .inl (cT 1, 12, .inr (.inl pct))), (qL, .inr (4, [.ref qLj, .int lpr, .int (bI lful)])), (qLj, .inl (cT 0, 10, .inl ljn)), (qF, .inr (5, [.ref qFk, .ref qFf, .ref qFl, .int fsz])), (qFk, .inl (cT 0, 20, .inl fkd)), (qFf, .inl (cT 0, 20, .inl ffr)), (qFl, .inl (cT 0, 20, .inl fto)), (qU, .inl (cT 1, 1, .inr (.inl (vp_updL uout (0 : Int32).toNatClampNeg 1))))] := hD
      refine lv_goto (tgt := 22) hx hb d_Law_own_16 (by decide) ?_
      refine lv_iconst (v := 0) hx hb d_Law_own_22 (by decide) ?_
      obtain ⟨eo0, eo1⟩ := so2T hM
      subst eo0
      subst eo1
      exact rt_i S hr hlocks hP hD hS d_Law_own_23
  · by_cases he_4_0 : ee_4 = 0
    · have hM := itT hM he_4_0
      subst he_4_0
      refine ex_tryV (As := [.int p2]) (rest := [.int 0, .ref qU]) S hE hTE (x_Or_own l hl0 D cT qO qOa qT qTs qR qRs qP qPc qPl qPv qL qLj qF qFk qFf qFl done brd tup tdn askd answ tlen tpl tsg rlen rsz rsg psz pcd pld pct lpr lful ljn fsz fkd ffr fto p2 hc_4) gw_68a0c40f rfl rfl ⟨Nat.le_of_ble_eq_true rfl, Nat.le_of_ble_eq_true rfl⟩ (ci := 0) rfl rfl (k0 := 0) rfl rfl hl.1 rfl (Nat.le_of_ble_eq_true rfl) d_Law_own_4 ⟨Nat.le_of_ble_eq_true rfl, Nat.le_of_ble_eq_true rfl⟩ hP hD hS hA [0, 1, 2, 3, 4, 5, 6, 7, 8, 9, 10, 11, 12, 13, 14, 15] rfl (by decide) (fun H q9 ce hP hS hce hcv hcl => ?_)
      refine ex_catch1 (own := R_Law) (name := "java/lang/IllegalArgumentException") (E := "java/lang/IllegalArgumentException") hown ⟨0, 16, 19, 13⟩ [] (by rw [hTab]; rfl) (by decide) (by decide) (hts _ iw_c2c9bcb9) (va_Nw.use rfl (hTE.1 _ xl_0)) hce hcv hcl ?_
      refine lv_astore_n (lv' := [(3, .ref q9), (0, .ref qO), (1, .int p2), (2, .ref qU)]) hx hb d_Law_own_19 rfl hl (by decide) rfl (fun ls hl => ?_)
      refine lv_iconst (v := 1) hx hb d_Law_own_20 (by decide) ?_
      obtain ⟨eo0, eo1⟩ := so2T hM
      subst eo0
      subst eo1
      exact rt_i S hr hlocks hP hD hS d_Law_own_21
    · have hM := itF hM he_4_0
      cases hM
